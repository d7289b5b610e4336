/** Each promise of the document: ordinary inputs, the edges that it names, and wrong inputs. */
final class PromisesTest extends Hands {
    private static final int[] FAR = {Integer.MIN_VALUE, -1000, -2, 1000, Integer.MAX_VALUE};
    private static final Checks CHECKS = new Checks();

    public static void main(String[] args) {
        CHECKS.due("BAD", BAD, -1);
        CHECKS.due("NONE", NONE, -2);
        CHECKS.due("FULL", FULL, -3);
        promise1();
        promise2();
        promise3();
        promise4();
        promise5();
        promise6();
        promise7();
        promise8Heads();
        promise8Repairs();
        promise8Edges();
        promise8Most();
        promise9Power();
        promise9Places();
        promise9Full();
        promise10();
        promise11();
        promise12();
        promise13();
        promise14();
        promise14Heads();
        promise15();
        promise15OfIt();
        promise15MadeAgain();
        promise15WhichRepairs();
        promise16();
        promise17();
        promise18();
        promise18Lengths();
        promise19();
        promise19Lost();
        promise19Starts();
        promise19Forty();
        promise20();
        CHECKS.finish();
    }

    private static void due(String call, long got, long want) {
        CHECKS.due(call, got, want);
    }

    // ---- helpers

    /** An ENTRY of so many bytes, which are first, first + 1, .. (of each the lowest 8 bits). */
    private static void addEntry(VolumeSets x, int length, int first) {
        tape(x, row(length, first));
        due("bytes of the TAPE ahead of entry()", x.count(2), length);
        x.entry();
    }

    /** Entries without any other bytes than 0. */
    private static void addZeros(VolumeSets x, int length) {
        enter(x, new int[length]);
    }

    private static void change(VolumeSets x, int slot, int i, int to) {
        int mask = peek(x, slot, i) ^ to;
        if (mask != 0) {
            due("poke", x.poke(slot, i, mask), to);
        }
    }

    /** Makes both SUMs of a SLOT right. */
    private static void seal(VolumeSets x, int slot) {
        changeSums(x, slot, sealed(bytesOf(x, slot)));
    }

    private static void forgeHead(VolumeSets x, int slot, int i, int to) {
        change(x, slot, i, to);
        int[] head = new int[HEAD];
        for (int k = 0; k < 10; k++) {
            head[k] = peek(x, slot, k);
        }
        changeSums(x, slot, headSealed(head));
    }

    /** The SUMs of a HEAD are made those of another row. */
    private static void changeSums(VolumeSets x, int slot, int[] to) {
        for (int i = 8; i < HEAD; i++) {
            change(x, slot, i, to[i]);
        }
    }

    // ---- the stream

    private static void promise1() {
        VolumeSets x = new VolumeSets();
        int[] counts = {0, 0, 0, 0, 0, 0, 32, 0, 0};
        for (int what = 0; what < counts.length; what++) {
            due("1: count(" + what + ")", x.count(what), counts[what]);
        }
        for (int i = 0; i < 60; i++) {
            due("1: slot(" + i + ", 0)", x.slot(i, 0), 0);
        }
        for (int what = 0; what <= 5; what++) {
            due("1: found(" + what + ")", x.found(what), NONE);
        }
        due("1: where(0)", x.where(0), BAD);
        due("1: got(0)", x.got(0), BAD);
        due("1: opened(0, 0)", x.opened(0, 0), BAD);
        due("1: end(20)", x.end(20), BAD);
        due("1: clear()", x.clear(), 0);
        VolumeSets y = new VolumeSets();
        y.write(-1);
        due("1: another object's SLOTS", x.count(3), 0);
    }

    private static void promise2() {
        VolumeSets x = new VolumeSets();
        due("2: feed", x.feed(0x01020304, 0x80FF007F, -1, 0, Integer.MIN_VALUE), 20);
        due("2: feed", x.feed(0x11121314, 0, 0, 0, 0x0A0B0C0D), 40);
        due("2: feed", x.feed(5, 6, 7, 8, 9), 60);
        due("2: feed above 60", x.feed(5, 6, 7, 8, 9), FULL);
        due("2: the TAPE behind it", x.count(2), 60);
        x.rule(0, 80);
        due("2: entry()", x.entry(), 0);
        int[] want = {1, 2, 3, 4, 128, 255, 0, 127, 255, 255, 255, 255, 0, 0, 0, 0, 128, 0, 0, 0,
            0x11, 0x12, 0x13, 0x14, 0, 0, 0, 0, 0, 0, 0, 0, 0, 0, 0, 0, 10, 11, 12, 13,
            0, 0, 0, 5, 0, 0, 0, 6, 0, 0, 0, 7, 0, 0, 0, 8, 0, 0, 0, 9};
        for (int i = 0; i < want.length; i++) {
            due("2: byteOf(0, " + (15 + i) + ")", x.byteOf(0, 15 + i), want[i]);
        }
        VolumeSets y = new VolumeSets();
        y.feed(1, 2, 3, 4, 5);
        y.feed(1, 2, 3, 4, 5);
        y.feed(1, 2, 3, 4, 5);
        y.end(1);
        due("2: feed behind 41", y.feed(1, 2, 3, 4, 5), FULL);
        due("2: end(20)", y.end(20), 41);
        due("2: end(19)", y.end(19), 40);
        due("2: feed behind 40", y.feed(1, 2, 3, 4, 5), 60);
    }

    private static void promise3() {
        VolumeSets x = new VolumeSets();
        due("3: end(0), no bytes", x.end(0), BAD);
        x.feed(0x01020304, 0x05060708, 0x090A0B0C, 0x0D0E0F10, 0x11121314);
        for (int n : new int[] {-1, 21, Integer.MIN_VALUE, Integer.MAX_VALUE}) {
            due("3: end(" + n + ")", x.end(n), BAD);
        }
        due("3: the TAPE behind these", x.count(2), 20);
        due("3: end(20)", x.end(20), 20);
        x.feed(0x15161718, 0x191A1B1C, 0x1D1E1F20, 0x21222324, 0x25262728);
        due("3: end(13)", x.end(13), 33);
        due("3: end(5), of the last twenty of 33", x.end(5), 18);
        due("3: end(5), of 18", x.end(5), BAD);
        due("3: end(20), of 18", x.end(20), BAD);
        due("3: the TAPE behind these", x.count(2), 18);
        x.rule(0, 80);
        x.entry();
        for (int i = 0; i < 18; i++) {
            due("3: byteOf(0, " + (15 + i) + ")", x.byteOf(0, 15 + i), i + 1);
        }
        due("3: byteOf(0, 33)", x.byteOf(0, 33), 0);
        x.feed(1, 2, 3, 4, 5);
        due("3: end(0)", x.end(0), 0);
    }

    private static void promise4() {
        VolumeSets x = new VolumeSets();
        due("4: entry() of no bytes", x.entry(), 0);
        due("4: bytes of THE STREAM", x.count(1), 3);
        x.feed(0x01020304, 0, 0, 0, 0);
        x.end(4);
        due("4: entry()", x.entry(), 1);
        due("4: the TAPE", x.count(2), 0);
        due("4: bytes of THE STREAM", x.count(1), 10);
        int four = sum(1, 2, 3, 4);
        int[] want = {0, 5381 & 255, 5381 >> 8, 4, four & 255, four >> 8, 1, 2, 3, 4, 0};
        for (int i = 0; i < want.length; i++) {
            due("4: byteOf(0, " + (12 + i) + ")", x.byteOf(0, 12 + i), want[i]);
        }
        for (int k = 2; k < 20; k++) {
            due("4: entry()", x.entry(), k);
        }
        x.feed(1, 2, 3, 4, 5);
        due("4: entry(), 20 are there", x.entry(), FULL);
        due("4: the TAPE behind it", x.count(2), 20);
        due("4: ENTRIES behind it", x.count(0), 20);
        due("4: bytes of THE STREAM behind it", x.count(1), 64);
    }

    private static void promise5() {
        VolumeSets x = new VolumeSets();
        due("5: clear()", x.clear(), 0);
        addEntry(x, 60, 100);
        addEntry(x, 7, 3);
        x.feed(1, 2, 3, 4, 5);
        x.rule(2, 9);
        x.write(-1);
        x.read(9);
        due("5: clear()", x.clear(), 2);
        due("5: ENTRIES", x.count(0), 0);
        due("5: bytes of THE STREAM", x.count(1), 0);
        due("5: the TAPE stays", x.count(2), 20);
        due("5: SLOTS stay", x.count(4), 4);
        due("5: SET stays", x.count(8), 9);
        due("5: what was READ stays", x.found(5), 2);
        due("5: volumes()", x.volumes(), 1);
        for (int i = 12; i < 32; i++) {
            due("5: byteOf(0, " + i + ")", x.byteOf(0, i), 0);
        }
        due("5: START", x.byteOf(0, 7), 255);
        due("5: entry()", x.entry(), 0);
        for (int k = 1; k < 20; k++) {
            x.entry();
        }
        due("5: entry()", x.entry(), FULL);
        due("5: clear()", x.clear(), 20);
        due("5: entry()", x.entry(), 0);
    }

    private static void promise6() {
        VolumeSets x = new VolumeSets();
        int[][] edges = {{20, 80, 32}, {0, 3, 0}, {0, 255, 0}};
        for (int what = 0; what < 3; what++) {
            int least = edges[what][0];
            int most = edges[what][1];
            due("6: rule to the least", x.rule(what, least), edges[what][2]);
            due("6: rule to the most", x.rule(what, most), least);
            due("6: rule below", x.rule(what, least - 1), BAD);
            due("6: rule above", x.rule(what, most + 1), BAD);
            for (int v : FAR) {
                due("6: rule(" + what + ", " + v + ")", x.rule(what, v), BAD);
            }
            due("6: it stays", x.count(6 + what), most);
            due("6: rule", x.rule(what, least + 1), most);
            due("6: it is changed", x.count(6 + what), least + 1);
        }
        due("6: SIZE is as it was left", x.count(6), 21);
        due("6: rule(3, 1)", x.rule(3, 1), BAD);
        due("6: rule(-1, 1)", x.rule(-1, 1), BAD);
        for (int what : FAR) {
            due("6: rule(" + what + ", 20)", x.rule(what, 20), BAD);
        }
        x.rule(2, 77);
        due("6: SET is in the HEAD", x.byteOf(0, 2), 77);
    }

    private static void promise7() {
        VolumeSets x = new VolumeSets();
        due("7: volumes(), no ENTRY", x.volumes(), 1);
        x.rule(1, 3);
        due("7: volumes(), no ENTRY, 3 REPAIRS", x.volumes(), 4);
        x.rule(1, 0);
        addEntry(x, 17, 0);
        due("7: volumes() of 20 bytes", x.volumes(), 1);
        x.entry();
        due("7: volumes() of 23 bytes", x.volumes(), 2);
        x.rule(0, 35);
        due("7: volumes() of 23 bytes, SIZE 35", x.volumes(), 1);
        x.rule(0, 34);
        due("7: volumes() of 23 bytes, SIZE 34", x.volumes(), 2);

        VolumeSets y = new VolumeSets();
        for (int k = 0; k < 7; k++) {
            addEntry(y, 60, k);
        }
        y.rule(0, 20);
        addEntry(y, 36, 0);
        due("7: volumes() of 480 bytes, SIZE 20", y.volumes(), 60);
        y.rule(1, 1);
        due("7: volumes(), 60 and a REPAIR", y.volumes(), FULL);
        y.rule(1, 0);
        y.entry();
        due("7: volumes() of 483 bytes, SIZE 20", y.volumes(), FULL);
        y.rule(1, 3);
        y.rule(0, 21);
        due("7: volumes() of 483 bytes, SIZE 21, 3 REPAIRS", y.volumes(), 57);
        for (int k = 0; k < 12; k++) {
            addEntry(y, 60, k);
        }
        y.rule(0, 20);
        due("7: volumes() of 1239 bytes, SIZE 20", y.volumes(), FULL);
    }

    private static void promise8Heads() {
        VolumeSets x = new VolumeSets();
        x.rule(2, 200);
        x.rule(1, 2);
        x.entry();
        addEntry(x, 40, 7);
        addEntry(x, 5, 1);
        // 3 + 43 + 8 bytes: an ENTRY begins at 0, at 3, and at 46.
        int[] lengths = {20, 20, 14};
        int[] starts = {0, 255, 6};
        int[] stream = new int[60];
        int[] entry = new int[40];
        for (int i = 0; i < 40; i++) {
            entry[i] = 7 + i;
            stream[6 + i] = entry[i];
        }
        stream[1] = 5381 & 255;
        stream[2] = 5381 >> 8;
        stream[3] = 40;
        stream[4] = sum(entry) & 255;
        stream[5] = sum(entry) >> 8;
        stream[46] = 5;
        stream[47] = sum(1, 2, 3, 4, 5) & 255;
        stream[48] = sum(1, 2, 3, 4, 5) >> 8;
        for (int i = 0; i < 5; i++) {
            stream[49 + i] = i + 1;
        }
        due("8: volumes()", x.volumes(), 5);
        for (int n = 0; n < 3; n++) {
            int[] body = java.util.Arrays.copyOfRange(stream, n * 20, n * 20 + 20);
            int[] head = {86, 83, 200, n, 3, 2, lengths[n], starts[n], sum(body) & 255, sum(body) >> 8};
            for (int i = 0; i < 10; i++) {
                due("8: byteOf(" + n + ", " + i + ")", x.byteOf(n, i), head[i]);
            }
            due("8: byteOf(" + n + ", 10)", x.byteOf(n, 10), sum(head) & 255);
            due("8: byteOf(" + n + ", 11)", x.byteOf(n, 11), sum(head) >> 8);
            for (int i = 0; i < 20; i++) {
                due("8: byteOf(" + n + ", " + (12 + i) + ")", x.byteOf(n, 12 + i), body[i]);
            }
        }
    }

    private static void promise8Repairs() {
        VolumeSets x = new VolumeSets();
        x.rule(0, 22);
        x.rule(1, 3);
        addEntry(x, 31, 190);
        addEntry(x, 2, 250);
        int m = x.volumes() - 3;
        due("8: m", m, 4);
        for (int j = 0; j < 3; j++) {
            int[] head = new int[10];
            int[] body = new int[10];
            for (int i = 0; i < 22; i++) {
                int mixed = 0;
                for (int n = 0; n < m; n++) {
                    mixed ^= times(power(j * n), x.byteOf(n, i));
                }
                int got = x.byteOf(m + j, i);
                if (i == 6 || i == 7 || i >= 12) {
                    due("8: byteOf(" + (m + j) + ", " + i + ")", got, mixed);
                }
                if (i < 10) {
                    head[i] = got;
                } else if (i >= 12) {
                    body[i - 12] = got;
                }
            }
            int[] want = {86, 83, 0, m + j, m, 3, head[6], head[7], sum(body) & 255, sum(body) >> 8};
            for (int i = 0; i < 10; i++) {
                due("8: byteOf(" + (m + j) + ", " + i + ")", head[i], want[i]);
            }
            due("8: the SUM of the HEAD", x.byteOf(m + j, 10) + 256 * x.byteOf(m + j, 11), sum(want));
        }
    }

    private static void promise8Edges() {
        // An ENTRY that begins just behind a PIECE does not begin in it.
        VolumeSets z = new VolumeSets();
        addEntry(z, 37, 1);
        z.entry();
        due("8: START of VOLUME 1", z.byteOf(1, 7), 255);
        due("8: START of VOLUME 2", z.byteOf(2, 7), 0);
        // What was cut into more PIECES leaves nothing behind.
        z.rule(1, 2);
        z.rule(0, 20);
        due("8: volumes() at SIZE 20", z.volumes(), 8);
        z.byteOf(0, 0);
        z.rule(0, 50);
        for (int i : new int[] {6, 7, 12, 49}) {
            due("8: byteOf(3, " + i + ")", z.byteOf(3, i), z.byteOf(0, i) ^ times(2, z.byteOf(1, i)));
        }
        VolumeSets x = new VolumeSets();
        x.rule(1, 1);
        due("8: byteOf(0, 31)", x.byteOf(0, 31), 0);
        due("8: byteOf(0, 32)", x.byteOf(0, 32), BAD);
        due("8: byteOf(0, -1)", x.byteOf(0, -1), BAD);
        due("8: byteOf(1, 3)", x.byteOf(1, 3), 1);
        due("8: byteOf(1, 7)", x.byteOf(1, 7), 255);
        due("8: byteOf(2, 0)", x.byteOf(2, 0), BAD);
        due("8: byteOf(-1, 0)", x.byteOf(-1, 0), BAD);
        for (int far : FAR) {
            due("8: byteOf(" + far + ", 0)", x.byteOf(far, 0), BAD);
            due("8: byteOf(0, " + far + ")", x.byteOf(0, far), BAD);
        }
        x.rule(0, 80);
        due("8: byteOf(0, 79)", x.byteOf(0, 79), 0);
        due("8: byteOf(0, 80)", x.byteOf(0, 80), BAD);
        x.rule(0, 20);
        due("8: byteOf(0, 20)", x.byteOf(0, 20), BAD);
        for (int k = 0; k < 8; k++) {
            addEntry(x, 60, k);
        }
        due("8: byteOf(0, 0), above 60", x.byteOf(0, 0), FULL);
        due("8: byteOf(-1, 0), FULL goes ahead", x.byteOf(-1, 0), FULL);
        due("8: byteOf(0, 99), FULL goes ahead", x.byteOf(0, 99), FULL);
        due("8: nothing is written by it", x.count(3), 0);
    }

    /** The longest STREAM: 1,260 bytes, at SIZE 33 in just 60 PIECES. */
    private static void promise8Most() {
        VolumeSets x = new VolumeSets();
        for (int k = 0; k < 20; k++) {
            addEntry(x, 60, 10 * k);
        }
        due("8: bytes of THE STREAM", x.count(1), 1260);
        due("8: volumes() at SIZE 32", x.volumes(), FULL);
        x.rule(0, 33);
        due("8: volumes() at SIZE 33", x.volumes(), 60);
        due("8: byteOf(59, 3)", x.byteOf(59, 3), 59);
        due("8: byteOf(59, 32)", x.byteOf(59, 32), 249);
        due("8: byteOf(60, 0)", x.byteOf(60, 0), BAD);
        due("9: write(-1) of 60", x.write(-1), 60);
        x.lose(0);
        due("15: read(0)", x.read(0), 59);
        due("18: got(1259)", x.got(1259), 249);
        due("18: got(1260)", x.got(1260), BAD);
        due("16: found(5)", x.found(5), 19);
        due("19: opened(18, 0)", x.opened(18, 0), 1197);
        x.rule(0, 80);
        x.rule(1, 3);
        due("8: volumes() at SIZE 80, with 3 REPAIRS", x.volumes(), 22);
        due("8: byteOf(18, 6)", x.byteOf(18, 6), 1260 - 18 * 68);
        due("8: byteOf(18, 47)", x.byteOf(18, 47), 249);
        due("8: byteOf(18, 48)", x.byteOf(18, 48), 0);
    }

    // ---- slots

    private static void promise9Power() {
        VolumeSets x = new VolumeSets();
        x.rule(0, 33);
        x.rule(1, 1);
        addEntry(x, 60, 1);
        // 63 bytes in PIECES of 21, and a REPAIR.
        due("9: write(2)", x.write(2), 2);
        due("9: SLOTS that are not empty", x.count(3), 3);
        due("9: GOOD ones", x.count(4), 2);
        due("9: SPOILT ones", x.count(5), 1);
        for (int i = 0; i < 33; i++) {
            int want = i < 16 ? x.byteOf(2, i) : 0;
            due("9: byte " + i + " of the CUT one", peek(x, 2, i), want);
        }
        due("9: write(0), CUT at once", x.write(0), 0);
        due("9: SLOTS that are not empty, the CUT one has just the bytes of none", x.count(3), 4);
        due("9: write(1)", x.write(1), 1);
        due("9: slot(4, 2)", x.slot(4, 2), 2);
        due("9: slot(4, 0)", x.slot(4, 0), 1);
        due("9: slot(5, 2), the REPAIR is CUT", x.slot(5, 2), 3);
        due("9: slot(5, 0)", x.slot(5, 0), 2);
        due("9: write(1), just as many as are due", x.write(1), 1);
        due("9: SLOTS that are not empty", x.count(3), 7);
        due("9: write(0), all are there", x.write(0), 0);
        due("9: write(-1), all are there", x.write(-1), 0);
        due("9: SLOTS that are not empty", x.count(3), 7);
        for (int n : new int[] {-2, 61, Integer.MIN_VALUE, Integer.MAX_VALUE}) {
            due("9: write(" + n + ")", x.write(n), BAD);
        }
        x.rule(2, 1);
        due("9: write(60)", x.write(60), 4);
        due("9: slot(7, 1)", x.slot(7, 1), 1);

        VolumeSets y = new VolumeSets();
        due("9: write(0) of a VOLUME whose second half is 0s", y.write(0), 0);
        due("9: the CUT one has all bytes", y.slot(0, 0), 1);
        due("9: write(-1), so it is there", y.write(-1), 0);
        y.rule(0, 20);
        due("9: write(0) at SIZE 20", y.write(0), 0);
        due("9: its HEAD is cut off", y.slot(1, 0), 3);
        due("9: byte 9", peek(y, 1, 9), y.byteOf(0, 9));
        due("9: byte 10", peek(y, 1, 10), 0);
        due("9: byte 11", peek(y, 1, 11), 0);
    }

    private static void promise9Places() {
        VolumeSets x = new VolumeSets();
        addEntry(x, 60, 1);
        // 63 bytes in PIECES of 20: four VOLUMES.
        x.write(-1);
        x.lose(1);
        x.lose(3);
        x.swap(0, 10);
        due("9: write(-1) of two", x.write(-1), 2);
        due("9: into the least empty SLOT", x.slot(0, 2), 1);
        due("9: into the next empty SLOT", x.slot(1, 2), 3);
        due("9: SLOT 3 stays empty", x.slot(3, 0), 0);
        due("9: a moved one is there", x.slot(10, 2), 0);
        x.poke(10, 31, 1);
        due("9: a spoilt one is written again", x.write(-1), 1);
        due("9: where it is", x.slot(3, 2), 0);
        due("9: the spoilt one stays", x.slot(10, 0), 2);
        x.poke(3, 0, 1);
        due("9: one without a HEAD is written again", x.write(-1), 1);
        x.rule(0, 33);
        due("9: another SIZE has other bytes", x.write(-1), 3);
        x.clear();
        addZeros(x, 20);
        x.rule(0, 40);
        due("9: write(-1)", x.write(-1), 1);
        x.rule(0, 41);
        due("9: one of another length is not there", x.write(-1), 1);
    }

    private static void promise9Full() {
        VolumeSets x = new VolumeSets();
        addEntry(x, 60, 1);
        x.write(-1);
        for (int b = 4; b < 58; b++) {
            x.copy(0, b);
        }
        due("9: SLOTS that are not empty", x.count(3), 58);
        x.rule(2, 1);
        due("9: write(-1), 4 into 2", x.write(-1), FULL);
        due("9: write(2), 2 and a CUT one into 2", x.write(2), FULL);
        due("9: write(60), 4 into 2", x.write(60), FULL);
        due("9: nothing is written", x.count(3), 58);
        due("9: write(1), 1 and a CUT one into 2", x.write(1), 1);
        due("9: SLOTS that are not empty", x.count(3), 60);
        due("9: write(0) into none", x.write(0), FULL);
        x.rule(2, 0);
        due("9: write(-1), all are there", x.write(-1), 0);
        due("9: write(61), BAD", x.write(61), BAD);
        x.lose(59);
        x.lose(58);
        x.lose(57);
        x.lose(56);
        x.rule(2, 2);
        due("9: write(-1), 4 into 4", x.write(-1), 4);
        due("9: SLOTS that are not empty", x.count(3), 60);

        x.lose(59);
        x.lose(58);
        x.lose(57);
        x.lose(56);
        x.rule(2, 3);
        x.rule(1, 1);
        due("9: write(-1), 4 and a REPAIR into 4", x.write(-1), FULL);
        due("9: write(4), 4 and a CUT one into 4", x.write(4), FULL);
        due("9: nothing is written", x.count(3), 56);
        due("9: write(3), 3 and a CUT one into 4", x.write(3), 3);

        VolumeSets y = new VolumeSets();
        y.rule(0, 20);
        for (int k = 0; k < 8; k++) {
            addEntry(y, 60, k);
        }
        due("9: write(-1), above 60", y.write(-1), FULL);
        due("9: write(0), above 60", y.write(0), FULL);
        due("9: write(-2), BAD is told ahead", y.write(-2), BAD);
        due("9: nothing is written", y.count(3), 0);
    }

    private static void promise10() {
        VolumeSets x = new VolumeSets();
        x.rule(0, 80);
        x.write(-1);
        due("10: lose(1), empty", x.lose(1), BAD);
        due("10: lose(0)", x.lose(0), 80);
        due("10: lose(0), empty", x.lose(0), BAD);
        due("10: slot(0, 0)", x.slot(0, 0), 0);
        due("10: SLOTS that are not empty", x.count(3), 0);
        x.rule(0, 20);
        x.write(-1);
        x.swap(0, 59);
        due("10: lose(60)", x.lose(60), BAD);
        due("10: lose(-1)", x.lose(-1), BAD);
        for (int far : FAR) {
            due("10: lose(" + far + ")", x.lose(far), BAD);
        }
        due("10: lose(59)", x.lose(59), 20);
    }

    private static void promise11() {
        VolumeSets x = new VolumeSets();
        due("11: poke(0, 0, 1), empty", x.poke(0, 0, 1), BAD);
        x.write(-1);
        due("11: poke(0, 0, 1)", x.poke(0, 0, 1), 87);
        due("11: it stays", x.slot(0, 0), 3);
        due("11: poke(0, 0, 255)", x.poke(0, 0, 255), 168);
        due("11: poke(0, 0, 254)", x.poke(0, 0, 254), 86);
        due("11: as it was", x.slot(0, 0), 1);
        due("11: poke(0, 31, 128)", x.poke(0, 31, 128), 128);
        due("11: its state", x.slot(0, 0), 2);
        due("11: poke(0, 32, 1)", x.poke(0, 32, 1), BAD);
        due("11: poke(0, -1, 1)", x.poke(0, -1, 1), BAD);
        due("11: poke(0, 0, 0)", x.poke(0, 0, 0), BAD);
        due("11: poke(0, 0, 256)", x.poke(0, 0, 256), BAD);
        due("11: poke(60, 0, 1)", x.poke(60, 0, 1), BAD);
        due("11: poke(-1, 0, 1)", x.poke(-1, 0, 1), BAD);
        due("11: poke(1, 0, 1), empty", x.poke(1, 0, 1), BAD);
        for (int far : FAR) {
            due("11: poke(" + far + ", 0, 1)", x.poke(far, 0, 1), BAD);
            due("11: poke(0, " + far + ", 1)", x.poke(0, far, 1), BAD);
            due("11: poke(0, 0, " + far + ")", x.poke(0, 0, far), BAD);
        }
        x.lose(0);
        due("11: poke(0, 0, 1), lost", x.poke(0, 0, 1), BAD);
    }

    private static void promise12() {
        VolumeSets x = new VolumeSets();
        x.write(-1);
        x.rule(0, 40);
        x.rule(2, 5);
        x.write(-1);
        due("12: swap(0, 1)", x.swap(0, 1), 1);
        due("12: slot(0, 5)", x.slot(0, 5), 40);
        due("12: slot(0, 1)", x.slot(0, 1), 5);
        due("12: slot(1, 5)", x.slot(1, 5), 32);
        due("12: slot(1, 1)", x.slot(1, 1), 0);
        due("12: swap(0, 59), one has nothing", x.swap(0, 59), 1);
        due("12: slot(0, 0)", x.slot(0, 0), 0);
        due("12: slot(59, 5)", x.slot(59, 5), 40);
        due("12: swap(2, 3), both have nothing", x.swap(2, 3), 1);
        due("12: swap(59, 59)", x.swap(59, 59), 1);
        due("12: slot(59, 0)", x.slot(59, 0), 1);
        for (int far : new int[] {-1, 60, Integer.MIN_VALUE, Integer.MAX_VALUE}) {
            due("12: swap(" + far + ", 0)", x.swap(far, 0), BAD);
            due("12: swap(59, " + far + ")", x.swap(59, far), BAD);
        }
        due("12: slot(59, 0)", x.slot(59, 0), 1);
        x.poke(1, 0, 1);
        due("12: each has bytes of its own", x.slot(59, 0), 1);
    }

    private static void promise13() {
        VolumeSets x = new VolumeSets();
        addEntry(x, 30, 1);
        x.write(-1);
        due("13: copy(1, 59)", x.copy(1, 59), 32);
        for (int i = 0; i < 32; i++) {
            due("13: byte " + i, peek(x, 59, i), peek(x, 1, i));
        }
        x.poke(59, 12, 9);
        due("13: the one from which it comes is its own", x.slot(1, 0), 1);
        due("13: copy of a spoilt one", x.copy(59, 2), 32);
        due("13: slot(2, 0)", x.slot(2, 0), 2);
        due("13: copy(0, 1), b is not empty", x.copy(0, 1), BAD);
        due("13: copy(5, 6), a is empty", x.copy(5, 6), BAD);
        due("13: copy(0, 0)", x.copy(0, 0), BAD);
        due("13: copy(5, 5)", x.copy(5, 5), BAD);
        for (int far : new int[] {-1, 60, Integer.MIN_VALUE, Integer.MAX_VALUE}) {
            due("13: copy(" + far + ", 7)", x.copy(far, 7), BAD);
            due("13: copy(0, " + far + ")", x.copy(0, far), BAD);
        }
        due("13: SLOTS that are not empty", x.count(3), 4);
    }

    private static void promise14() {
        VolumeSets x = new VolumeSets();
        x.rule(2, 250);
        x.rule(1, 3);
        addEntry(x, 30, 1);
        x.write(-1);
        int[] of3 = {1, 250, 3, 2, 3, 32};
        for (int what = 0; what <= 5; what++) {
            due("14: GOOD: slot(3, " + what + ")", x.slot(3, what), of3[what]);
        }
        x.poke(3, 20, 1);
        of3[0] = 2;
        for (int what = 0; what <= 5; what++) {
            due("14: SPOILT: slot(3, " + what + ")", x.slot(3, what), of3[what]);
        }
        x.poke(3, 6, 1);
        int[] noHead = {3, NONE, NONE, NONE, NONE, 32};
        for (int what = 0; what <= 5; what++) {
            due("14: no HEAD: slot(3, " + what + ")", x.slot(3, what), noHead[what]);
        }
        due("14: empty: slot(59, 0)", x.slot(59, 0), 0);
        for (int what = 1; what <= 5; what++) {
            due("14: empty: slot(59, " + what + ")", x.slot(59, what), NONE);
        }
        for (int far : new int[] {-1, 60, Integer.MIN_VALUE, Integer.MAX_VALUE}) {
            due("14: slot(" + far + ", 0)", x.slot(far, 0), BAD);
        }
        for (int far : new int[] {-1, 6, Integer.MIN_VALUE, Integer.MAX_VALUE}) {
            due("14: slot(0, " + far + ")", x.slot(0, far), BAD);
            due("14: slot(59, " + far + "), empty", x.slot(59, far), BAD);
        }
    }

    /** HEADs that are changed, with their SUM made right again. */
    private static void promise14Heads() {
        // place, value, STATE: of VOLUME 1 of 2, with 1 REPAIR
        int[][] rows = {{0, 85, 3}, {1, 84, 3}, {2, 255, 1}, {3, 2, 1}, {3, 3, 3}, {3, 255, 3}, {4, 0, 3}, {4, 1, 1},
            {4, 60, 1}, {4, 61, 3}, {4, 255, 3}, {5, 0, 1}, {5, 3, 1}, {5, 4, 3}, {5, 255, 3}, {6, 255, 1}, {7, 254, 1},
            {8, 1, 2}, {9, 1, 2}};
        for (int[] row : rows) {
            VolumeSets x = new VolumeSets();
            x.rule(1, 1);
            addEntry(x, 30, 1);
            x.write(-1);
            due("14: it is VOLUME 1", x.slot(1, 2), 1);
            forgeHead(x, 1, row[0], row[1]);
            due("14: byte " + row[0] + " is " + row[1] + ": slot(1, 0)", x.slot(1, 0), row[2]);
            x.poke(1, 10, 1);
            due("14: another SUM of the HEAD", x.slot(1, 0), 3);
            x.poke(1, 10, 1);
            x.poke(1, 11, 128);
            due("14: another SUM of the HEAD", x.slot(1, 0), 3);
        }
        VolumeSets x = new VolumeSets();
        x.write(-1);
        forgeHead(x, 0, 4, 60);
        forgeHead(x, 0, 5, 3);
        forgeHead(x, 0, 3, 62);
        due("14: number 62 of 60 and 3", x.slot(0, 0), 1);
        due("14: its number", x.slot(0, 2), 62);
        forgeHead(x, 0, 3, 63);
        due("14: number 63 of 60 and 3", x.slot(0, 0), 3);
    }

    // ---- reading

    /** Entries of 45, 3, 0, 20 bytes, in four VOLUMES of SIZE 32 (80 bytes): they begin at 0, 48, 54, 57. */
    private static VolumeSets four(int repairs, int set) {
        VolumeSets x = new VolumeSets();
        x.rule(1, repairs);
        x.rule(2, set);
        addEntry(x, 45, 1);
        addEntry(x, 3, 70);
        x.entry();
        addEntry(x, 20, 90);
        due("four: volumes()", x.volumes(), 4 + repairs);
        due("four: write(-1)", x.write(-1), 4 + repairs);
        return x;
    }

    private static void promise15() {
        VolumeSets x = four(0, 7);
        due("15: read(7)", x.read(7), 4);
        for (int set : new int[] {-1, 256, Integer.MIN_VALUE, Integer.MAX_VALUE}) {
            due("15: read(" + set + ")", x.read(set), BAD);
            due("15: what was READ stays", x.found(0), 4);
        }
        due("15: read(0)", x.read(0), NONE);
        due("15: nothing is READ", x.found(0), NONE);
        due("15: nothing is READ", x.where(0), BAD);
        due("15: nothing is READ", x.got(0), BAD);
        due("15: nothing is READ", x.opened(0, 0), BAD);
        x.lose(2);
        due("15: read(7), one is missing", x.read(7), 3);
        x.poke(0, 12, 1);
        due("15: read(7), one is spoilt", x.read(7), 2);
        x.poke(1, 0, 1);
        due("15: read(7), one has no HEAD", x.read(7), 1);
        x.poke(3, 31, 1);
        due("15: read(7), none is GOOD", x.read(7), NONE);
        x.poke(3, 31, 1);
        x.swap(3, 59);
        due("15: read(7), in SLOT 59", x.read(7), 1);
        forgeHead(x, 59, 2, 255);
        due("15: read(255)", x.read(255), 1);
        forgeHead(x, 59, 2, 0);
        due("15: read(0)", x.read(0), 1);
        due("15: read(7)", x.read(7), NONE);
    }

    /** The first SLOT tells m, r and bytes: others are not OF IT. */
    private static void promise15OfIt() {
        VolumeSets x = four(0, 7);
        x.rule(0, 33);
        due("15: others, of SIZE 33", x.write(-1), 4);
        x.rule(0, 32);
        x.rule(1, 1);
        due("15: others, with a REPAIR", x.write(-1), 5);
        x.rule(1, 0);
        x.entry();
        x.rule(2, 8);
        due("15: others, of SET 8", x.write(-1), 5);
        due("15: read(7)", x.read(7), 4);
        due("15: where(3)", x.where(3), 3);
        x.lose(3);
        due("15: read(7), those of SIZE 33 or with a REPAIR are not OF IT", x.read(7), 3);
        x.swap(0, 7);
        due("15: read(7), the first one is now of SIZE 33", x.read(7), 4);
        due("15: bytes", x.found(2), 33);
        x.swap(0, 12);
        due("15: read(7), the first one is now the REPAIR", x.read(7), 4);
        due("15: r", x.found(1), 1);
        due("15: where(4)", x.where(4), 0);
        due("15: where(3)", x.where(3), 11);
        x.copy(11, 3);
        due("15: read(7), two of a number", x.read(7), 4);
        due("15: where(3), the first one counts", x.where(3), 3);
        x.poke(3, 12, 1);
        due("15: read(7), the first one is spoilt", x.read(7), 4);
        due("15: where(3)", x.where(3), 11);
        due("15: read(8)", x.read(8), 5);
        due("15: where(0)", x.where(0), 13);
        // Another m alone.
        VolumeSets y = four(0, 7);
        forgeHead(y, 2, 4, 5);
        due("15: read(7), one tells another m", y.read(7), 3);
        due("15: where(2)", y.where(2), NONE);
    }

    private static void promise15MadeAgain() {
        for (int gone = 0; gone < 128; gone++) {
            VolumeSets x = four(3, 7);
            int missing = Integer.bitCount(gone & 15);
            int repairs = 3 - Integer.bitCount(gone >> 4);
            for (int n = 0; n < 7; n++) {
                if ((gone >> n & 1) == 1) {
                    x.lose(n);
                }
            }
            String of = "15: gone " + Integer.toBinaryString(gone) + ": ";
            boolean made = missing <= repairs;
            if (gone == 127) {
                due(of + "read(7)", x.read(7), NONE);
                continue;
            }
            due(of + "read(7)", x.read(7), made ? 4 : 4 - missing);
            due(of + "MADE AGAIN", x.found(3), made ? missing : 0);
            for (int n = 0; n < 7; n++) {
                int none = n < 4 && made ? 100 : NONE;
                due(of + "where(" + n + ")", x.where(n), (gone >> n & 1) == 0 ? n : none);
            }
            for (int i = 0; made && i < 80; i++) {
                due(of + "got(" + i + ")", x.got(i), x.byteOf(i / 20, 12 + i % 20));
            }
            if (made) {
                due(of + "OPENED", x.found(5), 4);
            }
        }
    }

    /** As many REPAIRS as are missing count, those with the least numbers. */
    private static void promise15WhichRepairs() {
        VolumeSets x = four(3, 7);
        // REPAIR 2 is changed by 16 at byte 12: it is 2 ^ (2 * 2) = 16 times what VOLUME 2 has.
        int right = x.byteOf(2, 12);
        change(x, 6, 12, peek(x, 6, 12) ^ 16);
        seal(x, 6);
        x.lose(2);
        due("15: read(7)", x.read(7), 4);
        due("15: by REPAIR 0", x.got(40), right);
        x.lose(4);
        x.read(7);
        due("15: by REPAIR 1", x.got(40), right);
        x.lose(5);
        due("15: read(7)", x.read(7), 4);
        due("15: by REPAIR 2, which is changed", x.got(40), right ^ 1);
        due("15: it is not OPENED then", x.opened(0, 2), 0);
        due("15: the others are", x.found(5), 3);
    }

    private static void promise16() {
        VolumeSets x = four(2, 7);
        x.lose(1);
        x.read(7);
        int[] want = {4, 2, 32, 1, 4, 4};
        for (int what = 0; what <= 5; what++) {
            due("16: found(" + what + ")", x.found(what), want[what]);
        }
        for (int far : new int[] {-1, 6, Integer.MIN_VALUE, Integer.MAX_VALUE}) {
            due("16: found(" + far + ")", x.found(far), BAD);
        }
        x.lose(2);
        x.lose(4);
        due("16: what was READ stays", x.found(3), 1);
        due("16: read(7)", x.read(7), 2);
        int[] less = {4, 2, 32, 0, 1, 0};
        for (int what = 0; what <= 5; what++) {
            due("16: found(" + what + ")", x.found(what), less[what]);
        }
        x.read(8);
        for (int what = 0; what <= 5; what++) {
            due("16: found(" + what + "), nothing is READ", x.found(what), NONE);
        }
        due("16: found(6), nothing is READ", x.found(6), BAD);
        due("16: found(-1), nothing is READ", x.found(-1), BAD);
        VolumeSets y = new VolumeSets();
        y.rule(0, 80);
        y.write(-1);
        y.read(0);
        due("16: bytes of a VOLUME", y.found(2), 80);
        due("16: ENTRIES told, there is none", y.found(4), 0);
        y.rule(2, 1);
        y.entry();
        y.write(-1);
        y.read(1);
        due("16: ENTRIES told", y.found(4), 1);
        y.read(0);
        due("16: ENTRIES told, there is none again", y.found(4), 0);
        due("16: OPENED, there is none again", y.found(5), 0);
    }

    private static void promise17() {
        VolumeSets x = four(2, 7);
        due("17: where(0), nothing READ", x.where(0), BAD);
        x.swap(0, 59);
        x.lose(3);
        x.lose(5);
        x.read(7);
        int[] want = {59, 1, 2, 100, 4, NONE};
        for (int n = 0; n < 6; n++) {
            due("17: where(" + n + ")", x.where(n), want[n]);
        }
        for (int far : new int[] {-1, 6, 100, Integer.MIN_VALUE, Integer.MAX_VALUE}) {
            due("17: where(" + far + ")", x.where(far), BAD);
        }
        x.swap(59, 0);
        x.lose(1);
        due("17: what was READ stays", x.where(0), 59);
        due("17: what was READ stays", x.where(1), 1);
        x.read(7);
        due("17: where(0)", x.where(0), 0);
        due("17: where(1), too many are missing", x.where(1), NONE);
        due("17: where(3), too many are missing", x.where(3), NONE);
        x.read(8);
        due("17: where(0), nothing READ", x.where(0), BAD);
        // 60 and 3: the number of the last REPAIR is 62.
        VolumeSets y = new VolumeSets();
        y.write(-1);
        forgeHead(y, 0, 4, 60);
        forgeHead(y, 0, 5, 3);
        forgeHead(y, 0, 3, 62);
        due("17: read(0)", y.read(0), 0);
        due("17: where(62)", y.where(62), 0);
        due("17: where(61)", y.where(61), NONE);
        due("17: where(63)", y.where(63), BAD);
        due("17: got(1199)", y.got(1199), NONE);
        due("17: got(1200)", y.got(1200), BAD);
    }

    private static void promise18() {
        VolumeSets x = four(0, 7);
        due("18: got(0), nothing READ", x.got(0), BAD);
        x.lose(1);
        x.read(7);
        for (int i = 0; i < 80; i++) {
            int want = i / 20 == 1 ? NONE : x.byteOf(i / 20, 12 + i % 20);
            due("18: got(" + i + ")", x.got(i), want);
        }
        for (int far : new int[] {-1, 80, Integer.MIN_VALUE, Integer.MAX_VALUE}) {
            due("18: got(" + far + ")", x.got(far), BAD);
        }
        x.poke(0, 12, 255);
        x.lose(2);
        due("18: what was READ stays", x.got(0), 45);
        due("18: what was READ stays", x.got(48), 3);
        VolumeSets y = new VolumeSets();
        y.entry();
        y.write(-1);
        y.read(0);
        due("18: got(2)", y.got(2), 21);
        due("18: got(3), behind the length of the PIECE", y.got(3), NONE);
        due("18: got(19)", y.got(19), NONE);
        due("18: got(20)", y.got(20), BAD);
    }

    /** Lengths that are changed: at most s - 12 bytes are KNOWN. */
    private static void promise18Lengths() {
        VolumeSets w = new VolumeSets();
        w.rule(0, 80);
        w.write(-1);
        forgeHead(w, 0, 4, 60);
        forgeHead(w, 0, 3, 59);
        forgeHead(w, 0, 6, 68);
        w.poke(0, 79, 77);
        seal(w, 0);
        due("18: read(0), VOLUME 59 of 60", w.read(0), 1);
        due("18: got(4079)", w.got(4079), 77);
        due("18: got(4012)", w.got(4012), 0);
        due("18: got(4011)", w.got(4011), NONE);
        due("18: got(4080)", w.got(4080), BAD);
        // In another order of SLOTS, each behind what was longer: no byte goes into the next PIECE.
        VolumeSets v = new VolumeSets();
        v.rule(0, 80);
        v.rule(2, 1);
        addEntry(v, 60, 1);
        addEntry(v, 60, 100);
        v.write(-1);
        v.lose(0);
        v.lose(1);
        v.rule(0, 50);
        v.write(-1);
        v.swap(0, 3);
        v.swap(1, 2);
        due("18: read(1)", v.read(1), 4);
        for (int i = 0; i < 126; i++) {
            due("18: got(" + i + ")", v.got(i), v.byteOf(i / 38, 12 + i % 38));
        }
        VolumeSets x = four(1, 7);
        forgeHead(x, 0, 6, 7);
        forgeHead(x, 1, 6, 255);
        x.lose(2);
        x.lose(4);
        due("18: read(7)", x.read(7), 3);
        due("18: got(6)", x.got(6), x.byteOf(0, 18));
        due("18: got(7), behind the changed length", x.got(7), NONE);
        due("18: got(20)", x.got(20), x.byteOf(1, 12));
        due("18: got(39)", x.got(39), x.byteOf(1, 31));
        due("18: got(40), of the VOLUME that is missing", x.got(40), NONE);
        due("18: got(60)", x.got(60), x.byteOf(3, 12));
        // Lengths are MIXED too: VOLUME 0 has 8 in place of 20, so the one that is made again has too.
        VolumeSets z = four(1, 7);
        forgeHead(z, 0, 6, 20 ^ 28);
        z.lose(1);
        due("18: read(7)", z.read(7), 4);
        due("18: got(7)", z.got(7), z.byteOf(0, 19));
        due("18: got(8), the length is 8", z.got(8), NONE);
        due("18: got(27)", z.got(27), z.byteOf(1, 19));
        due("18: got(28), the length that is made again is 8", z.got(28), NONE);
    }

    private static void told(String of, VolumeSets x, int[][] rows) {
        due(of + "found(4)", x.found(4), rows.length);
        int whole = 0;
        for (int k = 0; k < rows.length; k++) {
            for (int what = 0; what < 3; what++) {
                due(of + "opened(" + k + ", " + what + ")", x.opened(k, what), rows[k][what]);
            }
            whole += rows[k][2];
        }
        due(of + "found(5)", x.found(5), whole);
        due(of + "opened(" + rows.length + ", 0)", x.opened(rows.length, 0), BAD);
    }

    private static void promise19() {
        VolumeSets x = four(0, 7);
        due("19: opened(0, 0), nothing READ", x.opened(0, 0), BAD);
        x.read(7);
        told("19: all: ", x, new int[][] {{0, 45, 1}, {48, 3, 1}, {54, 0, 1}, {57, 20, 1}});
        for (int far : new int[] {-1, 4, 40, Integer.MIN_VALUE, Integer.MAX_VALUE}) {
            due("19: opened(" + far + ", 0)", x.opened(far, 0), BAD);
        }
        for (int far : new int[] {-1, 3, Integer.MIN_VALUE, Integer.MAX_VALUE}) {
            due("19: opened(0, " + far + ")", x.opened(0, far), BAD);
        }
        x.lose(0);
        due("19: what was READ stays", x.opened(0, 2), 1);
        x.read(7);
        told("19: without 0: ", x, new int[][] {{48, 3, 1}, {54, 0, 1}, {57, 20, 1}});
        x.read(8);
        due("19: opened(0, 0), nothing READ", x.opened(0, 0), BAD);
        VolumeSets y = new VolumeSets();
        addEntry(y, 60, 1);
        addEntry(y, 60, 2);
        y.write(-1);
        y.read(0);
        told("19: 60 bytes: ", y, new int[][] {{0, 60, 1}, {63, 60, 1}});
    }

    private static void promise19Lost() {
        VolumeSets x = four(0, 7);
        x.lose(1);
        x.read(7);
        told("19: without 1: ", x, new int[][] {{0, 45, 0}, {48, 3, 1}, {54, 0, 1}, {57, 20, 1}});
        VolumeSets y = four(0, 7);
        y.lose(2);
        y.read(7);
        // None begins in VOLUME 3: the last one begins in VOLUME 2.
        told("19: without 2: ", y, new int[][] {{0, 45, 0}});
        VolumeSets z = four(0, 7);
        z.lose(3);
        z.read(7);
        // The SUM of the last one lies at 58, 59: its own bytes are gone.
        told("19: without 3: ", z, new int[][] {{0, 45, 1}, {48, 3, 1}, {54, 0, 1}, {57, 20, 0}});
        // A byte that is changed, with the SUMs of the VOLUME made right: the SUM of the ENTRY tells it.
        VolumeSets v = four(0, 7);
        change(v, 2, 12 + 51 - 40, 1);
        seal(v, 2);
        v.read(7);
        told("19: a byte changed: ", v, new int[][] {{0, 45, 1}, {48, 3, 0}, {54, 0, 1}, {57, 20, 1}});
        // The SUM's own two bytes.
        for (int i = 49; i <= 50; i++) {
            VolumeSets w = four(0, 7);
            change(w, 2, 12 + i - 40, peek(w, 2, 12 + i - 40) ^ 1);
            seal(w, 2);
            w.read(7);
            told("19: a SUM changed: ", w, new int[][] {{0, 45, 1}, {48, 3, 0}, {54, 0, 1}, {57, 20, 1}});
        }
        // Bytes that are gone are not 0s, even where 0s would have the SUM.
        VolumeSets r = new VolumeSets();
        addZeros(r, 47);
        r.entry();
        r.write(-1);
        r.lose(1);
        r.read(0);
        told("19: zeros without 1: ", r, new int[][] {{0, 47, 0}, {50, 0, 1}});
        // A SUM of which one byte, or both, are gone.
        for (int length = 14; length <= 16; length++) {
            VolumeSets q = new VolumeSets();
            addZeros(q, length);
            q.entry();
            addEntry(q, 4, 200);
            q.write(-1);
            q.lose(1);
            q.read(0);
            due("19: found(4), behind " + length + " bytes", q.found(4), 2);
            due("19: opened(1, 1), behind " + length + " bytes", q.opened(1, 1), 0);
            due("19: opened(1, 2), behind " + length + " bytes", q.opened(1, 2), length == 14 ? 1 : 0);
        }
        // A length above 60: LOST, and on to the place behind it.
        VolumeSets u = new VolumeSets();
        addZeros(u, 60);
        addZeros(u, 60);
        u.write(-1);
        change(u, 0, 12, 61);
        seal(u, 0);
        u.read(0);
        due("19: a length of 61: opened(0, 1)", u.opened(0, 1), 61);
        due("19: a length of 61: opened(0, 2)", u.opened(0, 2), 0);
        due("19: a length of 61: opened(1, 0)", u.opened(1, 0), 64);
        VolumeSets t = new VolumeSets();
        addZeros(t, 60);
        addZeros(t, 60);
        t.write(-1);
        change(t, 0, 12, 255);
        seal(t, 0);
        t.read(0);
        told("19: a length of 255: ", t, new int[][] {{0, 255, 0}});
        // 61 bytes that are all KNOWN, with their SUM: still LOST.
        VolumeSets s = new VolumeSets();
        s.rule(0, 80);
        addZeros(s, 60);
        addZeros(s, 1);
        s.write(-1);
        int[] own = new int[61];
        own[60] = 1;
        change(s, 0, 12, 61);
        change(s, 0, 13, sum(own) & 255);
        change(s, 0, 14, sum(own) >> 8);
        seal(s, 0);
        s.read(0);
        due("19: 61 bytes: opened(0, 1)", s.opened(0, 1), 61);
        due("19: 61 bytes: opened(0, 2)", s.opened(0, 2), 0);
        due("19: 61 bytes: opened(1, 0)", s.opened(1, 0), 64);
    }

    /** On to a START, in VOLUMES behind the one in which the place lies. */
    private static void promise19Starts() {
        VolumeSets x = new VolumeSets();
        for (int k = 0; k < 10; k++) {
            addEntry(x, 8, k);
        }
        // 110 bytes, an ENTRY each 11: SIZE 32 has six VOLUMES.
        x.write(-1);
        int[] starts = {0, 2, 4, 6, 8, 255};
        for (int n = 0; n < 6; n++) {
            due("19: START of VOLUME " + n, x.byteOf(n, 7), starts[n]);
        }
        x.lose(1);
        x.read(0);
        told("19: without 1: ", x, new int[][] {{0, 8, 1}, {11, 8, 0}, {44, 8, 1}, {55, 8, 1}, {66, 8, 1},
            {77, 8, 1}, {88, 8, 1}, {99, 8, 1}});
        x.lose(3);
        x.read(0);
        // Place 66 is gone: on to the START of VOLUME 4, at 88.
        told("19: without 1, 3: ", x, new int[][] {
            {0, 8, 1}, {11, 8, 0}, {44, 8, 1}, {55, 8, 0}, {88, 8, 1}, {99, 8, 1}});
        forgeHead(x, 4, 7, 255);
        x.read(0);
        told("19: no START in 4: ", x, new int[][] {{0, 8, 1}, {11, 8, 0}, {44, 8, 1}, {55, 8, 0}});
        forgeHead(x, 4, 7, 20);
        x.read(0);
        due("19: a START of 20 is not below the length 20", x.found(4), 4);
        forgeHead(x, 4, 7, 19);
        x.read(0);
        due("19: a START of 19 is below the length 20", x.opened(4, 0), 99);
        forgeHead(x, 4, 6, 30);
        forgeHead(x, 4, 7, 25);
        x.read(0);
        // Place 4 * 20 + 25 lies in VOLUME 5, where its byte is an ENTRY's third.
        due("19: a START of 25 is below the length 30", x.opened(4, 0), 105);
        // The START of one that is MADE AGAIN, when an earlier READING had it too: VOLUME 0 has
        // a length of 5 in place of 20, and so has then VOLUME 1.
        VolumeSets v = new VolumeSets();
        v.rule(1, 1);
        for (int k = 0; k < 10; k++) {
            addEntry(v, 8, k);
        }
        v.write(-1);
        forgeHead(v, 0, 6, 5);
        v.read(0);
        due("19: opened(1, 0)", v.opened(1, 0), 22);
        v.lose(1);
        due("19: read(0)", v.read(0), 6);
        due("19: MADE AGAIN: opened(1, 0)", v.opened(1, 0), 22);
        due("19: MADE AGAIN: opened(1, 2)", v.opened(1, 2), 0);
        due("19: MADE AGAIN: opened(2, 0)", v.opened(2, 0), 44);
        due("19: MADE AGAIN: opened(2, 2)", v.opened(2, 2), 1);
        // Behind the end all is unknown, and the VOLUME's own START does not count again.
        VolumeSets y = new VolumeSets();
        y.entry();
        y.write(-1);
        y.read(0);
        told("19: one without bytes: ", y, new int[][] {{0, 0, 1}});
        // In a VOLUME that is shorter than told, the place behind goes on in the next one.
        VolumeSets z = four(0, 7);
        forgeHead(z, 0, 6, 0);
        z.read(7);
        told("19: length 0 in 0: ", z, new int[][] {{48, 3, 1}, {54, 0, 1}, {57, 20, 1}});
    }

    private static void promise19Forty() {
        VolumeSets x = new VolumeSets();
        x.rule(0, 80);
        for (int k = 0; k < 3; k++) {
            addZeros(x, 60);
        }
        x.write(-1);
        due("19: VOLUMES of zeros", x.count(3), 3);
        // Lengths of 0: from place 0 on there is an ENTRY each 3 bytes, all with a wrong SUM.
        for (int n = 0; n < 3; n++) {
            for (int i = 12; i < 80; i++) {
                int at = n * 68 + i - 12;
                if (at % 63 < 3) {
                    change(x, n, i, 0);
                }
            }
        }
        for (int n = 0; n < 3; n++) {
            change(x, n, 8, sum(new int[68]) & 255);
            change(x, n, 9, sum(new int[68]) >> 8);
            forgeHead(x, n, 6, 68);
        }
        due("19: read(0)", x.read(0), 3);
        due("19: forty are told at most", x.found(4), 40);
        due("19: none of them OPENED", x.found(5), 0);
        due("19: opened(39, 0)", x.opened(39, 0), 117);
        due("19: opened(39, 1)", x.opened(39, 1), 0);
        due("19: opened(40, 0)", x.opened(40, 0), BAD);
    }

    private static void promise20() {
        VolumeSets x = four(2, 9);
        x.feed(1, 2, 3, 4, 5);
        x.rule(0, 44);
        x.poke(1, 12, 1);
        x.poke(2, 12, 1);
        x.poke(3, 0, 1);
        int[] want = {4, 80, 20, 6, 3, 2, 44, 2, 9};
        for (int what = 0; what < want.length; what++) {
            due("20: count(" + what + ")", x.count(what), want[what]);
        }
        for (int far : new int[] {-1, 9, Integer.MIN_VALUE, Integer.MAX_VALUE}) {
            due("20: count(" + far + ")", x.count(far), BAD);
        }
        x.lose(0);
        due("20: count(3)", x.count(3), 5);
        due("20: count(4)", x.count(4), 2);
    }
}
