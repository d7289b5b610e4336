import java.util.Arrays;
import java.util.function.ToIntFunction;

/** The document's boundaries of the stream: promises 1 to 8, and the terms that they use. */
final class StreamBoundaries extends Sentences {
    private StreamBoundaries() {
    }

    static void test() {
        entries();
        sums();
        streams();
        rulesAtFirst();
        pieces();
        noEntry();
        volumeBytes();
        heads();
        starts();
        sumsOfVolumes();
        repairNumbers();
        mixed();
        products();
        newObject();
        feed();
        feedFull();
        end();
        endBad();
        entry();
        entryFull();
        clear();
        rule();
        ruleBad();
        volumes();
        volumesFull();
        byteOf();
        byteOfFull();
        byteOfBad();
    }

    /** All bytes of a VOLUME, as byteOf tells them. */
    private static int[] allBytes(VolumeSets x, int n) {
        int[] bytes = new int[x.count(6)];
        for (int i = 0; i < bytes.length; i++) {
            bytes[i] = x.byteOf(n, i);
        }
        return bytes;
    }

    /** An object with an ENTRY of so many bytes, and one without bytes for each 3 more. */
    private static VolumeSets ofStream(int s, int r, int bytes) {
        VolumeSets x = of(s, r, 0);
        int left = bytes;
        while (left >= 63 + 3) {
            enter(x, row(60, left));
            left -= 63;
        }
        if (left > 63) {
            x.entry();
            left -= 3;
        }
        if (left > 0) {
            enter(x, row(left - 3, left));
        }
        due("bytes of THE STREAM", x.count(1), bytes);
        return x;
    }

    // ---- terms

    private static void entries() {
        term(4, "60 bytes, 20 at most.");
        VolumeSets x = new VolumeSets();
        inside("entry() of 0 bytes", x.entry(), 0);
        inside("its length", x.byteOf(0, 12), 0);
        tape(x, row(60, 1));
        inside("entry() of 60 bytes", x.entry(), 1);
        inside("its length", x.byteOf(0, 15), 60);
        inside("bytes of THE STREAM", x.count(1), 3 + 63);
        tape(x, row(41, 1));
        outside("feed to 61 bytes", x.feed(0, 0, 0, 0, 0), FULL);
        outside("the ENTRY behind it has 41", x.entry(), 2);
        outside("bytes of THE STREAM", x.count(1), 3 + 63 + 44);
        for (int k = 3; k < 19; k++) {
            x.entry();
        }
        inside("entry(), the 20th", x.entry(), 19);
        inside("ENTRIES", x.count(0), 20);
        outside("entry(), the 21st", x.entry(), FULL);
        outside("ENTRIES", x.count(0), 20);
    }

    private static void sums() {
        term(4, "SUM of bytes: h = 5,381; for each byte h = (33 h) xor it, its lowest 16 bits.");
        // 5381 = 21 * 256 + 5; 33 * 5381 = 2 * 65536 + 46501; 46501 = 181 * 256 + 165.
        int[][] rows = {{}, {0}, {255}, {0, 0}};
        int[] sums = {5381, 46501, 46501 ^ 255, 33 * 46501 - 23 * 65536};
        for (int k = 0; k < rows.length; k++) {
            VolumeSets x = new VolumeSets();
            enter(x, rows[k]);
            due("the lower byte of the SUM of " + Arrays.toString(rows[k]), x.byteOf(0, 13), sums[k] & 255);
            due("the higher byte of the SUM of " + Arrays.toString(rows[k]), x.byteOf(0, 14), sums[k] >> 8);
        }
        long all = 5381;
        VolumeSets x = of(80, 0, 0);
        int[] most = new int[60];
        for (int i = 0; i < 60; i++) {
            most[i] = 255 - i % 2;
            all = (33 * all ^ most[i]) % 65536;
        }
        enter(x, most);
        due("the lower byte of the SUM of 60", x.byteOf(0, 13), all % 256);
        due("the higher byte of the SUM of 60", x.byteOf(0, 14), all / 256);
    }

    private static void streams() {
        term(4, "THE STREAM: of each ENTRY, in order, its length (a byte), the SUM of its bytes (two bytes, the lower "
            + "one first), its bytes.");
        VolumeSets x = of(80, 0, 0);
        due("bytes of THE STREAM, no ENTRY", x.count(1), 0);
        x.entry();
        due("bytes of THE STREAM, an ENTRY of 0", x.count(1), 3);
        enter(x, 7);
        due("bytes of THE STREAM, 0 and 1", x.count(1), 7);
        enter(x, row(40, 200));
        due("bytes of THE STREAM, 0, 1 and 40", x.count(1), 50);
        int[] want = stream(new int[0], new int[] {7}, row(40, 200));
        for (int i = 0; i < 50; i++) {
            due("byte " + i, x.byteOf(0, 12 + i), want[i]);
        }
        VolumeSets y = of(33, 0, 0);
        int[][] most = new int[20][];
        for (int k = 0; k < 20; k++) {
            most[k] = row(60, 13 * k);
            enter(y, most[k]);
        }
        due("bytes of THE STREAM, 20 ENTRIES of 60", y.count(1), 1260);
        int[] stream = stream(most);
        for (int i = 0; i < 1260; i += 9) {
            due("byte " + i + " of 1,260", y.byteOf(i / 21, 12 + i % 21), stream[i]);
        }
        due("the last byte of 1,260", y.byteOf(59, 32), stream[1259]);
    }

    private static void rulesAtFirst() {
        String[] words = {"SIZE s (20 .. 80, 32 at first),", "REPAIRS r (0 .. 3, 0 at first),",
            "SET (0 .. 255, 0 at first)."};
        int[][] numbers = {{20, 80, 32}, {0, 3, 0}, {0, 255, 0}};
        for (int what = 0; what < 3; what++) {
            term(6, words[what]);
            VolumeSets x = new VolumeSets();
            int least = numbers[what][0];
            int most = numbers[what][1];
            due("at first", x.count(6 + what), numbers[what][2]);
            inside("rule to the least", x.rule(what, least), numbers[what][2]);
            inside("it is so", x.count(6 + what), least);
            outside("rule below the least", x.rule(what, least - 1), BAD);
            outside("it stays", x.count(6 + what), least);
            inside("rule to the most", x.rule(what, most), least);
            inside("it is so", x.count(6 + what), most);
            outside("rule above the most", x.rule(what, most + 1), BAD);
            outside("it stays", x.count(6 + what), most);
        }
    }

    private static void pieces() {
        term(7, "PIECES are THE STREAM in rows of s - 12 bytes, one behind the other, the last one with what is left;");
        for (int s : new int[] {20, 21, 32, 79, 80}) {
            int wide = s - 12;
            for (int m = 1; m <= 3; m++) {
                VolumeSets x = ofStream(s, 0, m * wide);
                inside("volumes(), SIZE " + s + ", just " + m + " rows", x.volumes(), m);
                inside("length of the last PIECE", x.byteOf(m - 1, LENGTH), wide);
                VolumeSets y = ofStream(s, 0, m * wide + 1);
                outside("volumes(), SIZE " + s + ", " + m + " rows and a byte", y.volumes(), m + 1);
                outside("length of the last but one", y.byteOf(m - 1, LENGTH), wide);
                outside("length of the last PIECE", y.byteOf(m, LENGTH), 1);
            }
            VolumeSets z = ofStream(s, 0, 2 * wide - 1);
            inside("volumes(), SIZE " + s + ", a byte less than 2 rows", z.volumes(), 2);
            inside("length of the last PIECE", z.byteOf(1, LENGTH), wide - 1);
        }
        int[][] volumes = cut(20, 0, 0, row(30, 100));
        VolumeSets x = of(20, 0, 0, row(30, 100));
        for (int n = 0; n < volumes.length; n++) {
            same("VOLUME " + n, allBytes(x, n), volumes[n]);
        }
    }

    private static void noEntry() {
        term(7, "m of them (one without bytes, if there is no ENTRY).");
        for (int s : new int[] {20, 32, 80}) {
            VolumeSets x = of(s, 0, 0);
            due("volumes(), no ENTRY", x.volumes(), 1);
            same("VOLUME 0, no ENTRY", allBytes(x, 0), volume(0, 0, 1, 0, 0, 255, new int[s - 12]));
            x.entry();
            due("volumes(), an ENTRY without bytes", x.volumes(), 1);
            due("its length", x.byteOf(0, LENGTH), 3);
            due("its START", x.byteOf(0, START), 0);
            x.clear();
            due("volumes(), no ENTRY again", x.volumes(), 1);
            same("VOLUME 0, no ENTRY again", allBytes(x, 0), volume(0, 0, 1, 0, 0, 255, new int[s - 12]));
        }
    }

    private static void volumeBytes() {
        term(8, "A VOLUME has s bytes, a HEAD of 12 and a BODY.");
        for (int s : new int[] {20, 21, 79, 80}) {
            VolumeSets x = of(s, 0, 0, row(40, 9));
            due("the last byte of the HEAD", x.byteOf(0, 11), sum(Arrays.copyOf(allBytes(x, 0), 10)) >> 8);
            due("the first byte of the BODY", x.byteOf(0, 12), 40);
            inside("byteOf(0, s - 1) is a byte", x.byteOf(0, s - 1) >= 0 ? 1 : 0, 1);
            outside("byteOf(0, s)", x.byteOf(0, s), BAD);
            x.write(-1);
            due("bytes of a SLOT", x.slot(0, 5), s);
            inside("poke(0, s - 1, 1) is a byte", x.poke(0, s - 1, 1) >= 0 ? 1 : 0, 1);
            outside("poke(0, s, 1)", x.poke(0, s, 1), BAD);
        }
        term(8, "VOLUME n, 0 .. m - 1: BODY: its PIECE, then 0s.");
        VolumeSets x = of(32, 0, 0, row(60, 1), row(60, 101));
        x.byteOf(0, 12);
        x.clear();
        enter(x, row(15, 201));
        // 18 bytes, where there were 126.
        inside("the last byte of the PIECE", x.byteOf(0, 12 + 17), 215);
        outside("the byte behind it", x.byteOf(0, 12 + 18), 0);
        outside("the last byte", x.byteOf(0, 12 + 19), 0);
        x.clear();
        enter(x, row(17, 201));
        inside("the last byte of a PIECE that has all", x.byteOf(0, 12 + 19), 217);
        x.clear();
        enter(x, row(18, 201));
        inside("VOLUME 1: the only byte of the PIECE", x.byteOf(1, 12), 218);
        outside("VOLUME 1: the byte behind it", x.byteOf(1, 13), 0);
    }

    private static void heads() {
        term(8, "HEAD: 86, 83, SET, n, m, r, the length of its PIECE,");
        VolumeSets x = ofStream(20, 0, 480);
        x.rule(2, 255);
        int[][] most = {{86, 83, 255, 0, 60, 0, 8}, {86, 83, 255, 59, 60, 0, 8}};
        for (int i = 0; i < 7; i++) {
            due("byte " + i + " of VOLUME 0 of 60", x.byteOf(0, i), most[0][i]);
            due("byte " + i + " of VOLUME 59 of 60", x.byteOf(59, i), most[1][i]);
        }
        VolumeSets y = of(80, 3, 0);
        int[] least = {86, 83, 0, 0, 1, 3, 0};
        for (int i = 0; i < 7; i++) {
            due("byte " + i + " of VOLUME 0, no ENTRY", y.byteOf(0, i), least[i]);
        }
        VolumeSets z = ofStream(80, 0, 68);
        due("the length of a PIECE of 68", z.byteOf(0, LENGTH), 68);
        VolumeSets w = ofStream(80, 0, 67);
        due("the length of a PIECE of 67", w.byteOf(0, LENGTH), 67);
    }

    private static void starts() {
        term(8, "START (the place in the PIECE of the first ENTRY that begins in it, 255: none),");
        // PIECES of 20: the second ENTRY begins at the last place of PIECE 1, or just behind it.
        VolumeSets x = of(32, 0, 0, row(36, 1), row(1, 1));
        due("place 0", x.byteOf(0, START), 0);
        inside("place 39", x.byteOf(1, START), 19);
        inside("none begins in what is left of it", x.byteOf(2, START), 255);
        VolumeSets y = of(32, 0, 0, row(37, 1), row(1, 1));
        outside("place 40: none begins in PIECE 1", y.byteOf(1, START), 255);
        outside("place 40: the first place of PIECE 2", y.byteOf(2, START), 0);
        VolumeSets z = of(32, 0, 0, row(16, 1), row(0, 1), row(0, 1), row(0, 1));
        // They begin at 0, 19, 22, 25.
        due("the first of two in PIECE 0", z.byteOf(0, START), 0);
        due("the first of two in PIECE 1", z.byteOf(1, START), 2);
        // Just behind THE STREAM none begins, be the last PIECE full or not.
        VolumeSets full = of(32, 0, 0, row(37, 1));
        due("an ENTRY up to the end of the PIECE", full.byteOf(1, START), 255);
        VolumeSets notFull = of(32, 0, 0, row(30, 1));
        due("an ENTRY with 0s behind", notFull.byteOf(1, START), 255);
        VolumeSets none = of(20, 0, 0);
        due("no ENTRY", none.byteOf(0, START), 255);
        // What was there ahead of clear() does not begin any more.
        x.clear();
        enter(x, row(60, 1));
        due("behind clear(): PIECE 1", x.byteOf(1, START), 255);
    }

    private static void sumsOfVolumes() {
        VolumeSets x = of(20, 1, 9, row(20, 250));
        int[][] volumes = cut(20, 1, 9, row(20, 250));
        term(8, "the SUM of the BODY (two bytes, the lower one first),");
        for (int n = 0; n < volumes.length; n++) {
            int sum = sum(Arrays.copyOfRange(volumes[n], 12, 20));
            due("the lower byte, VOLUME " + n, x.byteOf(n, 8), sum & 255);
            due("the higher byte, VOLUME " + n, x.byteOf(n, 9), sum >> 8);
        }
        VolumeSets none = of(20, 0, 0);
        int zeros = sum(new int[8]);
        due("the SUM of eight 0s", none.byteOf(0, 8) + 256 * none.byteOf(0, 9), zeros);
        // The 0s behind the PIECE are of the BODY too.
        none.rule(0, 21);
        due("the SUM of nine 0s", none.byteOf(0, 8) + 256 * none.byteOf(0, 9), sum(new int[9]));
        term(8, "the SUM of these ten bytes (likewise).");
        for (int n = 0; n < volumes.length; n++) {
            int sum = sum(Arrays.copyOf(volumes[n], 10));
            due("the lower byte, VOLUME " + n, x.byteOf(n, 10), sum & 255);
            due("the higher byte, VOLUME " + n, x.byteOf(n, 11), sum >> 8);
        }
    }

    private static void repairNumbers() {
        term(8, "VOLUME m + j, j = 0 .. r - 1, REPAIRS: the HEAD likewise, with m + j in place of n;");
        for (int r = 0; r <= 3; r++) {
            VolumeSets x = of(32, r, 5, row(30, 1));
            // 33 bytes: m is 2.
            for (int j = 0; j < r; j++) {
                int[] head = {86, 83, 5, 2 + j, 2, r};
                for (int i = 0; i < 6; i++) {
                    inside("r is " + r + ": byte " + i + " of VOLUME " + (2 + j), x.byteOf(2 + j, i), head[i]);
                }
            }
            outside("r is " + r + ": VOLUME " + (2 + r), x.byteOf(2 + r, 0), BAD);
        }
    }

    private static void mixed() {
        term(8, "its length, START, and each byte of the BODY are MIXED of those of VOLUMES 0 .. m - 1 (at the same "
            + "place): the sum of 2 ^ (j n) times that of VOLUME n.");
        // m is 1: all REPAIRS are as VOLUME 0, also when there is no ENTRY.
        VolumeSets one = of(20, 3, 0);
        for (int j = 0; j < 3; j++) {
            due("no ENTRY: length of REPAIR " + j, one.byteOf(1 + j, LENGTH), 0);
            due("no ENTRY: START of REPAIR " + j, one.byteOf(1 + j, START), 255);
            due("no ENTRY: byte 19 of REPAIR " + j, one.byteOf(1 + j, 19), 0);
        }
        // m is 2: lengths 20 and 3, STARTs 0 and 255.
        VolumeSets two = of(32, 3, 0, row(20, 77));
        due("length of REPAIR 0", two.byteOf(2, LENGTH), 20 ^ 3);
        due("length of REPAIR 1", two.byteOf(3, LENGTH), 20 ^ 6);
        due("length of REPAIR 2", two.byteOf(4, LENGTH), 20 ^ 12);
        due("START of REPAIR 0", two.byteOf(2, START), 255);
        due("START of REPAIR 1", two.byteOf(3, START), times(2, 255));
        due("START of REPAIR 2", two.byteOf(4, START), times(4, 255));
        int[][] volumes = cut(32, 3, 0, row(20, 77));
        for (int n = 0; n < 5; n++) {
            same("VOLUME " + n + " of 2 and 3", allBytes(two, n), volumes[n]);
        }
        // VOLUMES 0 .. m - 1 alone: there were more of them, at another SIZE.
        VolumeSets fewer = of(20, 3, 0, row(60, 77));
        due("byte 3 of the last of 8 and 3", fewer.byteOf(10, 3), 10);
        fewer.rule(0, 32);
        int[][] less = cut(32, 3, 0, row(60, 77));
        for (int n = 0; n < less.length; n++) {
            same("VOLUME " + n + " of 4 and 3", allBytes(fewer, n), less[n]);
        }
        // The most: 57 and 3.
        int[][] entries = {row(60, 3), row(60, 100), row(60, 9), row(60, 77), row(60, 31), row(60, 1), row(60, 200),
            row(12, 40)};
        VolumeSets most = of(20, 3, 255, entries);
        int[][] all = cut(20, 3, 255, entries);
        due("volumes()", most.volumes(), 60);
        for (int n : new int[] {0, 56, 57, 58, 59}) {
            same("VOLUME " + n + " of 57 and 3", allBytes(most, n), all[n]);
        }
    }

    private static void products() {
        term(8, "Sums are by xor; products are those of polynomials (bit k is x ^ k) modulo "
            + "x^8 + x^4 + x^3 + x^2 + 1; 2 is x.");
        // SIZE 20: byte 15 of VOLUME 0 is the ENTRY's first, byte 15 of VOLUME 1 its ninth.
        int[][] rows = {{0, 127, 254}, {0, 128, 29}, {0, 129, 31}, {0, 255, 254 ^ 29}, {255, 255, 255 ^ 254 ^ 29},
            {1, 1, 3}};
        for (int[] of : rows) {
            int[] entry = new int[9];
            entry[0] = of[0];
            entry[8] = of[1];
            VolumeSets x = of(20, 3, 0, entry);
            due(of[0] + " xor 2 times " + of[1], x.byteOf(3, 15), of[2]);
            due(of[0] + " xor " + of[1], x.byteOf(2, 15), of[0] ^ of[1]);
            due(of[0] + " xor 4 times " + of[1], x.byteOf(4, 15), of[0] ^ times(4, of[1]));
        }
    }

    // ---- promises

    private static void newObject() {
        promise(1, "No ENTRIES, an empty TAPE, all SLOTS empty, nothing READ.");
        VolumeSets used = of(20, 3, 9, row(60, 1));
        used.write(-1);
        used.read(9);
        used.feed(1, 2, 3, 4, 5);
        VolumeSets x = new VolumeSets();
        due("ENTRIES", x.count(0), 0);
        due("bytes of THE STREAM", x.count(1), 0);
        due("bytes of the TAPE", x.count(2), 0);
        due("end(0), of an empty TAPE", x.end(0), BAD);
        due("SLOTS that are not empty", x.count(3), 0);
        due("SLOT 0", x.slot(0, 0), 0);
        due("SLOT 59", x.slot(59, 0), 0);
        for (int what = 0; what <= 5; what++) {
            due("found(" + what + ")", x.found(what), NONE);
        }
        due("where(0)", x.where(0), BAD);
        due("got(0)", x.got(0), BAD);
        due("opened(0, 0)", x.opened(0, 0), BAD);
    }

    private static void feed() {
        promise(2, "Twenty bytes come behind the TAPE, the highest of each number first: how many it has.");
        VolumeSets x = of(80, 0, 0);
        due("feed, the first", x.feed(0x01020304, -1, Integer.MIN_VALUE, Integer.MAX_VALUE, 0x80), 20);
        due("feed, the second", x.feed(0, 0x00FF0000, 256, 255, -256), 40);
        due("feed, the third", x.feed(0x7F000001, 0, 0, 0, 0x0A0B0C0D), 60);
        x.entry();
        int[] want = {1, 2, 3, 4, 255, 255, 255, 255, 128, 0, 0, 0, 127, 255, 255, 255, 0, 0, 0, 128,
            0, 0, 0, 0, 0, 255, 0, 0, 0, 0, 1, 0, 0, 0, 0, 255, 255, 255, 255, 0,
            127, 0, 0, 1, 0, 0, 0, 0, 0, 0, 0, 0, 0, 0, 0, 0, 10, 11, 12, 13};
        for (int i = 0; i < 60; i++) {
            due("byte " + i, x.byteOf(0, 15 + i), want[i]);
        }
        x.clear();
        tape(x, row(3, 1));
        due("feed behind 3", x.feed(0x04050607, 0x08090A0B, 0x0C0D0E0F, 0x10111213, 0x14151617), 23);
        x.entry();
        for (int i = 0; i < 23; i++) {
            due("byte " + i + " of 23", x.byteOf(0, 15 + i), i + 1);
        }
        ToIntFunction<VolumeSets> behind21 = y -> {
            y.end(0);
            return y.feed(1, 2, 3, 4, 5);
        };
        leaves("feed behind 21", RICH, behind21, 41, Part.STREAM, Part.SLOTS, Part.READING);
    }

    private static void feedFull() {
        promise(2, "FULL: above 60.");
        int[] there = {0, 20, 39, 40, 41, 59, 60};
        for (int bytes : there) {
            VolumeSets x = new VolumeSets();
            tape(x, row(bytes, 1));
            if (bytes <= 40) {
                inside("feed behind " + bytes, x.feed(9, 9, 9, 9, 9), bytes + 20);
            } else {
                outside("feed behind " + bytes, x.feed(9, 9, 9, 9, 9), FULL);
                State state = new State(() -> {
                    VolumeSets y = of(32, 1, 3, row(5, 5));
                    tape(y, row(bytes, 1));
                    return y;
                });
                stays("feed behind " + bytes, state, y -> y.feed(9, 9, 9, 9, 9), FULL);
            }
        }
    }

    private static void end() {
        promise(3, "Of the last twenty bytes of the TAPE the first n (0 .. 20) stay: how many it has.");
        int[] there = {20, 21, 39, 40, 41, 60};
        for (int bytes : there) {
            for (int n : new int[] {0, 1, 19, 20}) {
                VolumeSets x = of(80, 0, 0);
                tape(x, row(bytes, 1));
                due("end(" + n + ") of " + bytes, x.end(n), bytes - 20 + n);
                due("bytes of the TAPE", x.count(2), bytes - 20 + n);
                x.entry();
                same("the ENTRY", allBytes(x, 0), cut(80, 0, 0, row(bytes - 20 + n, 1))[0]);
            }
        }
        leaves("end(7)", RICH, x -> x.end(7), 28, Part.STREAM, Part.SLOTS, Part.READING);
    }

    private static void endBad() {
        promise(3, "BAD: another n, or fewer than twenty are there.");
        State twenty = new State(() -> {
            VolumeSets x = of(32, 1, 3, row(5, 5));
            tape(x, row(20, 1));
            return x;
        });
        inside("end(0) of 20", twenty.made.get().end(0), 0);
        inside("end(20) of 20", twenty.made.get().end(20), 20);
        stays("end(-1)", twenty, x -> x.end(-1), BAD);
        stays("end(21)", twenty, x -> x.end(21), BAD);
        for (int far : FAR) {
            stays("end(" + far + ")", twenty, x -> x.end(far), BAD);
        }
        for (int bytes : new int[] {0, 1, 18, 19}) {
            State fewer = new State(() -> {
                VolumeSets x = of(32, 1, 3, row(5, 5));
                tape(x, row(bytes, 1));
                return x;
            });
            stays("end(0) of " + bytes, fewer, x -> x.end(0), BAD);
            stays("end(" + bytes + ") of " + bytes, fewer, x -> x.end(bytes), BAD);
            stays("end(20) of " + bytes, fewer, x -> x.end(20), BAD);
        }
    }

    private static void entry() {
        promise(4, "The TAPE, which is empty then, is an ENTRY more: its number.");
        VolumeSets x = new VolumeSets();
        due("entry(), the TAPE is empty", x.entry(), 0);
        due("ENTRIES", x.count(0), 1);
        tape(x, row(60, 1));
        due("entry(), of 60", x.entry(), 1);
        due("bytes of the TAPE", x.count(2), 0);
        due("end(20)", x.end(20), BAD);
        due("entry(), the TAPE is empty again", x.entry(), 2);
        due("bytes of THE STREAM", x.count(1), 3 + 63 + 3);
        due("feed, behind nothing", x.feed(1, 2, 3, 4, 5), 20);
        leaves("entry()", RICH, VolumeSets::entry, 3, Part.SLOTS, Part.READING);
    }

    private static void entryFull() {
        promise(4, "FULL: 20.");
        VolumeSets x = new VolumeSets();
        for (int k = 0; k < 19; k++) {
            x.entry();
        }
        inside("entry(), 19 are there", x.entry(), 19);
        outside("entry(), 20 are there", x.entry(), FULL);
        State full = new State(() -> {
            VolumeSets y = of(32, 1, 3);
            for (int k = 0; k < 20; k++) {
                enter(y, k);
            }
            tape(y, row(43, 1));
            return y;
        });
        stays("entry(), 20 are there", full, VolumeSets::entry, FULL);
        State empty = new State(() -> {
            VolumeSets y = new VolumeSets();
            for (int k = 0; k < 20; k++) {
                y.entry();
            }
            return y;
        });
        stays("entry(), 20 are there, the TAPE is empty", empty, VolumeSets::entry, FULL);
        VolumeSets z = full.made.get();
        z.entry();
        z.clear();
        inside("entry(), behind clear()", z.entry(), 0);
        inside("it has what the TAPE had", z.byteOf(0, 12), 43);
    }

    private static void clear() {
        promise(5, "All ENTRIES go: how many there were.");
        State none = new State(() -> {
            VolumeSets x = of(24, 2, 7);
            tape(x, row(13, 1));
            x.write(1);
            x.read(7);
            return x;
        });
        stays("clear(), no ENTRY", none, VolumeSets::clear, 0);
        for (int many : new int[] {1, 19, 20}) {
            VolumeSets x = of(24, 2, 7);
            for (int k = 0; k < many; k++) {
                enter(x, row(2, k));
            }
            x.write(-1);
            x.read(7);
            int known = x.found(4);
            tape(x, row(13, 1));
            int slots = x.count(3);
            due("clear()", x.clear(), many);
            due("ENTRIES", x.count(0), 0);
            due("bytes of THE STREAM", x.count(1), 0);
            due("volumes()", x.volumes(), 3);
            due("the TAPE stays", x.count(2), 13);
            due("SLOTS stay", x.count(4), slots);
            due("what was READ stays", x.found(4), known);
            due("the rules stay", x.count(6) * 10000 + x.count(7) * 1000 + x.count(8), 24 * 10000 + 2 * 1000 + 7);
            due("clear() again", x.clear(), 0);
            due("entry()", x.entry(), 0);
            same("VOLUME 0", allBytes(x, 0), cut(24, 2, 7, row(13, 1))[0]);
        }
        leaves("clear()", RICH, VolumeSets::clear, 3, Part.TAPE, Part.SLOTS, Part.READING);
    }

    private static void rule() {
        promise(6, "what 0: SIZE, 1: REPAIRS, 2: SET: what it was.");
        VolumeSets x = new VolumeSets();
        due("rule(0, 80)", x.rule(0, 80), 32);
        due("rule(1, 3)", x.rule(1, 3), 0);
        due("rule(2, 255)", x.rule(2, 255), 0);
        due("SIZE", x.count(6), 80);
        due("REPAIRS", x.count(7), 3);
        due("SET", x.count(8), 255);
        due("rule(0, 20)", x.rule(0, 20), 80);
        due("rule(1, 0)", x.rule(1, 0), 3);
        due("rule(2, 0)", x.rule(2, 0), 255);
        due("rule(0, 20), as it is", x.rule(0, 20), 20);
        due("SIZE", x.count(6), 20);
        due("REPAIRS", x.count(7), 0);
        due("SET", x.count(8), 0);
        leaves("rule(0, 80)", RICH, y -> y.rule(0, 80), 24, Part.TAPE, Part.SLOTS, Part.READING);
        leaves("rule(1, 0)", RICH, y -> y.rule(1, 0), 2, Part.TAPE, Part.SLOTS, Part.READING);
        leaves("rule(2, 8)", RICH, y -> y.rule(2, 8), 7, Part.TAPE, Part.SLOTS, Part.READING);
        // Back again, all is as it was.
        stays("rule(0, 24)", RICH, y -> y.rule(0, 80) + y.rule(0, 24), 24 + 80);
        stays("rule(1, 2)", RICH, y -> y.rule(1, 0) + y.rule(1, 2), 2);
        stays("rule(2, 7)", RICH, y -> y.rule(2, 8) + y.rule(2, 7), 7 + 8);
    }

    private static void ruleBad() {
        promise(6, "BAD: another what, value.");
        State state = new State(() -> of(24, 2, 7, row(20, 1)));
        int[][] bad = {{-1, 20}, {3, 20}, {3, 0}, {-1, 0}, {0, 19}, {0, 81}, {1, -1}, {1, 4}, {2, -1}, {2, 256},
            {0, 0}, {0, -20}, {1, 20}};
        for (int[] of : bad) {
            stays("rule(" + of[0] + ", " + of[1] + ")", state, x -> x.rule(of[0], of[1]), BAD);
        }
        for (int far : FAR) {
            stays("rule(" + far + ", 20)", state, x -> x.rule(far, 20), BAD);
            for (int what = 0; what < 3; what++) {
                int of = what;
                stays("rule(" + what + ", " + far + ")", state, x -> x.rule(of, far), BAD);
            }
        }
        int[][] good = {{0, 20, 24}, {0, 80, 24}, {1, 0, 2}, {1, 3, 2}, {2, 0, 7}, {2, 255, 7}};
        for (int[] of : good) {
            inside("rule(" + of[0] + ", " + of[1] + ")", state.made.get().rule(of[0], of[1]), of[2]);
        }
    }

    private static void volumes() {
        promise(7, "How many VOLUMES there would be (m + r).");
        for (int r = 0; r <= 3; r++) {
            due("no ENTRY, r is " + r, of(20, r, 0).volumes(), 1 + r);
            due("8 bytes at SIZE 20, r is " + r, ofStream(20, r, 8).volumes(), 1 + r);
            due("9 bytes at SIZE 20, r is " + r, ofStream(20, r, 9).volumes(), 2 + r);
            due("1,260 bytes at SIZE 80, r is " + r, ofStream(80, r, 1260).volumes(), 19 + r);
        }
        State state = new State(() -> ofStream(20, 3, 50));
        stays("volumes()", state, VolumeSets::volumes, 10);
    }

    private static void volumesFull() {
        promise(7, "FULL: above 60.");
        for (int r = 0; r <= 3; r++) {
            int bytes = (60 - r) * 8;
            inside("volumes(), 60 with r " + r, ofStream(20, r, bytes).volumes(), 60);
            outside("volumes(), a byte more", ofStream(20, r, bytes + 1).volumes(), FULL);
            VolumeSets x = ofStream(20, r, bytes);
            outside("a REPAIR more", x.rule(1, r + 1) == BAD ? FULL : x.volumes(), FULL);
        }
        VolumeSets most = ofStream(20, 0, 1260);
        outside("1,260 bytes at SIZE 20", most.volumes(), FULL);
        most.rule(0, 32);
        outside("1,260 bytes at SIZE 32", most.volumes(), FULL);
        most.rule(0, 33);
        inside("1,260 bytes at SIZE 33", most.volumes(), 60);
        State state = new State(() -> ofStream(20, 0, 481));
        stays("volumes(), 61", state, VolumeSets::volumes, FULL);
        VolumeSets y = state.made.get();
        y.volumes();
        y.clear();
        inside("volumes(), behind clear()", y.volumes(), 1);
    }

    private static void byteOf() {
        promise(8, "Byte i of VOLUME n, as it would be written.");
        int[][] entries = {row(9, 1), row(0, 1), row(30, 60)};
        VolumeSets x = of(23, 2, 200, entries);
        int[][] volumes = cut(23, 2, 200, entries);
        due("volumes()", x.volumes(), volumes.length);
        for (int n = 0; n < volumes.length; n++) {
            same("VOLUME " + n, allBytes(x, n), volumes[n]);
        }
        x.write(-1);
        same("VOLUME 0 in SLOT 0", bytesOf(x, 0), volumes[0]);
        int last = volumes.length - 1;
        same("the last VOLUME in its SLOT", bytesOf(x, last), volumes[last]);
        State state = new State(() -> {
            VolumeSets y = of(24, 2, 7, row(20, 1));
            y.write(1);
            return y;
        });
        stays("byteOf(0, 0)", state, y -> y.byteOf(0, 0), 86);
        stays("byteOf(3, 3)", state, y -> y.byteOf(3, 3), 3);
    }

    private static void byteOfFull() {
        promise(8, "FULL: as of volumes() (ahead of BAD).");
        VolumeSets x = ofStream(20, 3, 57 * 8);
        inside("byteOf(0, 0), 60", x.byteOf(0, 0), 86);
        inside("byteOf(59, 3), 60", x.byteOf(59, 3), 59);
        inside("byteOf(60, 0), 60", x.byteOf(60, 0), BAD);
        State state = new State(() -> ofStream(20, 3, 57 * 8 + 1));
        int[][] asked = {{0, 0}, {60, 0}, {61, 0}, {-1, 0}, {0, -1}, {0, 20}, {Integer.MIN_VALUE, Integer.MAX_VALUE}};
        for (int[] of : asked) {
            stays("byteOf(" + of[0] + ", " + of[1] + "), 61", state, y -> y.byteOf(of[0], of[1]), FULL);
        }
    }

    private static void byteOfBad() {
        promise(8, "BAD: none such.");
        State state = new State(() -> of(24, 2, 7, row(20, 1)));
        // 23 bytes in PIECES of 12: m is 2.
        VolumeSets x = state.made.get();
        inside("byteOf(0, 0)", x.byteOf(0, 0), 86);
        inside("byteOf(3, 0)", x.byteOf(3, 0), 86);
        inside("byteOf(1, 23), a 0 behind", x.byteOf(1, 23), 0);
        inside("byteOf(1, 22), the last of the ENTRY", x.byteOf(1, 22), 20);
        int[][] bad = {{-1, 0}, {4, 0}, {0, -1}, {0, 24}, {3, 24}, {3, -1}, {4, 24}, {-1, -1}};
        for (int[] of : bad) {
            stays("byteOf(" + of[0] + ", " + of[1] + ")", state, y -> y.byteOf(of[0], of[1]), BAD);
        }
        for (int far : FAR) {
            stays("byteOf(" + far + ", 0)", state, y -> y.byteOf(far, 0), BAD);
            stays("byteOf(0, " + far + ")", state, y -> y.byteOf(0, far), BAD);
        }
    }
}
