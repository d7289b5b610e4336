import java.util.Arrays;

/** The document's boundaries of the SLOTS: promises 9 to 14, and the terms that they use. */
final class SlotBoundaries extends Sentences {
    private SlotBoundaries() {
    }

    static void test() {
        slots();
        writing();
        isThere();
        leastEmpty();
        power();
        cutOnes();
        emptyState();
        goodMarks();
        goodHeadSum();
        goodMany();
        goodRepairs();
        goodNumber();
        goodBodySum();
        spoiltOrNoHead();
        write();
        writeBad();
        writeFull();
        lose();
        loseBad();
        poke();
        pokeBad();
        swap();
        swapBad();
        copy();
        copyBad();
        slot();
        slotBad();
        slotNone();
    }

    /** 33 bytes at SIZE 32: VOLUMES 0 and 1, and as many REPAIRS. */
    private static VolumeSets four() {
        return of(32, 2, 7, row(30, 1));
    }

    private static final int[][] FOUR = cut(32, 2, 7, row(30, 1));

    /** SLOT 0 has a row: its STATE. */
    private static int state(int... row) {
        return holding(row).slot(0, 0);
    }

    // ---- terms

    private static void slots() {
        term(14, "SLOTS 0 .. 59 are empty, or have bytes.");
        VolumeSets x = four();
        x.write(-1);
        x.swap(3, 59);
        inside("slot(0, 5)", x.slot(0, 5), 32);
        inside("slot(59, 5)", x.slot(59, 5), 32);
        inside("slot(58, 0), empty", x.slot(58, 0), 0);
        outside("slot(-1, 0)", x.slot(-1, 0), BAD);
        outside("slot(60, 0)", x.slot(60, 0), BAD);
        outside("slot(-1, 5)", x.slot(-1, 5), BAD);
        outside("slot(60, 5)", x.slot(60, 5), BAD);
    }

    private static void writing() {
        term(9, "WRITING: VOLUMES 0 .. m + r - 1, in order:");
        VolumeSets x = four();
        due("write(-1)", x.write(-1), 4);
        for (int n = 0; n < 4; n++) {
            same("SLOT " + n, bytesOf(x, n), FOUR[n]);
        }
        outside("SLOT 4", x.slot(4, 0), 0);
        VolumeSets least = of(20, 0, 3);
        due("write(-1), no ENTRY", least.write(-1), 1);
        same("SLOT 0, no ENTRY", bytesOf(least, 0), cut(20, 0, 3)[0]);
        outside("SLOT 1, no ENTRY", least.slot(1, 0), 0);
        VolumeSets most = mostVolumes();
        due("write(-1), 60", most.write(-1), 60);
        for (int n = 0; n < 60; n++) {
            due("the number in SLOT " + n, most.slot(n, 2), n);
        }
    }

    /** 57 VOLUMES and 3 REPAIRS. */
    private static VolumeSets mostVolumes() {
        return of(20, 3, 255, row(60, 3), row(60, 100), row(60, 9), row(60, 77), row(60, 31), row(60, 1), row(60, 200),
            row(12, 40));
    }

    private static void isThere() {
        term(9, "one of which a SLOT has just the bytes is there;");
        for (int i : new int[] {0, 2, 3, 6, 9, 11, 12, 30, 31}) {
            VolumeSets x = four();
            x.write(-1);
            inside("write(-1), all are there", x.write(-1), 0);
            x.poke(1, i, 128);
            outside("write(-1), byte " + i + " is another", x.write(-1), 1);
            outside("VOLUME 1 is in SLOT 4 too", x.slot(4, 2), 1);
            outside("SLOTS that are not empty", x.count(3), 5);
        }
        VolumeSets moved = four();
        moved.write(-1);
        moved.swap(0, 59);
        moved.swap(1, 2);
        moved.copy(3, 4);
        inside("write(-1), in other SLOTS, one twice", moved.write(-1), 0);
        moved.lose(59);
        outside("write(-1), one is lost", moved.write(-1), 1);
        // The same bytes, and one more or less.
        int[] short_ = cut(32, 0, 0)[0];
        VolumeSets longer = holding(Arrays.copyOf(short_, 33));
        longer.rule(0, 32);
        longer.rule(2, 0);
        outside("write(-1), a SLOT has the bytes and a 0", longer.write(-1), 1);
        inside("write(-1), then it is there", longer.write(-1), 0);
        VolumeSets shorter = holding(Arrays.copyOf(short_, 31));
        shorter.rule(0, 32);
        shorter.rule(2, 0);
        outside("write(-1), a SLOT has all but the last 0", shorter.write(-1), 1);
        VolumeSets just = holding(short_);
        just.rule(0, 32);
        just.rule(2, 0);
        inside("write(-1), a SLOT has just the bytes", just.write(-1), 0);
        // What was made at another SIZE leaves nothing behind the bytes.
        VolumeSets sizes = of(80, 0, 0, row(60, 1));
        sizes.write(-1);
        sizes.rule(0, 20);
        inside("write(-1), 8 of SIZE 20", sizes.write(-1), 8);
        sizes.rule(0, 80);
        sizes.rule(2, 77);
        sizes.clear();
        enter(sizes, row(60, 100));
        sizes.byteOf(0, 0);
        sizes.clear();
        enter(sizes, row(60, 1));
        sizes.rule(0, 20);
        sizes.rule(2, 0);
        inside("write(-1), all of SIZE 20 are there", sizes.write(-1), 0);
        // Another rule alone makes other bytes of it.
        for (int what = 0; what < 3; what++) {
            VolumeSets x = of(32, 0, 0);
            x.write(-1);
            x.rule(what, what == 0 ? 33 : 1);
            outside("write(-1), rule " + what + " is another", x.write(-1), what == 1 ? 2 : 1);
        }
    }

    private static void leastEmpty() {
        term(9, "each other one is written into the least empty SLOT.");
        VolumeSets x = four();
        x.write(-1);
        x.lose(0);
        x.lose(2);
        x.rule(2, 9);
        due("write(-1)", x.write(-1), 4);
        int[] sets = {9, 7, 9, 7, 9, 9};
        int[] numbers = {0, 1, 1, 3, 2, 3};
        for (int i = 0; i < 6; i++) {
            due("SET in SLOT " + i, x.slot(i, 1), sets[i]);
            due("number in SLOT " + i, x.slot(i, 2), numbers[i]);
        }
        VolumeSets y = of(20, 0, 0);
        y.write(-1);
        for (int b = 1; b < 59; b++) {
            y.copy(0, b);
        }
        y.rule(2, 5);
        inside("write(-1), SLOT 59 alone is empty", y.write(-1), 1);
        inside("SET in SLOT 59", y.slot(59, 1), 5);
        y.lose(0);
        y.rule(2, 6);
        inside("write(-1), SLOT 0 alone is empty", y.write(-1), 1);
        inside("SET in SLOT 0", y.slot(0, 1), 6);
    }

    private static void power() {
        term(9, "POWER: so many are written; the next one that would be is CUT:");
        // POWER, written whole, SLOTS that are not empty, GOOD ones: of 4 VOLUMES.
        int[][] rows = {{0, 0, 1, 0}, {1, 1, 2, 1}, {3, 3, 4, 3}, {4, 4, 4, 4}, {5, 4, 4, 4}, {60, 4, 4, 4},
            {-1, 4, 4, 4}};
        for (int[] of : rows) {
            VolumeSets x = four();
            due("write(" + of[0] + ")", x.write(of[0]), of[1]);
            due("SLOTS that are not empty", x.count(3), of[2]);
            due("GOOD ones", x.count(4), of[3]);
        }
        VolumeSets all = four();
        all.write(-1);
        due("write(0), none would be written", all.write(0), 0);
        due("so none is CUT", all.count(3), 4);
        // Those that are there take no POWER.
        VolumeSets x = four();
        x.write(-1);
        x.lose(1);
        x.lose(3);
        due("write(1), 1 and 3 are missing", x.write(1), 1);
        same("VOLUME 1 is whole", bytesOf(x, 1), FOUR[1]);
        due("VOLUME 3 is CUT", x.slot(3, 0), 2);
        VolumeSets y = four();
        y.write(-1);
        y.lose(2);
        due("write(0), 2 is missing", y.write(0), 0);
        due("VOLUME 2 is CUT", y.slot(2, 0), 2);
        due("SLOTS that are not empty", y.count(3), 4);
        due("write(1): the CUT one is not there", y.write(1), 1);
        same("VOLUME 2 is whole", bytesOf(y, 4), FOUR[2]);
    }

    private static void cutOnes() {
        term(9, "it is there with the first half of its bytes (s / 2, whole), 0s behind, and WRITING ends.");
        for (int s : new int[] {20, 21, 22, 23, 24, 25, 33, 79, 80}) {
            VolumeSets x = of(s, 1, 255, row(60, 190), row(60, 100));
            int[][] volumes = cut(s, 1, 255, row(60, 190), row(60, 100));
            due("write(1), SIZE " + s, x.write(1), 1);
            int[] want = Arrays.copyOf(Arrays.copyOf(volumes[1], s / 2), s);
            same("the CUT one", bytesOf(x, 1), want);
            due("SLOTS that are not empty", x.count(3), 2);
        }
        // Its STATE: a HEAD of 12 is there from SIZE 24 on.
        int[] none = {20, 21, 22, 23};
        for (int s : none) {
            VolumeSets x = of(s, 0, 255, row(60, 190));
            x.write(0);
            outside("STATE of a CUT one at SIZE " + s, x.slot(0, 0), 3);
        }
        VolumeSets x = of(24, 0, 255, row(60, 190));
        x.write(0);
        inside("STATE of a CUT one at SIZE 24", x.slot(0, 0), 2);
        // What is behind is 0s anyway: it has just the bytes then.
        VolumeSets y = of(32, 0, 0);
        due("write(0), a BODY of 0s", y.write(0), 0);
        due("its STATE", y.slot(0, 0), 1);
        due("write(0), it is there", y.write(0), 0);
        due("SLOTS that are not empty", y.count(3), 1);
        // A REPAIR is CUT likewise.
        VolumeSets z = four();
        due("write(3)", z.write(3), 3);
        same("REPAIR 1", bytesOf(z, 3), Arrays.copyOf(Arrays.copyOf(FOUR[3], 16), 32));
    }

    private static void emptyState() {
        term(14, "The STATE of a SLOT: 0 empty;");
        VolumeSets x = new VolumeSets();
        inside("slot(0, 0) at first", x.slot(0, 0), 0);
        x.write(-1);
        outside("slot(0, 0), written", x.slot(0, 0), 1);
        inside("slot(1, 0)", x.slot(1, 0), 0);
        x.lose(0);
        inside("slot(0, 0), lost", x.slot(0, 0), 0);
        outside("a SLOT that has nothing but 0s", state(new int[20]), 3);
    }

    /** VOLUME 1 of 2, with a REPAIR. */
    private static final int[] BASE = volume(7, 1, 2, 1, 5, 255, 9, 8, 7, 6, 5, 0, 0, 0);

    private static void goodMarks() {
        term(14, "1 GOOD: it begins with 86, 83,");
        inside("86, 83", state(BASE), 1);
        int[][] marks = {{85, 83}, {87, 83}, {86, 82}, {86, 84}, {83, 86}, {0, 83}, {86, 0}, {214, 83}, {86, 211}};
        for (int[] of : marks) {
            int[] row = headSealed(with(with(BASE, 0, of[0]), 1, of[1]));
            outside(of[0] + ", " + of[1], state(row), 3);
        }
    }

    private static void goodHeadSum() {
        term(14, "its first ten bytes have the SUM that is told behind them,");
        inside("that SUM", state(BASE), 1);
        for (int i = 0; i < 12; i++) {
            outside("byte " + i + " is another", state(with(BASE, i, BASE[i] ^ 1)), 3);
            outside("byte " + i + " is another by 128", state(with(BASE, i, BASE[i] ^ 128)), 3);
        }
        int[] turned = with(with(BASE, 10, BASE[11]), 11, BASE[10]);
        outside("the higher byte first", state(turned), 3);
    }

    private static void goodMany() {
        term(14, "m is 1 .. 60,");
        int[] row = volume(7, 0, 2, 1, 5, 255, 9, 8, 7, 6, 5, 0, 0, 0);
        inside("m is 1", state(told(row, MANY, 1)), 1);
        inside("m is 60", state(told(row, MANY, 60)), 1);
        outside("m is 0", state(told(row, MANY, 0)), 3);
        outside("m is 61", state(told(row, MANY, 61)), 3);
        outside("m is 128", state(told(row, MANY, 128)), 3);
        outside("m is 255", state(told(row, MANY, 255)), 3);
    }

    private static void goodRepairs() {
        term(14, "r 0 .. 3,");
        int[] row = volume(7, 0, 2, 1, 5, 255, 9, 8, 7, 6, 5, 0, 0, 0);
        inside("r is 0", state(told(row, REPAIRS, 0)), 1);
        inside("r is 3", state(told(row, REPAIRS, 3)), 1);
        outside("r is 4", state(told(row, REPAIRS, 4)), 3);
        outside("r is 128", state(told(row, REPAIRS, 128)), 3);
        outside("r is 255", state(told(row, REPAIRS, 255)), 3);
    }

    private static void goodNumber() {
        term(14, "its number below m + r,");
        // m, r
        int[][] rows = {{1, 0}, {1, 3}, {2, 1}, {57, 3}, {60, 0}, {60, 1}, {60, 3}};
        for (int[] of : rows) {
            int below = of[0] + of[1];
            int[] row = volume(7, 0, of[0], of[1], 0, 255, new int[8]);
            String what = " of " + of[0] + " and " + of[1];
            inside("number 0" + what, state(row), 1);
            inside("number " + (below - 1) + what, state(told(row, NUMBER, below - 1)), 1);
            outside("number " + below + what, state(told(row, NUMBER, below)), 3);
            outside("number 255" + what, state(told(row, NUMBER, 255)), 3);
        }
    }

    private static void goodBodySum() {
        term(14, "and what is behind the HEAD has the SUM told there;");
        for (int s : new int[] {20, 21, 80}) {
            int[] row = volume(7, 1, 2, 1, 5, 255, row(s - 12, 3));
            inside("that SUM, " + s + " bytes", state(row), 1);
            outside("the first byte is another", state(with(row, 12, row[12] ^ 1)), 2);
            outside("the last byte is another", state(with(row, s - 1, row[s - 1] ^ 128)), 2);
            outside("the lower byte of the SUM is another", state(told(row, 8, row[8] ^ 1)), 2);
            outside("the higher byte of the SUM is another", state(told(row, 9, row[9] ^ 128)), 2);
            outside("the higher byte first", state(told(told(row, 8, row[9]), 9, row[8])), 2);
        }
    }

    private static void spoiltOrNoHead() {
        term(14, "2 SPOILT: all of these but the last; 3 no HEAD (the others).");
        int[] row = with(volume(7, 1, 2, 1, 5, 255, row(8, 3)), 19, 99);
        inside("SPOILT", state(row), 2);
        inside("m is 60", state(told(row, MANY, 60)), 2);
        inside("number 2", state(told(row, NUMBER, 2)), 2);
        inside("r is 3", state(told(row, REPAIRS, 3)), 2);
        inside("SET, length and START are others", state(told(told(told(row, SET, 255), LENGTH, 255), START, 0)), 2);
        outside("m is 61", state(told(row, MANY, 61)), 3);
        outside("m is 0", state(told(told(row, NUMBER, 0), MANY, 0)), 3);
        outside("number 3", state(told(row, NUMBER, 3)), 3);
        outside("r is 4", state(told(row, REPAIRS, 4)), 3);
        outside("86 is another", state(told(row, 0, 87)), 3);
        outside("83 is another", state(told(row, 1, 82)), 3);
        outside("the SUM of the HEAD is another", state(with(row, 11, row[11] ^ 1)), 3);
        outside("the SUM of the HEAD is another, the BODY's is right", state(with(BASE, 10, BASE[10] ^ 1)), 3);
    }

    // ---- promises

    private static void write() {
        promise(9, "WRITING with POWER for n (0 .. 60; - 1: for ever): how many were written whole.");
        inside("write(-1) of 60", mostVolumes().write(-1), 60);
        inside("write(60) of 60", mostVolumes().write(60), 60);
        VolumeSets x = mostVolumes();
        inside("write(59) of 60", x.write(59), 59);
        inside("the CUT one is there", x.count(3), 60);
        inside("GOOD ones", x.count(4), 59);
        VolumeSets y = mostVolumes();
        inside("write(0) of 60", y.write(0), 0);
        inside("the CUT one is there", y.count(3), 1);
        inside("write(57)", y.write(57), 57);
        due("SLOTS that are not empty", y.count(3), 59);
        due("write(-1), 3 into 1", y.write(-1), FULL);
        y.lose(0);
        y.lose(58);
        due("write(-1), 3 into 3", y.write(-1), 3);
        due("write(-1), all are there", y.write(-1), 0);
        leaves("write(-1)", RICH, z -> z.write(-1), 1, Part.STREAM, Part.TAPE, Part.READING);
        leaves("write(0)", RICH, z -> z.write(0), 0, Part.STREAM, Part.TAPE, Part.READING);
    }

    private static void writeBad() {
        promise(9, "BAD: another n.");
        inside("write(-1)", four().write(-1), 4);
        inside("write(0)", four().write(0), 0);
        inside("write(60)", four().write(60), 4);
        stays("write(-2)", RICH, x -> x.write(-2), BAD);
        stays("write(61)", RICH, x -> x.write(61), BAD);
        for (int far : FAR) {
            stays("write(" + far + ")", RICH, x -> x.write(far), BAD);
        }
        // BAD stands ahead of FULL.
        stays("write(61), above 60", TOO_MANY, x -> x.write(61), BAD);
        stays("write(-2), above 60", TOO_MANY, x -> x.write(-2), BAD);
        stays("write(61), no SLOT is empty", NO_EMPTY, x -> x.write(61), BAD);
    }

    /** 58 and 3: above 60. */
    private static final State TOO_MANY = new State(() -> {
        VolumeSets x = mostVolumes();
        x.entry();
        return x;
    });

    /** All SLOTS have the VOLUME of SET 7; four of SET 8 would be written. */
    private static final State NO_EMPTY = new State(() -> filled(0));

    private static VolumeSets filled(int empty) {
        VolumeSets x = of(20, 0, 7);
        x.write(-1);
        for (int b = 1; b < 60 - empty; b++) {
            x.copy(0, b);
        }
        x.rule(2, 8);
        x.rule(1, 3);
        return x;
    }

    private static void writeFull() {
        promise(9, "FULL: as of volumes(), or there are not so many empty SLOTS as would be written or CUT (nothing is "
            + "written).");
        inside("write(-1), just 60", mostVolumes().write(-1), 60);
        for (int n : new int[] {-1, 0, 1, 60}) {
            stays("write(" + n + "), above 60", TOO_MANY, x -> x.write(n), FULL);
            stays("write(" + n + "), no SLOT is empty", NO_EMPTY, x -> x.write(n), FULL);
        }
        // Four would be written: of each number of empty SLOTS the most POWER that is not FULL.
        for (int empty = 1; empty <= 3; empty++) {
            int most = empty - 1;
            int slots = empty;
            VolumeSets x = filled(empty);
            inside("write(" + most + "), " + empty + " are empty", x.write(most), most);
            inside("none is empty then", x.count(3), 60);
            State state = new State(() -> filled(slots));
            for (int n : new int[] {empty, 4, 60, -1}) {
                stays("write(" + n + "), " + empty + " are empty", state, y -> y.write(n), FULL);
            }
        }
        inside("write(3), 4 are empty", filled(4).write(3), 3);
        inside("write(4), 4 are empty", filled(4).write(4), 4);
        inside("write(60), 4 are empty", filled(4).write(60), 4);
        inside("write(-1), 4 are empty", filled(4).write(-1), 4);
        // Those that are there need no SLOT.
        VolumeSets y = filled(4);
        y.write(-1);
        inside("write(-1), all are there, none is empty", y.write(-1), 0);
        inside("write(0), all are there, none is empty", y.write(0), 0);
        y.lose(57);
        y.lose(58);
        y.copy(0, 58);
        outside("write(-1), 2 into 1", y.write(-1), FULL);
        outside("write(1), 1 and a CUT one into 1", y.write(1), FULL);
        outside("nothing is written", y.count(3), 59);
        y.lose(58);
        inside("write(-1), 2 into 2", y.write(-1), 2);
    }

    private static void lose() {
        promise(10, "A SLOT is empty: how many bytes it had.");
        VolumeSets x = holding(cut(20, 0, 0)[0], cut(80, 0, 0)[0], new int[33]);
        x.swap(1, 59);
        inside("lose(0), of 20", x.lose(0), 20);
        inside("lose(59), of 80", x.lose(59), 80);
        inside("lose(2), without a HEAD", x.lose(2), 33);
        for (int i : new int[] {0, 2, 59}) {
            due("slot(" + i + ", 0)", x.slot(i, 0), 0);
            due("slot(" + i + ", 5)", x.slot(i, 5), NONE);
            due("poke(" + i + ", 0, 1)", x.poke(i, 0, 1), BAD);
        }
        due("SLOTS that are not empty", x.count(3), 0);
        VolumeSets y = four();
        y.write(-1);
        y.lose(1);
        due("the others stay", y.count(4), 3);
        leaves("lose(0)", RICH, z -> z.lose(0), 24, Part.STREAM, Part.TAPE, Part.READING);
    }

    private static void loseBad() {
        promise(10, "BAD: none such, empty.");
        inside("lose(0)", RICH.made.get().lose(0), 24);
        inside("lose(59)", RICH.made.get().lose(59), 24);
        stays("lose(-1)", RICH, x -> x.lose(-1), BAD);
        stays("lose(60)", RICH, x -> x.lose(60), BAD);
        stays("lose(58), empty", RICH, x -> x.lose(58), BAD);
        stays("lose(2), empty, it was not", RICH, x -> x.lose(2), BAD);
        for (int far : FAR) {
            stays("lose(" + far + ")", RICH, x -> x.lose(far), BAD);
        }
        VolumeSets x = RICH.made.get();
        x.lose(0);
        outside("lose(0) again", x.lose(0), BAD);
    }

    private static void poke() {
        promise(11, "Byte i of a SLOT is xored with a mask (1 .. 255): what it is.");
        VolumeSets x = holding(row(20, 0), row(80, 176));
        x.swap(1, 59);
        inside("poke(0, 0, 1)", x.poke(0, 0, 1), 1);
        inside("poke(0, 0, 255)", x.poke(0, 0, 255), 254);
        inside("poke(0, 0, 255) again", x.poke(0, 0, 255), 1);
        inside("poke(0, 19, 255)", x.poke(0, 19, 255), 255 - 19);
        inside("poke(59, 79, 1)", x.poke(59, 79, 1), 254);
        inside("poke(59, 79, 254)", x.poke(59, 79, 254), 0);
        same("SLOT 0", bytesOf(x, 0), with(with(row(20, 0), 0, 1), 19, 236));
        leaves("poke(0, 12, 1)", RICH, z -> z.poke(0, 12, 1), 21, Part.STREAM, Part.TAPE, Part.READING);
        stays("poke(0, 12, 1) twice", RICH, z -> z.poke(0, 12, 1) + z.poke(0, 12, 1), 21 + 20);
    }

    private static void pokeBad() {
        promise(11, "BAD: none such.");
        int[][] bad = {{-1, 0, 1}, {60, 0, 1}, {58, 0, 1}, {2, 0, 1}, {0, -1, 1}, {0, 24, 1}, {0, 79, 1}, {0, 80, 1},
            {0, 0, 0}, {0, 0, 256}, {0, 0, -1}, {0, 0, -256}, {0, 0, 257}, {59, 24, 1}, {59, 23, 0}};
        for (int[] of : bad) {
            stays("poke(" + of[0] + ", " + of[1] + ", " + of[2] + ")", RICH, x -> x.poke(of[0], of[1], of[2]), BAD);
        }
        for (int far : FAR) {
            stays("poke(" + far + ", 0, 1)", RICH, x -> x.poke(far, 0, 1), BAD);
            stays("poke(0, " + far + ", 1)", RICH, x -> x.poke(0, far, 1), BAD);
            stays("poke(0, 0, " + far + ")", RICH, x -> x.poke(0, 0, far), BAD);
        }
        inside("poke(0, 0, 1)", RICH.made.get().poke(0, 0, 1), 87);
        // Byte 23 is the last of PIECE 0: the ninth of the first ENTRY.
        inside("poke(0, 23, 255)", RICH.made.get().poke(0, 23, 255), 9 ^ 255);
        inside("poke(59, 3, 1)", RICH.made.get().poke(59, 3, 1), 3);
        // A SLOT that had more bytes ahead of it.
        VolumeSets x = of(80, 0, 0);
        x.write(-1);
        x.lose(0);
        x.rule(0, 20);
        x.write(-1);
        inside("poke(0, 19, 1), of 20", x.poke(0, 19, 1), 1);
        outside("poke(0, 20, 1), of 20", x.poke(0, 20, 1), BAD);
    }

    private static void swap() {
        promise(12, "What two SLOTS have (also nothing) changes places: 1.");
        int[] first = cut(20, 0, 3)[0];
        int[] second = cut(35, 0, 4)[0];
        VolumeSets x = holding(first, second);
        due("swap(0, 1)", x.swap(0, 1), 1);
        same("SLOT 0", bytesOf(x, 0), second);
        same("SLOT 1", bytesOf(x, 1), first);
        inside("swap(0, 59), nothing there", x.swap(0, 59), 1);
        inside("slot(0, 0)", x.slot(0, 0), 0);
        same("SLOT 59", bytesOf(x, 59), second);
        inside("swap(2, 1), nothing here", x.swap(2, 1), 1);
        inside("slot(1, 0)", x.slot(1, 0), 0);
        same("SLOT 2", bytesOf(x, 2), first);
        inside("swap(59, 2)", x.swap(59, 2), 1);
        same("SLOT 59", bytesOf(x, 59), first);
        stays("swap(57, 58), nothing in both", RICH, y -> y.swap(57, 58), 1);
        stays("swap(0, 59) and back", RICH, y -> y.swap(0, 59) + y.swap(0, 59), 2);
        leaves("swap(0, 59)", RICH, y -> y.swap(0, 59), 1, Part.STREAM, Part.TAPE, Part.READING);
    }

    private static void swapBad() {
        promise(12, "BAD: none such.");
        inside("swap(0, 59)", RICH.made.get().swap(0, 59), 1);
        inside("swap(59, 0)", RICH.made.get().swap(59, 0), 1);
        int[][] bad = {{-1, 0}, {0, -1}, {60, 0}, {0, 60}, {-1, 60}, {60, 60}, {-1, -1}, {59, 60}};
        for (int[] of : bad) {
            stays("swap(" + of[0] + ", " + of[1] + ")", RICH, x -> x.swap(of[0], of[1]), BAD);
        }
        for (int far : FAR) {
            stays("swap(" + far + ", 0)", RICH, x -> x.swap(far, 0), BAD);
            stays("swap(0, " + far + ")", RICH, x -> x.swap(0, far), BAD);
        }
    }

    private static void copy() {
        promise(13, "SLOT b, which is empty, has what SLOT a has: how many bytes.");
        int[] first = cut(20, 0, 3)[0];
        int[] most = volume(1, 0, 1, 0, 68, 0, row(68, 9));
        VolumeSets x = holding(first, most);
        inside("copy(0, 59)", x.copy(0, 59), 20);
        same("SLOT 59", bytesOf(x, 59), first);
        inside("copy(1, 2)", x.copy(1, 2), 80);
        same("SLOT 2", bytesOf(x, 2), most);
        inside("copy(59, 3)", x.copy(59, 3), 20);
        x.poke(59, 12, 7);
        due("each has its own: SLOT 0", x.slot(0, 0), 1);
        due("each has its own: SLOT 3", x.slot(3, 0), 1);
        due("each has its own: SLOT 59", x.slot(59, 0), 2);
        VolumeSets noHead = holding(new int[20]);
        inside("copy(0, 1), without a HEAD", noHead.copy(0, 1), 20);
        inside("slot(1, 0)", noHead.slot(1, 0), 3);
        leaves("copy(0, 2)", RICH, y -> y.copy(0, 2), 24, Part.STREAM, Part.TAPE, Part.READING);
        stays("copy(0, 2), lost again", RICH, y -> y.copy(0, 2) + y.lose(2), 48);
    }

    private static void copyBad() {
        promise(13, "BAD: none such, a is empty, or b is not.");
        inside("copy(0, 58)", RICH.made.get().copy(0, 58), 24);
        inside("copy(59, 2)", RICH.made.get().copy(59, 2), 24);
        int[][] bad = {{-1, 58}, {60, 58}, {0, -1}, {0, 60}, {57, 58}, {58, 58}, {0, 1}, {0, 59}, {59, 0}, {0, 0},
            {58, 0}, {60, 60}, {-1, -1}};
        for (int[] of : bad) {
            stays("copy(" + of[0] + ", " + of[1] + ")", RICH, x -> x.copy(of[0], of[1]), BAD);
        }
        for (int far : FAR) {
            stays("copy(" + far + ", 58)", RICH, x -> x.copy(far, 58), BAD);
            stays("copy(0, " + far + ")", RICH, x -> x.copy(0, far), BAD);
        }
    }

    private static void slot() {
        promise(14, "Of a SLOT: 0 its STATE; of GOOD, SPOILT ones 1 SET, 2 number, 3 m, 4 r; 5 how many bytes.");
        int[] most = volume(255, 62, 60, 3, 0, 255, new int[68]);
        int[] least = volume(0, 0, 1, 0, 0, 255, new int[8]);
        VolumeSets x = holding(most, with(most, 79, 1), least, with(least, 19, 1));
        int[][] want = {{1, 255, 62, 60, 3, 80}, {2, 255, 62, 60, 3, 80}, {1, 0, 0, 1, 0, 20}, {2, 0, 0, 1, 0, 20}};
        for (int i = 0; i < 4; i++) {
            for (int what = 0; what <= 5; what++) {
                due("slot(" + i + ", " + what + ")", x.slot(i, what), want[i][what]);
            }
        }
        for (int what = 0; what <= 5; what++) {
            int of = what;
            int[] wants = {1, 7, 0, 4, 2, 24};
            stays("slot(0, " + what + ")", RICH, y -> y.slot(0, of), wants[what]);
        }
    }

    private static void slotBad() {
        promise(14, "BAD: none such, another what.");
        VolumeSets x = RICH.made.get();
        inside("slot(0, 0)", x.slot(0, 0), 1);
        inside("slot(59, 5)", x.slot(59, 5), 24);
        inside("slot(59, 4)", x.slot(59, 4), 2);
        int[][] bad = {{-1, 0}, {60, 0}, {-1, 5}, {60, 5}, {0, -1}, {0, 6}, {1, 6}, {8, 6}, {58, 6}, {58, -1}, {8, -1},
            {60, 6}};
        for (int[] of : bad) {
            stays("slot(" + of[0] + ", " + of[1] + ")", RICH, y -> y.slot(of[0], of[1]), BAD);
        }
        for (int far : FAR) {
            stays("slot(" + far + ", 0)", RICH, y -> y.slot(far, 0), BAD);
            stays("slot(0, " + far + ")", RICH, y -> y.slot(0, far), BAD);
            stays("slot(58, " + far + "), empty", RICH, y -> y.slot(58, far), BAD);
        }
    }

    private static void slotNone() {
        promise(14, "NONE: it is not GOOD or SPOILT (1 to 4), empty (5).");
        VolumeSets x = RICH.made.get();
        for (int what = 1; what <= 4; what++) {
            inside("of a GOOD one: slot(0, " + what + ")", x.slot(0, what) >= 0 ? 1 : 0, 1);
            inside("of a SPOILT one: slot(1, " + what + ")", x.slot(1, what) >= 0 ? 1 : 0, 1);
            outside("of one without a HEAD: slot(8, " + what + ")", x.slot(8, what), NONE);
            outside("of an empty one: slot(58, " + what + ")", x.slot(58, what), NONE);
        }
        inside("without a HEAD: slot(8, 5)", x.slot(8, 5), 24);
        outside("empty: slot(58, 5)", x.slot(58, 5), NONE);
        inside("without a HEAD: slot(8, 0)", x.slot(8, 0), 3);
        inside("empty: slot(58, 0)", x.slot(58, 0), 0);
    }
}
