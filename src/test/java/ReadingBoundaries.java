import java.util.Arrays;

/** The document's boundaries of READING: promises 15 to 20, and the terms that they use. */
final class ReadingBoundaries extends Sentences {
    private ReadingBoundaries() {
    }

    static void test() {
        firstSlot();
        ofIt();
        firstOfANumber();
        madeAgain();
        madeAgainOfMost();
        leastNumbers();
        soMixed();
        known();
        knownLengths();
        openingFromZero();
        onToAStart();
        startsBelowLengths();
        behindThePlace();
        noStartBehind();
        lengthsTold();
        sixtyBytes();
        allKnown();
        thatSum();
        placeBehind();
        forty();
        read();
        readBad();
        readNone();
        found();
        foundBad();
        foundNone();
        where();
        whereBad();
        whereNone();
        got();
        gotBad();
        gotNone();
        opened();
        openedBad();
        count();
        countBad();
    }

    /** VOLUME n of m, of SET 7, with r REPAIRS told, and BODIES of eight bytes. */
    private static int[] eight(int n, int m, int r, int length, int start, int... body) {
        return volume(7, n, m, r, length, start, Arrays.copyOf(body, 8));
    }

    /** An object with just these rows, READ as SET 7. */
    private static VolumeSets read(int[]... rows) {
        VolumeSets x = holding(rows);
        x.read(7);
        return x;
    }

    private static int[][] without(int[][] rows, int... gone) {
        int[][] left = new int[rows.length - gone.length][];
        int many = 0;
        for (int n = 0; n < rows.length; n++) {
            int number = n;
            if (Arrays.stream(gone).noneMatch(g -> g == number)) {
                left[many++] = rows[n];
            }
        }
        return left;
    }

    private static void gotten(String what, VolumeSets x, int from, int... want) {
        for (int i = 0; i < want.length; i++) {
            due(what + ": got(" + (from + i) + ")", x.got(from + i), want[i]);
        }
    }

    /** All that is told: place, length, whether it is OPENED. */
    private static void told(String what, VolumeSets x, int[]... rows) {
        due(what + ": how many are told", x.found(4), rows.length);
        int whole = 0;
        for (int k = 0; k < rows.length; k++) {
            for (int of = 0; of < 3; of++) {
                due(what + ": opened(" + k + ", " + of + ")", x.opened(k, of), rows[k][of]);
            }
            whole += rows[k][2];
        }
        due(what + ": how many are OPENED", x.found(5), whole);
    }

    private static int[] all(int of, int many) {
        int[] row = new int[many];
        Arrays.fill(row, of);
        return row;
    }

    // ---- terms of READING

    private static void firstSlot() {
        term(15, "READING of a SET: the first SLOT (the least) that is GOOD, with this SET, tells m, r, and how many "
            + "bytes all have;");
        int[] small = eight(0, 2, 1, 8, 0, row(8, 1));
        int[] large = volume(7, 4, 5, 3, 9, 255, row(9, 50));
        VolumeSets x = holding(small, large);
        x.read(7);
        due("SLOT 0 tells m", x.found(0), 2);
        due("SLOT 0 tells r", x.found(1), 1);
        due("SLOT 0 tells the bytes", x.found(2), 20);
        x.swap(0, 59);
        x.read(7);
        due("SLOT 1, ahead of 59, tells m", x.found(0), 5);
        due("SLOT 1, ahead of 59, tells r", x.found(1), 3);
        due("SLOT 1, ahead of 59, tells the bytes", x.found(2), 21);
        x.lose(1);
        inside("read(7), SLOT 59 alone", x.read(7), 1);
        inside("SLOT 59 tells m", x.found(0), 2);
        int[][] others = {with(large, 20, 1), with(large, 11, large[11] ^ 1), told(large, SET, 6), told(large, SET, 8),
            told(large, MANY, 61)};
        for (int[] other : others) {
            VolumeSets y = read(other, small);
            outside("one ahead that is not GOOD with this SET: m", y.found(0), 2);
            outside("one ahead that is not GOOD with this SET: bytes", y.found(2), 20);
        }
        VolumeSets z = read(eight(3, 2, 2, 0, 255), eight(0, 2, 2, 8, 0, row(8, 1)));
        inside("a REPAIR tells it too: m", z.found(0), 2);
        inside("a REPAIR tells it too: where(3)", z.where(3), 0);
    }

    private static void ofIt() {
        term(15, "SLOTS that are GOOD, with this SET, and the same of these are OF IT;");
        int[] first = eight(0, 3, 1, 8, 0, row(8, 1));
        int[] second = eight(2, 3, 1, 8, 0, row(8, 11));
        VolumeSets same = holding(first, second);
        inside("read(7), all the same", same.read(7), 2);
        inside("where(2)", same.where(2), 1);
        String[] what = {"m more", "m less", "r more", "r less", "SET more", "SET less", "SPOILT", "no HEAD",
            "a byte more", "a byte less"};
        int[] more = sealed(Arrays.copyOf(second, 21));
        int[] large = volume(7, 0, 3, 1, 8, 0, row(9, 1));
        int[][] others = {told(second, MANY, 4), told(told(second, MANY, 2), NUMBER, 1), told(second, REPAIRS, 2),
            told(second, REPAIRS, 0), told(second, SET, 8), told(second, SET, 6), with(second, 19, 99),
            with(second, 10, second[10] ^ 1), more, second};
        for (int k = 0; k < others.length; k++) {
            boolean less = k == others.length - 1;
            VolumeSets x = holding(less ? large : first, others[k]);
            outside("read(7), " + what[k], x.read(7), 1);
            outside("where(1), " + what[k], x.where(1), NONE);
            outside("where(2), " + what[k], x.where(2), NONE);
        }
        inside("length and START may be others", read(first, told(told(second, LENGTH, 0), START, 9)).where(2), 1);
    }

    private static void firstOfANumber() {
        term(15, "of each number the first one counts.");
        int[] zero = eight(0, 2, 2, 8, 0, row(8, 1));
        int[] one = eight(1, 2, 2, 8, 0, row(8, 11));
        int[] other = eight(1, 2, 2, 4, 255, row(8, 111));
        VolumeSets x = holding(zero, one, other);
        due("read(7), a number twice", x.read(7), 2);
        due("where(1)", x.where(1), 1);
        gotten("the first one", x, 8, row(8, 11));
        x.swap(1, 2);
        due("read(7), in the other order", x.read(7), 2);
        due("where(1)", x.where(1), 1);
        gotten("the first one has a length of 4", x, 8, 111, 112, 113, 114, NONE);
        x.poke(1, 19, 1);
        x.read(7);
        due("where(1), the first one is SPOILT", x.where(1), 2);
        gotten("the one behind it", x, 8, row(8, 11));
        // A REPAIR that is there twice.
        int[] right = repair(0, 7, 2, 2, zero, one);
        int[] wrong = repair(0, 7, 2, 2, zero, other);
        VolumeSets y = read(zero, right, wrong);
        due("where(2)", y.where(2), 1);
        gotten("MADE AGAIN by the first one", y, 8, row(8, 11));
        VolumeSets z = read(zero, wrong, right);
        gotten("MADE AGAIN by the first one", z, 8, 111, 112, 113, 114, NONE);
    }

    // ---- terms of what is MADE AGAIN

    private static final int[][] ENTRIES = {row(9, 60), row(0, 0), row(14, 200), row(1, 7)};
    /** 12 + 3 + 17 + 4 = 36 bytes in PIECES of 8: 5 and 3. */
    private static final int[][] FIVE = cut(20, 3, 7, ENTRIES);
    private static final int[] STREAM = stream(ENTRIES);

    private static void madeAgain() {
        term(15, "A number that is missing, of 0 .. m - 1, is MADE AGAIN, if no more of these are missing than there "
            + "are REPAIRS OF IT:");
        due("VOLUMES", FIVE.length, 8);
        int none = (1 << 8) - 1;
        for (int gone = 0; gone < none; gone++) {
            VolumeSets x = of(20, 3, 7, ENTRIES);
            x.write(-1);
            for (int n = 0; n < 8; n++) {
                if ((gone >> n & 1) == 1) {
                    x.lose(n);
                }
            }
            int missing = Integer.bitCount(gone & 31);
            int repairs = 3 - Integer.bitCount(gone >> 5);
            String what = missing + " missing, " + repairs + " REPAIRS (" + gone + ")";
            if (missing <= repairs) {
                inside("read(7), " + what, x.read(7), 5);
                inside("MADE AGAIN, " + what, x.found(3), missing);
                gotten(what, x, 0, STREAM);
            } else {
                outside("read(7), " + what, x.read(7), 5 - missing);
                outside("MADE AGAIN, " + what, x.found(3), 0);
            }
            for (int n = 0; n < 8; n++) {
                int lost = n < 5 && missing <= repairs ? 100 : NONE;
                due("where(" + n + "), " + what, x.where(n), (gone >> n & 1) == 0 ? n : lost);
            }
        }
        // One READING behind another: what was MADE AGAIN ahead does not count.
        VolumeSets again = of(20, 3, 7, ENTRIES);
        again.write(-1);
        for (int[] gone : new int[][] {{4}, {0, 1}, {2}, {1, 2, 3}, {3, 4}, {0}}) {
            for (int n : gone) {
                again.lose(n);
            }
            inside("read(7), " + gone.length + " missing", again.read(7), 5);
            inside("MADE AGAIN", again.found(3), gone.length);
            gotten(gone.length + " missing", again, 0, STREAM);
            again.write(-1);
        }
        // A REPAIR that is there twice is one; one that is not OF IT is none.
        VolumeSets twice = read(FIVE[0], FIVE[1], FIVE[2], FIVE[5], FIVE[5], FIVE[5]);
        outside("2 missing, a REPAIR three times", twice.found(3), 0);
        int[][] not = {with(FIVE[6], 19, FIVE[6][19] ^ 1), told(FIVE[6], SET, 8), told(FIVE[6], MANY, 6),
            told(FIVE[6], REPAIRS, 2), sealed(Arrays.copyOf(FIVE[6], 21)), with(FIVE[6], 0, 0)};
        for (int[] row : not) {
            VolumeSets x = read(FIVE[0], FIVE[1], FIVE[2], FIVE[5], row);
            outside("2 missing, a REPAIR and one that is not OF IT", x.found(3), 0);
        }
        VolumeSets two = read(FIVE[0], FIVE[1], FIVE[2], FIVE[5], FIVE[6]);
        inside("2 missing, 2 REPAIRS", two.found(3), 2);
        // m is 1: by a REPAIR alone.
        for (int j = 0; j < 3; j++) {
            int[][] one = cut(20, 3, 7, row(2, 30));
            VolumeSets x = holding(one[1 + j]);
            inside("read(7), m is 1, REPAIR " + j, x.read(7), 1);
            inside("where(0)", x.where(0), 100);
            gotten("REPAIR " + j, x, 0, stream(row(2, 30)));
        }
    }

    private static void madeAgainOfMost() {
        int[][] entries = {row(60, 3), row(60, 100), row(60, 9), row(60, 77), row(60, 31), row(60, 1), row(60, 200),
            row(12, 40)};
        int[] stream = stream(entries);
        for (int[] gone : new int[][] {{54, 55, 56}, {0, 28, 56}, {0, 1, 2}}) {
            VolumeSets x = of(20, 3, 7, entries);
            x.write(-1);
            for (int n : gone) {
                x.lose(n);
            }
            inside("read(7), 3 of 57 missing", x.read(7), 57);
            for (int n : gone) {
                gotten("VOLUME " + n + " of 57", x, n * 8, Arrays.copyOfRange(stream, n * 8, n * 8 + 8));
            }
            inside("OPENED", x.found(5), 8);
            x.lose(30);
            outside("read(7), 4 of 57 missing", x.read(7), 53);
            outside("MADE AGAIN", x.found(3), 0);
        }
        // m is 60, with 3 REPAIRS: their numbers go up to 62. All VOLUMES but the last are without bytes.
        int[] number59 = eight(59, 60, 3, 8, 255, row(8, 70));
        int[][] rows = new int[60][];
        for (int n = 0; n < 59; n++) {
            rows[n] = eight(n, 60, 3, 0, 0);
        }
        rows[59] = number59;
        VolumeSets x = new VolumeSets();
        put(x, 0, repair(2, 7, 60, 3, rows));
        x.swap(0, 59);
        x.rule(2, 7);
        int[] first = cut(20, 0, 7)[0];
        for (int n = 0; n < 59; n++) {
            // Each is written as VOLUME 0 of 1: the BODY and the length are 0 as they shall be.
            x.write(-1);
            for (int i = 0; i < 12; i++) {
                if (first[i] != rows[n][i]) {
                    x.poke(n, i, first[i] ^ rows[n][i]);
                }
            }
        }
        inside("read(7), VOLUME 59 of 60 missing, REPAIR 62", x.read(7), 60);
        inside("where(59)", x.where(59), 100);
        inside("where(62)", x.where(62), 59);
        gotten("VOLUME 59", x, 59 * 8, row(8, 70));
    }

    private static void leastNumbers() {
        term(15, "by as many of these as are missing, those with the least numbers;");
        int[] zero = eight(0, 2, 3, 8, 0, row(8, 1));
        int[][] as = {eight(1, 2, 3, 8, 0, row(8, 20)), eight(1, 2, 3, 8, 0, row(8, 40)),
            eight(1, 2, 3, 8, 0, row(8, 60))};
        // Each REPAIR is MIXED of another VOLUME 1: it tells which one counted.
        int[][] repairs = new int[3][];
        for (int j = 0; j < 3; j++) {
            repairs[j] = repair(j, 7, 2, 3, zero, as[j]);
        }
        int[][][] there = {{repairs[0], repairs[1], repairs[2]}, {repairs[2], repairs[1], repairs[0]},
            {repairs[1], repairs[2]}, {repairs[2], repairs[1]}, {repairs[0], repairs[2]}, {repairs[2], repairs[0]},
            {repairs[2]}};
        int[] counts = {0, 0, 1, 1, 0, 0, 2};
        for (int k = 0; k < there.length; k++) {
            int[][] rows = new int[there[k].length + 1][];
            rows[0] = zero;
            System.arraycopy(there[k], 0, rows, 1, there[k].length);
            VolumeSets x = read(rows);
            due("MADE AGAIN", x.found(3), 1);
            gotten("by REPAIR " + counts[k] + " of those there (" + k + ")", x, 8, row(8, 20 + 20 * counts[k]));
        }
        // Two are missing: two count, the third not.
        int[][] three = {zero, as[0], eight(2, 3, 3, 8, 0, row(8, 90))};
        int[][] right = {told(zero, MANY, 3), told(as[0], MANY, 3), three[2]};
        int[][] others = {told(zero, MANY, 3), told(as[1], MANY, 3), three[2]};
        for (int[] gone : new int[][] {{0, 1}, {0, 2}, {1, 2}}) {
            int stays = 3 - gone[0] - gone[1];
            VolumeSets x = read(right[stays], repair(2, 7, 3, 3, others), repair(1, 7, 3, 3, right),
                repair(0, 7, 3, 3, right));
            due("MADE AGAIN", x.found(3), 2);
            gotten("by REPAIRS 0 and 1", x, 0, join(row(8, 1), row(8, 20), row(8, 90)));
            VolumeSets y = read(right[stays], repair(2, 7, 3, 3, right), repair(0, 7, 3, 3, right));
            gotten("by REPAIRS 0 and 2", y, 0, join(row(8, 1), row(8, 20), row(8, 90)));
            VolumeSets z = read(right[stays], repair(2, 7, 3, 3, right), repair(1, 7, 3, 3, right));
            gotten("by REPAIRS 1 and 2", z, 0, join(row(8, 1), row(8, 20), row(8, 90)));
        }
    }

    private static void soMixed() {
        term(15, "its length, START and BODY are those by which they are so MIXED.");
        // VOLUME 0 has no KNOWN byte: OPENING goes on to the START of VOLUME 1, which is MADE AGAIN.
        int[] zero = eight(0, 2, 3, 0, 77, row(8, 200));
        int[] body = {0, 5, 21, 0, 5, 21, 1, 99};
        for (int j = 0; j < 3; j++) {
            for (int length : new int[] {0, 1, 3, 7, 8, 9, 255}) {
                for (int start : new int[] {0, 2, 3, 6, 7, 255}) {
                    int[] one = eight(1, 2, 3, length, start, body);
                    VolumeSets x = read(zero, repair(j, 7, 2, 3, zero, one));
                    String what = "by REPAIR " + j + ", length " + length + ", START " + start;
                    due(what + ": MADE AGAIN", x.found(3), 1);
                    for (int i = 0; i < 8; i++) {
                        due(what + ": got(" + (8 + i) + ")", x.got(8 + i), i < length ? body[i] : NONE);
                    }
                    boolean begins = start < length && start < 8;
                    due(what + ": the first that is told", x.opened(0, 0), begins ? 8 + start : BAD);
                }
            }
        }
    }

    private static void known() {
        term(18, "KNOWN are the bytes of THE STREAM that lie in PIECES OF IT, or MADE AGAIN");
        int[][] rows = {eight(0, 3, 1, 8, 0, row(8, 1)), eight(1, 3, 1, 8, 0, row(8, 11)),
            eight(2, 3, 1, 8, 0, row(8, 21))};
        VolumeSets all = read(rows);
        inside("got(7), OF IT", all.got(7), 8);
        inside("got(8), OF IT", all.got(8), 11);
        inside("got(15), OF IT", all.got(15), 18);
        inside("got(16), OF IT", all.got(16), 21);
        VolumeSets made = read(rows[0], rows[2], repair(0, 7, 3, 1, rows));
        inside("got(7), OF IT", made.got(7), 8);
        inside("got(8), MADE AGAIN", made.got(8), 11);
        inside("got(15), MADE AGAIN", made.got(15), 18);
        inside("got(16), OF IT", made.got(16), 21);
        int[][] not = {with(rows[1], 19, 99), told(rows[1], SET, 8), told(rows[1], MANY, 4), told(rows[1], 0, 85)};
        for (int[] other : not) {
            VolumeSets x = read(rows[0], rows[2], other);
            inside("got(7), OF IT", x.got(7), 8);
            outside("got(8), not OF IT", x.got(8), NONE);
            outside("got(15), not OF IT", x.got(15), NONE);
            inside("got(16), OF IT", x.got(16), 21);
        }
        // A REPAIR has no bytes of THE STREAM.
        VolumeSets repair = read(repair(0, 7, 3, 1, rows));
        gotten("a REPAIR alone", repair, 0, all(NONE, 24));
        outside("got(24)", repair.got(24), BAD);
    }

    private static void knownLengths() {
        term(18, "(n (s - 12) and on, as many as the length tells, at most s - 12).");
        for (int s : new int[] {20, 21, 80}) {
            int wide = s - 12;
            for (int length : new int[] {0, 1, wide - 1, wide, wide + 1, 128, 255}) {
                for (int n = 0; n < 3; n++) {
                    int[] row = volume(7, n, 3, 0, length, 255, row(wide, 100));
                    VolumeSets x = read(row);
                    String what = "VOLUME " + n + " of 3, SIZE " + s + ", length " + length;
                    int at = n * wide;
                    int many = Math.min(length, wide);
                    outside(what + ": ahead of it", x.got(at - 1), n == 0 ? BAD : NONE);
                    if (many > 0) {
                        inside(what + ": its first", x.got(at), 100);
                        inside(what + ": its last", x.got(at + many - 1), 100 + many - 1);
                    }
                    int behind = n == 2 && many == wide ? BAD : NONE;
                    outside(what + ": behind it", x.got(at + many), behind);
                }
            }
        }
        // Two side by side: what is told above s - 12 takes nothing from the next.
        VolumeSets x = read(eight(0, 2, 0, 9, 0, row(8, 1)), eight(1, 2, 0, 2, 0, row(8, 50)));
        gotten("a length of 9", x, 0, join(row(8, 1), row(2, 50), all(NONE, 6)));
        VolumeSets y = read(eight(1, 2, 0, 2, 0, row(8, 50)), eight(0, 2, 0, 255, 0, row(8, 1)));
        gotten("a length of 255", y, 0, join(row(8, 1), row(2, 50), all(NONE, 6)));
    }

    // ---- terms of OPENING

    private static void openingFromZero() {
        term(19, "OPENING goes from place 0 on.");
        int[] two = join(inStream(), inStream(9));
        // What VOLUME 0 tells as its START does not count, if place 0 is KNOWN.
        for (int start : new int[] {0, 3, 6, 255}) {
            told("START " + start, read(eight(0, 1, 0, 7, start, two)), new int[] {0, 0, 1}, new int[] {3, 1, 1});
        }
        told("place 0 alone is KNOWN", read(eight(0, 1, 0, 1, 255, two)), new int[] {0, 0, 0});
        told("place 0 is not KNOWN", read(eight(0, 1, 0, 0, 0, two)));
    }

    private static final int[] NOTHING = inStream();

    private static void onToAStart() {
        term(19, "At a place: if its byte is not KNOWN: on to the first ENTRY that begins (START) in the next VOLUME, "
            + "behind the one in which the place lies, that is KNOWN and has one (a START below its length);");
        int[] body = join(all(200, 2), NOTHING, NOTHING);
        int[] last = eight(3, 4, 0, 5, 2, body);
        // VOLUME 0 is missing: the next that is KNOWN and has one is 1, 2 or 3.
        told("VOLUME 1 has one", read(eight(1, 4, 0, 5, 2, body), eight(2, 4, 0, 5, 2, body), last),
            new int[] {10, 0, 1}, new int[] {18, 0, 1}, new int[] {26, 0, 1});
        told("VOLUME 1 has none", read(eight(1, 4, 0, 5, 255, body), eight(2, 4, 0, 5, 2, body), last),
            new int[] {18, 0, 1}, new int[] {26, 0, 1});
        told("VOLUME 1 is missing", read(eight(2, 4, 0, 5, 2, body), last), new int[] {18, 0, 1},
            new int[] {26, 0, 1});
        told("VOLUMES 1 and 2 are missing", read(last), new int[] {26, 0, 1});
        int[] spoilt = with(eight(1, 4, 0, 5, 2, body), 19, 1);
        told("VOLUME 1 is SPOILT", read(spoilt, last), new int[] {26, 0, 1});
        told("VOLUME 1 is of another SET", read(told(eight(1, 4, 0, 5, 2, body), SET, 8), last), new int[] {26, 0, 1});
    }

    private static void startsBelowLengths() {
        int[] body = join(NOTHING, NOTHING, NOTHING);
        // VOLUME 2 begins with what is of an ENTRY ahead: the next one begins at 19.
        int[] two = eight(2, 3, 0, 6, 3, body);
        // length, START of VOLUME 1, and the first place that is told
        int[][] rows = {{8, 7, 15}, {8, 8, 19}, {7, 7, 19}, {7, 6, 14}, {1, 0, 8}, {1, 1, 19}, {0, 0, 19}, {3, 0, 8},
            {3, 3, 19}, {3, 2, 10}, {8, 9, 19}, {8, 254, 19}, {8, 255, 19}, {255, 255, 19}, {8, 0, 8}};
        for (int[] of : rows) {
            VolumeSets x = read(eight(1, 3, 0, of[0], of[1], body), two);
            String what = "a START of " + of[1] + " and a length of " + of[0];
            if (of[1] < of[0]) {
                inside(what, x.opened(0, 0), of[2]);
            } else {
                outside(what, x.opened(0, 0), of[2]);
            }
        }
    }

    private static void behindThePlace() {
        int[] body = join(new int[] {1}, NOTHING, NOTHING);
        int[] two = eight(2, 4, 0, 7, 1, body);
        int[] three = eight(3, 4, 0, 7, 4, body);
        // The ENTRY at 0 leads to a place: in VOLUME 1, of which two bytes are KNOWN, or in VOLUME 2.
        int[][] rows = {{4, 7}, {5, 8}, {6, 9}, {7, 10}, {12, 15}, {13, 16}, {14, 17}};
        for (int[] of : rows) {
            int length = of[0];
            int[] zero = eight(0, 4, 0, 7, 0, length, 0, 0);
            VolumeSets x = read(zero, eight(1, 4, 0, 2, 1, body), two, three);
            String what = "place " + of[1];
            due(what + ": the first", x.opened(0, 1), length);
            // 7: on to VOLUME 1. 8 and 9 are KNOWN. 10 to 15: behind VOLUME 1. 16 and 17 are KNOWN.
            int want = of[1] == 7 ? 9 : of[1] >= 10 && of[1] <= 15 ? 17 : of[1];
            due(what + ": the second", x.opened(1, 0), want);
        }
        // The place lies in a VOLUME that is missing: the next one is behind it.
        VolumeSets x = read(eight(0, 4, 0, 8, 0, 5, 0, 0), two, three);
        due("place 8, VOLUME 1 is missing", x.opened(1, 0), 17);
        VolumeSets y = read(eight(0, 4, 0, 8, 0, 13, 0, 0), eight(1, 4, 0, 8, 1, body), three);
        due("place 16, VOLUME 2 is missing", y.opened(1, 0), 28);
    }

    private static void noStartBehind() {
        term(19, "if there is none, it ends.");
        int[] body = join(NOTHING, NOTHING);
        told("none has one", read(eight(1, 3, 0, 6, 255, body), eight(2, 3, 0, 6, 255, body)));
        told("the last VOLUME is not KNOWN", read(eight(1, 3, 0, 6, 255, body)));
        told("the place behind lies in the last VOLUME, whose START is not behind it",
            read(eight(0, 1, 0, 6, 0, body)), new int[] {0, 0, 1}, new int[] {3, 0, 1});
        // The place behind is the last one, or just behind all of them, or far behind.
        told("place 7 of 8", read(eight(0, 1, 0, 8, 0, 4, 0, 0)), new int[] {0, 4, 0}, new int[] {7, 0, 0});
        told("place 8 of 8", read(eight(0, 1, 0, 8, 0, 5, 0, 0)), new int[] {0, 5, 0});
        told("place 258 of 8", read(eight(0, 1, 0, 8, 0, 255, 0, 0)), new int[] {0, 255, 0});
        told("no ENTRY", read(cut(20, 0, 7)[0]));
        VolumeSets x = holding(eight(0, 1, 0, 6, 0, body), cut(20, 0, 8)[0]);
        x.read(7);
        told("two, READ ahead", x, new int[] {0, 0, 1}, new int[] {3, 0, 1});
        x.read(8);
        told("no ENTRY, two READ ahead", x);
        due("no ENTRY, two READ ahead: opened(0, 0)", x.opened(0, 0), BAD);
        int[] far = volume(7, 59, 60, 0, 68, 67, all(255, 68));
        told("place 4079 of 4080", read(far), new int[] {4079, 255, 0});
    }

    private static void lengthsTold() {
        term(19, "Else there is an ENTRY there with that length;");
        for (int length : new int[] {0, 1, 60, 61, 128, 255}) {
            VolumeSets x = read(eight(0, 1, 0, 1, 255, length));
            due("how many are told", x.found(4), 1);
            due("opened(0, 0)", x.opened(0, 0), 0);
            due("opened(0, 1)", x.opened(0, 1), length);
        }
    }

    private static VolumeSets readEighty(int length, int... body) {
        return read(volume(7, 0, 1, 0, length, 0, Arrays.copyOf(body, 68)));
    }

    private static void sixtyBytes() {
        term(19, "it is OPENED, if it has at most 60 bytes,");
        inside("0 bytes", readEighty(3, inStream()).opened(0, 2), 1);
        inside("59 bytes", readEighty(62, inStream(row(59, 1))).opened(0, 2), 1);
        inside("60 bytes", readEighty(63, inStream(row(60, 1))).opened(0, 2), 1);
        for (int length = 61; length <= 65; length++) {
            VolumeSets x = readEighty(length + 3, inStream(row(length, 1)));
            outside(length + " bytes, all KNOWN, with their SUM", x.opened(0, 2), 0);
            outside(length + " bytes: opened(0, 1)", x.opened(0, 1), length);
        }
        // 255 bytes, all KNOWN, over four VOLUMES.
        int[] stream = Arrays.copyOf(inStream(row(255, 1)), 4 * 68);
        int[][] rows = new int[4][];
        for (int n = 0; n < 4; n++) {
            rows[n] = volume(7, n, 4, 0, 68, 255, Arrays.copyOfRange(stream, n * 68, n * 68 + 68));
        }
        outside("255 bytes, all KNOWN, with their SUM", read(rows).opened(0, 2), 0);
    }

    private static void allKnown() {
        term(19, "the two bytes behind, and all of its own are KNOWN,");
        int[] four = inStream(row(4, 1));
        for (int length = 1; length <= 8; length++) {
            VolumeSets x = read(eight(0, 1, 0, length, 0, four));
            if (length >= 7) {
                inside("4 bytes, " + length + " are KNOWN", x.opened(0, 2), 1);
            } else {
                outside("4 bytes, " + length + " are KNOWN", x.opened(0, 2), 0);
            }
        }
        for (int length = 1; length <= 3; length++) {
            VolumeSets x = read(eight(0, 1, 0, length, 0, NOTHING));
            if (length == 3) {
                inside("no bytes, all of the SUM is KNOWN", x.opened(0, 2), 1);
            } else {
                outside("no bytes, " + length + " are KNOWN", x.opened(0, 2), 0);
            }
        }
        // A SUM that would be right with 0s in place of what is gone.
        int[] zeros = inStream(new int[20]);
        int[][] rows = new int[3][];
        for (int n = 0; n < 3; n++) {
            int length = Math.min(8, 23 - n * 8);
            rows[n] = eight(n, 3, 0, length, n == 0 ? 0 : 255, Arrays.copyOfRange(zeros, n * 8, n * 8 + length));
        }
        inside("20 bytes over three VOLUMES", read(rows).opened(0, 2), 1);
        outside("the one between is missing", read(rows[0], rows[2]).opened(0, 2), 0);
        outside("the last one is missing", read(rows[0], rows[1]).opened(0, 2), 0);
        int[] shorter = told(rows[1], LENGTH, 7);
        outside("a byte of the one between is not KNOWN", read(rows[0], shorter, rows[2]).opened(0, 2), 0);
        int[] lastShorter = told(rows[2], LENGTH, 6);
        outside("the last byte is not KNOWN", read(rows[0], rows[1], lastShorter).opened(0, 2), 0);
        // The SUM lies over two VOLUMES: the lower byte at 7, the higher one at 8.
        int[] ahead = inStream(row(3, 1));
        int[] both = join(ahead, new int[] {0, 5, 21});
        int[] first = eight(0, 2, 0, 8, 0, Arrays.copyOf(both, 8));
        int[] second = eight(1, 2, 0, 1, 255, 21);
        told("the SUM is KNOWN", read(first, second), new int[] {0, 3, 1}, new int[] {6, 0, 1});
        told("its higher byte is not", read(first), new int[] {0, 3, 1}, new int[] {6, 0, 0});
        told("its lower byte is not", read(told(first, LENGTH, 7), second), new int[] {0, 3, 1}, new int[] {6, 0, 0});
    }

    private static void thatSum() {
        term(19, "and have that SUM;");
        int[] right = inStream(row(5, 250));
        inside("that SUM", read(eight(0, 1, 0, 8, 0, right)).opened(0, 2), 1);
        for (int i = 1; i < 8; i++) {
            for (int mask : new int[] {1, 128}) {
                int[] other = with(right, i, right[i] ^ mask);
                outside("byte " + i + " is another by " + mask, read(eight(0, 1, 0, 8, 0, other)).opened(0, 2), 0);
            }
        }
        outside("the higher byte first", read(eight(0, 1, 0, 3, 0, 0, 21, 5)).opened(0, 2), 0);
        inside("the SUM of no bytes", read(eight(0, 1, 0, 3, 0, 0, 5, 21)).opened(0, 2), 1);
        outside("the SUM of no bytes is not 0", read(eight(0, 1, 0, 3, 0, 0, 0, 0)).opened(0, 2), 0);
        // What is behind an ENTRY is not of its SUM.
        inside("bytes behind", read(eight(0, 1, 0, 8, 0, join(inStream(7), row(4, 9)))).opened(0, 2), 1);
    }

    private static void placeBehind() {
        term(19, "else it is LOST; on to the place behind it (its length and 3).");
        for (int length : new int[] {0, 1, 13, 60, 61, 64}) {
            // LOST, as the SUM is 0 (or the length above 60); then one without bytes.
            int[] body = new int[80];
            body[0] = length;
            body[length + 3] = 0;
            body[length + 4] = 5;
            body[length + 5] = 21;
            int known = Math.min(68, length + 6);
            VolumeSets x = readEighty(known, body);
            int whole = length + 6 <= 68 ? 1 : 0;
            told("LOST, of " + length, x, new int[] {0, length, 0}, new int[] {length + 3, 0, whole});
        }
        for (int length : new int[] {0, 1, 13, 60}) {
            VolumeSets x = readEighty(length + 6, join(inStream(row(length, 3)), NOTHING));
            told("OPENED, of " + length, x, new int[] {0, length, 1}, new int[] {length + 3, 0, 1});
        }
        // 255: on to 258, in VOLUME 3 of SIZE 80; VOLUMES 1 and 2 are missing.
        int[] zero = volume(7, 0, 4, 0, 68, 0, Arrays.copyOf(new int[] {255, 1, 2}, 68));
        int[] body = new int[68];
        System.arraycopy(NOTHING, 0, body, 258 - 204, 3);
        int[] three = volume(7, 3, 4, 0, 57, 255, body);
        told("LOST, of 255", read(zero, three), new int[] {0, 255, 0}, new int[] {258, 0, 1});
    }

    private static void forty() {
        term(19, "40 are told at most, then it ends.");
        // ENTRIES without bytes: 3 bytes each, 20 in a VOLUME of SIZE 72.
        int[] twenty = new int[60];
        for (int i = 0; i < 60; i++) {
            twenty[i] = NOTHING[i % 3];
        }
        int[][] rows = {{57, 39}, {58, 40}, {60, 40}, {63, 40}};
        for (int[] of : rows) {
            int[] first = volume(7, 0, 3, 0, 60, 0, twenty);
            int[] second = volume(7, 1, 3, 0, Math.min(60, of[0]), 0, twenty);
            int[] third = volume(7, 2, 3, 0, of[0] - Math.min(60, of[0]), 255, twenty);
            VolumeSets x = read(first, second, third);
            String what = 60 + of[0] + " bytes are KNOWN";
            boolean partly = of[0] == 58;
            due(what + ": how many are told", x.found(4), of[1]);
            due(what + ": OPENED", x.found(5), partly ? 39 : of[1]);
            inside(what + ": opened(38, 0)", x.opened(38, 0), 114);
            inside(what + ": opened(39, 0)", x.opened(39, 0), of[1] == 40 ? 117 : BAD);
            inside(what + ": opened(39, 2)", x.opened(39, 2), of[1] == 39 ? BAD : partly ? 0 : 1);
            outside(what + ": opened(40, 0)", x.opened(40, 0), BAD);
        }
        // LOST ones count too.
        VolumeSets x = read(volume(7, 0, 2, 0, 68, 0, new int[68]), volume(7, 1, 2, 0, 68, 0, new int[68]));
        outside("all are LOST: how many are told", x.found(4), 40);
        outside("all are LOST: OPENED", x.found(5), 0);
        inside("opened(39, 0)", x.opened(39, 0), 117);
        outside("opened(40, 0)", x.opened(40, 0), BAD);
        // And those of the next READING begin at 0 again.
        x.lose(1);
        x.read(7);
        inside("68 bytes: how many are told", x.found(4), 23);
        inside("opened(22, 0)", x.opened(22, 0), 66);
        outside("opened(23, 0), told ahead of it", x.opened(23, 0), BAD);
    }

    // ---- promises

    private static void read() {
        promise(15, "READING of a SET: how many of VOLUMES 0 .. m - 1 are OF IT or MADE AGAIN.");
        due("all", holding(FIVE[0], FIVE[1], FIVE[2], FIVE[3], FIVE[4]).read(7), 5);
        due("all, with REPAIRS", holding(FIVE).read(7), 5);
        due("one", holding(FIVE[4]).read(7), 1);
        due("REPAIRS alone, too few", holding(FIVE[5], FIVE[6], FIVE[7]).read(7), 0);
        due("two, and three that are MADE AGAIN", holding(without(FIVE, 0, 2, 4)).read(7), 5);
        due("one, and too few REPAIRS", holding(without(FIVE, 0, 1, 2, 4)).read(7), 1);
        due("one twice", holding(FIVE[1], FIVE[1]).read(7), 1);
        due("no ENTRY", holding(cut(20, 0, 7)[0]).read(7), 1);
        // SLOTS stay as they are.
        State state = new State(() -> {
            VolumeSets x = RICH.made.get();
            x.lose(0);
            x.read(7);
            return x;
        });
        stays("read(7), READ again", state, x -> x.read(7), 4);
        leaves("read(8)", RICH, x -> x.read(8), NONE, Part.STREAM, Part.TAPE, Part.SLOTS);
        leaves("read(7)", NOT_READ, x -> x.read(7), 2, Part.STREAM, Part.TAPE, Part.SLOTS);
    }

    private static void readBad() {
        promise(15, "BAD: not 0 .. 255.");
        VolumeSets x = holding(told(FIVE[0], SET, 0), told(FIVE[0], SET, 255));
        inside("read(0)", x.read(0), 1);
        inside("where(0)", x.where(0), 0);
        inside("read(255)", x.read(255), 1);
        inside("where(0)", x.where(0), 1);
        stays("read(-1)", RICH, y -> y.read(-1), BAD);
        stays("read(256)", RICH, y -> y.read(256), BAD);
        stays("read(263)", RICH, y -> y.read(263), BAD);
        for (int far : FAR) {
            stays("read(" + far + ")", RICH, y -> y.read(far), BAD);
        }
        stays("read(256), nothing READ", NOT_READ, y -> y.read(256), BAD);
        outside("read(-1), no SLOT has bytes", new VolumeSets().read(-1), BAD);
        outside("read(256), no SLOT has bytes", new VolumeSets().read(256), BAD);
    }

    private static final State NOT_READ = new State(() -> {
        VolumeSets x = of(24, 2, 7, row(20, 1));
        x.write(-1);
        return x;
    });

    private static void readNone() {
        promise(15, "NONE: no SLOT is GOOD with this SET (nothing is READ then).");
        outside("read(0), no SLOT has bytes", new VolumeSets().read(0), NONE);
        outside("read(255), no SLOT has bytes", new VolumeSets().read(255), NONE);
        inside("read(7), a GOOD one", holding(FIVE[0]).read(7), 1);
        outside("read(7), a SPOILT one", holding(with(FIVE[0], 19, 99)).read(7), NONE);
        outside("read(7), one without a HEAD", holding(with(FIVE[0], 0, 99)).read(7), NONE);
        outside("read(6)", holding(FIVE[0]).read(6), NONE);
        outside("read(8)", holding(FIVE[0]).read(8), NONE);
        outside("read(7), all 0s", holding(new int[20]).read(7), NONE);
        VolumeSets x = RICH.made.get();
        inside("found(5), READ", x.found(5), 3);
        outside("read(8)", x.read(8), NONE);
        for (int what = 0; what <= 5; what++) {
            outside("found(" + what + ") then", x.found(what), NONE);
        }
        outside("where(0) then", x.where(0), BAD);
        outside("where(1) then", x.where(1), BAD);
        outside("got(0) then", x.got(0), BAD);
        outside("opened(0, 0) then", x.opened(0, 0), BAD);
        outside("opened(0, 2) then", x.opened(0, 2), BAD);
        inside("SLOTS stay", x.count(3), 7);
        inside("read(7), READ again", x.read(7), 4);
        inside("found(5), READ again", x.found(5), 3);
        stays("read(8), nothing READ", NOT_READ, y -> y.read(8), NONE);
    }

    private static void found() {
        promise(16, "Of what was READ: 0 m, 1 r, 2 bytes of a VOLUME, 3 how many were MADE AGAIN, 4 how many ENTRIES "
            + "are told, 5 of these OPENED.");
        int[][] all = without(FIVE, 1, 3);
        foundIs("two MADE AGAIN", read(all), 5, 3, 20, 2, 4, 4);
        foundIs("none MADE AGAIN", read(FIVE), 5, 3, 20, 0, 4, 4);
        // 0 to 7 and 16 to 31: the first ENTRY (of 9) is LOST; the others begin at 12, 15, 32.
        foundIs("without 1 and REPAIRS", read(FIVE[0], FIVE[2], FIVE[3], FIVE[4]), 5, 3, 20, 0, 2, 1);
        foundIs("no ENTRY, the least", read(cut(20, 0, 7)[0]), 1, 0, 20, 0, 0, 0);
        foundIs("the most", read(volume(7, 62, 60, 3, 0, 255, new int[68])), 60, 3, 80, 0, 0, 0);
        // What was READ stays as it was, whatever the SLOTS and the rules are then.
        VolumeSets x = read(all);
        x.lose(0);
        x.swap(1, 9);
        x.poke(2, 0, 1);
        x.rule(0, 80);
        x.rule(1, 1);
        x.entry();
        foundIs("behind other calls", x, 5, 3, 20, 2, 4, 4);
        for (int what = 0; what <= 5; what++) {
            int of = what;
            int[] want = {4, 2, 24, 1, 3, 3};
            stays("found(" + what + ")", RICH, y -> y.found(of), want[what]);
        }
    }

    private static void foundIs(String what, VolumeSets x, int... want) {
        for (int of = 0; of <= 5; of++) {
            due(what + ": found(" + of + ")", x.found(of), want[of]);
        }
    }

    private static void foundBad() {
        promise(16, "BAD: another number.");
        inside("found(0)", RICH.made.get().found(0), 4);
        inside("found(5)", RICH.made.get().found(5), 3);
        stays("found(-1)", RICH, x -> x.found(-1), BAD);
        stays("found(6)", RICH, x -> x.found(6), BAD);
        // BAD stands ahead of NONE.
        stays("found(-1), nothing is READ", NOT_READ, x -> x.found(-1), BAD);
        stays("found(6), nothing is READ", NOT_READ, x -> x.found(6), BAD);
        for (int far : FAR) {
            stays("found(" + far + ")", RICH, x -> x.found(far), BAD);
            due("found(" + far + "), nothing is READ", new VolumeSets().found(far), BAD);
        }
    }

    private static void foundNone() {
        promise(16, "NONE: nothing is READ.");
        for (int what = 0; what <= 5; what++) {
            int of = what;
            inside("found(" + what + "), READ", RICH.made.get().found(what) >= 0 ? 1 : 0, 1);
            outside("found(" + what + "), a new object", new VolumeSets().found(what), NONE);
            stays("found(" + what + "), never READ", NOT_READ, x -> x.found(of), NONE);
            VolumeSets x = RICH.made.get();
            x.read(9);
            outside("found(" + what + "), behind a read that answered NONE", x.found(what), NONE);
        }
    }

    private static void where() {
        promise(17, "The SLOT of VOLUME n (0 .. m + r - 1); 100: MADE AGAIN.");
        VolumeSets x = holding(without(FIVE, 0, 4));
        // SLOTS 0, 1, 2 have VOLUMES 1, 2, 3; SLOTS 3, 4, 5 the REPAIRS.
        x.swap(0, 59);
        x.swap(3, 0);
        x.read(7);
        int[] want = {100, 59, 1, 2, 100, 0, 4, 5};
        for (int n = 0; n < 8; n++) {
            inside("where(" + n + ")", x.where(n), want[n]);
        }
        outside("where(-1)", x.where(-1), BAD);
        outside("where(8)", x.where(8), BAD);
        VolumeSets most = read(volume(7, 62, 60, 3, 0, 255, new int[8]));
        inside("where(62), of 60 and 3", most.where(62), 0);
        inside("where(61), of 60 and 3", most.where(61), NONE);
        outside("where(63), of 60 and 3", most.where(63), BAD);
        VolumeSets least = read(cut(20, 0, 7)[0]);
        inside("where(0), of 1 and 0", least.where(0), 0);
        outside("where(1), of 1 and 0", least.where(1), BAD);
        // It stays, whatever becomes of the SLOTS.
        x.lose(59);
        x.swap(1, 30);
        due("where(1), the SLOT is empty now", x.where(1), 59);
        due("where(2), the SLOT is another now", x.where(2), 1);
        int[] rich = {0, 100, 59, 3, 4, 5};
        for (int n = 0; n < 6; n++) {
            int of = n;
            stays("where(" + n + ")", RICH, y -> y.where(of), rich[n]);
        }
    }

    private static void whereBad() {
        promise(17, "BAD: none such, nothing READ.");
        inside("where(0)", RICH.made.get().where(0), 0);
        inside("where(5)", RICH.made.get().where(5), 5);
        stays("where(-1)", RICH, x -> x.where(-1), BAD);
        stays("where(6)", RICH, x -> x.where(6), BAD);
        stays("where(100)", RICH, x -> x.where(100), BAD);
        for (int far : FAR) {
            stays("where(" + far + ")", RICH, x -> x.where(far), BAD);
        }
        for (int n : new int[] {-1, 0, 1, 62}) {
            outside("where(" + n + "), a new object", new VolumeSets().where(n), BAD);
            stays("where(" + n + "), nothing READ", NOT_READ, x -> x.where(n), BAD);
            VolumeSets x = RICH.made.get();
            x.read(9);
            outside("where(" + n + "), behind a read that answered NONE", x.where(n), BAD);
        }
    }

    private static void whereNone() {
        promise(17, "NONE: it is missing.");
        VolumeSets x = read(FIVE[0], FIVE[4], FIVE[5], FIVE[7]);
        // Three are missing, and there are two REPAIRS.
        int[] want = {0, NONE, NONE, NONE, 1, 2, NONE, 3};
        for (int n = 0; n < 8; n++) {
            due("where(" + n + "), too few REPAIRS", x.where(n), want[n]);
        }
        VolumeSets y = read(FIVE[0], FIVE[2], FIVE[4], FIVE[5], FIVE[7]);
        int[] made = {0, 100, 1, 100, 2, 3, NONE, 4};
        for (int n = 0; n < 8; n++) {
            due("where(" + n + "), enough REPAIRS: only a REPAIR is missing", y.where(n), made[n]);
        }
        VolumeSets z = read(with(FIVE[1], 19, 99), FIVE[0], told(FIVE[2], SET, 8), with(FIVE[3], 0, 0));
        int[] not = {1, NONE, NONE, NONE, NONE};
        for (int n = 0; n < 5; n++) {
            due("where(" + n + "), SPOILT, of another SET, no HEAD", z.where(n), not[n]);
        }
    }

    private static void got() {
        promise(18, "Byte i of THE STREAM.");
        VolumeSets x = read(FIVE);
        gotten("all", x, 0, STREAM);
        x.poke(0, 12, 255);
        x.lose(4);
        x.clear();
        x.rule(0, 50);
        gotten("it stays, whatever becomes of the SLOTS", x, 0, STREAM);
        int[] most = volume(7, 59, 60, 0, 68, 255, row(68, 100));
        VolumeSets y = read(most);
        due("got(4012), the first of VOLUME 59", y.got(4012), 100);
        due("got(4079), the last of the most", y.got(4079), 167);
        stays("got(0)", RICH, z -> z.got(0), 20);
        stays("got(43)", RICH, z -> z.got(43), 104);
    }

    private static void gotBad() {
        promise(18, "BAD: i is not 0 .. m (s - 12) - 1, nothing READ.");
        // m, s
        int[][] rows = {{1, 20}, {1, 80}, {2, 21}, {60, 20}, {60, 80}};
        for (int[] of : rows) {
            int room = of[0] * (of[1] - 12);
            for (int n : new int[] {0, of[0] - 1}) {
                VolumeSets x = read(volume(7, n, of[0], 0, 255, 255, row(of[1] - 12, 1)));
                String what = ", VOLUME " + n + " of " + of[0] + " of " + of[1] + " bytes";
                inside("got(0)" + what, x.got(0), n == 0 ? 1 : NONE);
                inside("got(" + (room - 1) + ")" + what, x.got(room - 1), n == of[0] - 1 ? of[1] - 12 : NONE);
                outside("got(-1)" + what, x.got(-1), BAD);
                outside("got(" + room + ")" + what, x.got(room), BAD);
            }
        }
        // Not the end of THE STREAM, but of the PIECES.
        VolumeSets y = read(cut(20, 0, 7)[0]);
        inside("got(7), no ENTRY", y.got(7), NONE);
        outside("got(8), no ENTRY", y.got(8), BAD);
        VolumeSets repairs = read(FIVE[5]);
        inside("got(39), of 5 and 3", repairs.got(39), NONE);
        outside("got(40), of 5 and 3", repairs.got(40), BAD);
        stays("got(-1)", RICH, x -> x.got(-1), BAD);
        stays("got(48)", RICH, x -> x.got(48), BAD);
        for (int far : FAR) {
            stays("got(" + far + ")", RICH, x -> x.got(far), BAD);
            due("got(" + far + "), nothing READ", new VolumeSets().got(far), BAD);
        }
        outside("got(0), a new object", new VolumeSets().got(0), BAD);
        stays("got(0), nothing READ", NOT_READ, x -> x.got(0), BAD);
        VolumeSets x = RICH.made.get();
        x.read(9);
        outside("got(0), behind a read that answered NONE", x.got(0), BAD);
    }

    private static void gotNone() {
        promise(18, "NONE: not KNOWN.");
        VolumeSets x = read(FIVE[0], FIVE[2], FIVE[4]);
        // 36 bytes: the last PIECE has 4.
        int[] want = Arrays.copyOf(STREAM, 40);
        Arrays.fill(want, 8, 16, NONE);
        Arrays.fill(want, 24, 32, NONE);
        Arrays.fill(want, 36, 40, NONE);
        gotten("without 1 and 3", x, 0, want);
        VolumeSets y = read(FIVE);
        inside("got(35), the last", y.got(35), STREAM[35]);
        outside("got(36), behind the last", y.got(36), NONE);
        VolumeSets z = read(cut(20, 0, 7)[0]);
        outside("got(0), no ENTRY", z.got(0), NONE);
        // A READING does not know what another one knew.
        y.lose(0);
        y.lose(5);
        y.lose(6);
        y.lose(7);
        y.read(7);
        outside("got(0), lost", y.got(0), NONE);
        outside("got(7), lost", y.got(7), NONE);
        inside("got(8)", y.got(8), STREAM[8]);
    }

    private static void opened() {
        promise(19, "Of ENTRY k that is told: 0 its place, 1 its length, 2 whether it is OPENED (1, 0).");
        VolumeSets x = read(FIVE);
        told("all", x, new int[] {0, 9, 1}, new int[] {12, 0, 1}, new int[] {15, 14, 1}, new int[] {32, 1, 1});
        VolumeSets y = read(FIVE[0], FIVE[2], FIVE[3], FIVE[4]);
        told("without 1", y, new int[] {0, 9, 0}, new int[] {32, 1, 1});
        VolumeSets z = read(FIVE[1], FIVE[2], FIVE[4]);
        told("without 0 and 3", z, new int[] {12, 0, 1}, new int[] {15, 14, 0}, new int[] {32, 1, 1});
        x.lose(0);
        x.poke(1, 12, 1);
        x.clear();
        told("it stays", x, new int[] {0, 9, 1}, new int[] {12, 0, 1}, new int[] {15, 14, 1}, new int[] {32, 1, 1});
        stays("opened(1, 0)", RICH, w -> w.opened(1, 0), 23);
        stays("opened(2, 1)", RICH, w -> w.opened(2, 1), 15);
        stays("opened(2, 2)", RICH, w -> w.opened(2, 2), 1);
    }

    private static void openedBad() {
        promise(19, "BAD: none such.");
        inside("opened(0, 0)", RICH.made.get().opened(0, 0), 0);
        inside("opened(2, 2)", RICH.made.get().opened(2, 2), 1);
        int[][] bad = {{-1, 0}, {3, 0}, {3, 1}, {3, 2}, {39, 0}, {40, 0}, {41, 0}, {0, -1}, {0, 3}, {2, 3}, {3, 3}};
        for (int[] of : bad) {
            stays("opened(" + of[0] + ", " + of[1] + ")", RICH, x -> x.opened(of[0], of[1]), BAD);
        }
        for (int far : FAR) {
            stays("opened(" + far + ", 0)", RICH, x -> x.opened(far, 0), BAD);
            stays("opened(0, " + far + ")", RICH, x -> x.opened(0, far), BAD);
        }
        for (int what = 0; what <= 2; what++) {
            int of = what;
            outside("opened(0, " + what + "), a new object", new VolumeSets().opened(0, what), BAD);
            stays("opened(0, " + what + "), nothing READ", NOT_READ, x -> x.opened(0, of), BAD);
            VolumeSets x = RICH.made.get();
            x.read(9);
            outside("opened(0, " + what + "), behind a read that answered NONE", x.opened(0, what), BAD);
            outside("opened(0, " + what + "), none is told", read(cut(20, 0, 7)[0]).opened(0, what), BAD);
        }
    }

    private static void count() {
        promise(20, "0 ENTRIES, 1 bytes of THE STREAM, 2 of the TAPE, 3 SLOTS that are not empty, 4 GOOD, "
            + "5 SPOILT ones, 6 SIZE, 7 REPAIRS, 8 SET.");
        int[] least = {0, 0, 0, 0, 0, 0, 32, 0, 0};
        int[] rich = {3, 44, 41, 7, 5, 1, 24, 2, 7};
        for (int what = 0; what <= 8; what++) {
            int of = what;
            due("a new object: count(" + what + ")", new VolumeSets().count(what), least[what]);
            stays("count(" + what + ")", RICH, x -> x.count(of), rich[what]);
        }
        VolumeSets x = of(20, 3, 255);
        for (int k = 0; k < 20; k++) {
            enter(x, row(60, k));
        }
        tape(x, row(60, 1));
        due("ENTRIES, the most", x.count(0), 20);
        due("bytes of THE STREAM, the most", x.count(1), 1260);
        due("bytes of the TAPE, the most", x.count(2), 60);
        x.clear();
        x.rule(1, 0);
        x.write(-1);
        for (int b = 1; b < 60; b++) {
            x.copy(0, b);
        }
        due("SLOTS that are not empty, the most", x.count(3), 60);
        due("GOOD ones, the most", x.count(4), 60);
        due("SPOILT ones, none", x.count(5), 0);
        for (int i = 0; i < 60; i++) {
            x.poke(i, 19, 1);
        }
        due("GOOD ones, none", x.count(4), 0);
        due("SPOILT ones, the most", x.count(5), 60);
        for (int i = 0; i < 60; i++) {
            x.poke(i, 0, 1);
        }
        due("SLOTS that are not empty", x.count(3), 60);
        due("GOOD ones, none has a HEAD", x.count(4), 0);
        due("SPOILT ones, none has a HEAD", x.count(5), 0);
    }

    private static void countBad() {
        promise(20, "BAD: another number.");
        inside("count(0)", RICH.made.get().count(0), 3);
        inside("count(8)", RICH.made.get().count(8), 7);
        stays("count(-1)", RICH, x -> x.count(-1), BAD);
        stays("count(9)", RICH, x -> x.count(9), BAD);
        for (int far : FAR) {
            stays("count(" + far + ")", RICH, x -> x.count(far), BAD);
        }
    }
}
