import java.util.Arrays;

/**
 * What tests do with an object again and again; and beside it the document's rows of bytes, worked
 * out anew, so that an answer is not compared with another answer of the class.
 */
class Hands {
    static final int BAD = VolumeSets.BAD;
    static final int NONE = VolumeSets.NONE;
    static final int FULL = VolumeSets.FULL;

    static final int HEAD = 12;
    /** Places in a HEAD. */
    static final int SET = 2, NUMBER = 3, MANY = 4, REPAIRS = 5, LENGTH = 6, START = 7;

    // ---- numbers

    static int sum(int... bytes) {
        int h = 5381;
        for (int b : bytes) {
            h = (33 * h ^ b) & 0xFFFF;
        }
        return h;
    }

    static int times(int a, int b) {
        int product = 0;
        for (int k = 0; k < 8; k++) {
            if ((b >> k & 1) == 1) {
                product ^= a << k;
            }
        }
        for (int k = 14; k >= 8; k--) {
            if ((product >> k & 1) == 1) {
                product ^= 0b100011101 << (k - 8);
            }
        }
        return product;
    }

    /** 2 ^ exponent. */
    static int power(int exponent) {
        int result = 1;
        for (int k = 0; k < exponent; k++) {
            result = times(result, 2);
        }
        return result;
    }

    // ---- rows of bytes

    /** So many bytes: first, first + 1, .. (of each the lowest 8 bits). */
    static int[] row(int length, int first) {
        int[] bytes = new int[length];
        for (int i = 0; i < length; i++) {
            bytes[i] = first + i & 255;
        }
        return bytes;
    }

    static int[] join(int[]... rows) {
        return Arrays.stream(rows).flatMapToInt(Arrays::stream).toArray();
    }

    /** An ENTRY as it lies in THE STREAM. */
    static int[] inStream(int... bytes) {
        int sum = sum(bytes);
        return join(new int[] {bytes.length, sum & 255, sum >> 8}, bytes);
    }

    static int[] stream(int[]... entries) {
        return join(Arrays.stream(entries).map(Hands::inStream).toArray(int[][]::new));
    }

    /** A VOLUME whose HEAD tells just this, with both SUMs right. */
    static int[] volume(int set, int n, int m, int r, int length, int start, int... body) {
        return sealed(join(new int[] {86, 83, set, n, m, r, length, start, 0, 0, 0, 0}, body));
    }

    /** The row with both SUMs made right. */
    static int[] sealed(int... row) {
        int[] sealed = row.clone();
        int sum = sum(Arrays.copyOfRange(row, HEAD, row.length));
        sealed[8] = sum & 255;
        sealed[9] = sum >> 8;
        return headSealed(sealed);
    }

    /** The row with the SUM of the HEAD made right, the one of the BODY left as it is. */
    static int[] headSealed(int... row) {
        int[] sealed = row.clone();
        int sum = sum(Arrays.copyOf(row, 10));
        sealed[10] = sum & 255;
        sealed[11] = sum >> 8;
        return sealed;
    }

    /** The row with another byte at a place. */
    static int[] with(int[] row, int place, int value) {
        int[] other = row.clone();
        other[place] = value;
        return other;
    }

    /** The row with another byte in the HEAD, whose SUM is made right. */
    static int[] told(int[] row, int place, int value) {
        return headSealed(with(row, place, value));
    }

    /** VOLUMES 0 .. m + r - 1. */
    static int[][] cut(int s, int r, int set, int[]... entries) {
        int[] stream = stream(entries);
        int wide = s - HEAD;
        int m = Math.max(1, (stream.length + wide - 1) / wide);
        int[][] volumes = new int[m + r][];
        for (int n = 0; n < m; n++) {
            int from = n * wide;
            int length = Math.min(wide, stream.length - from);
            int[] body = Arrays.copyOf(Arrays.copyOfRange(stream, from, from + length), wide);
            volumes[n] = volume(set, n, m, r, length, startIn(from, length, entries), body);
        }
        for (int j = 0; j < r; j++) {
            volumes[m + j] = repair(j, set, m, r, volumes);
        }
        return volumes;
    }

    private static int startIn(int from, int length, int[]... entries) {
        int at = 0;
        for (int[] entry : entries) {
            if (at >= from && at < from + length) {
                return at - from;
            }
            at += 3 + entry.length;
        }
        return 255;
    }

    /** VOLUME m + j, MIXED of the first m. */
    static int[] repair(int j, int set, int m, int r, int[]... volumes) {
        int[] mixed = new int[volumes[0].length];
        for (int n = 0; n < m; n++) {
            for (int i = 0; i < mixed.length; i++) {
                mixed[i] ^= times(power(j * n), volumes[n][i]);
            }
        }
        int[] body = Arrays.copyOfRange(mixed, HEAD, mixed.length);
        return volume(set, m + j, m, r, mixed[LENGTH], mixed[START], body);
    }

    // ---- objects

    /** The bytes come onto the TAPE, which is empty. */
    static void tape(VolumeSets x, int... bytes) {
        for (int from = 0; from < bytes.length; from += 20) {
            int[] v = new int[5];
            for (int i = 0; i < 20; i++) {
                v[i / 4] = v[i / 4] << 8 | (from + i < bytes.length ? bytes[from + i] : 0);
            }
            x.feed(v[0], v[1], v[2], v[3], v[4]);
        }
        if (bytes.length % 20 != 0) {
            x.end(bytes.length % 20);
        }
    }

    static void enter(VolumeSets x, int... bytes) {
        tape(x, bytes);
        x.entry();
    }

    static VolumeSets of(int s, int r, int set, int[]... entries) {
        VolumeSets x = new VolumeSets();
        x.rule(0, s);
        x.rule(1, r);
        x.rule(2, set);
        for (int[] entry : entries) {
            enter(x, entry);
        }
        return x;
    }

    /** An object without ENTRIES whose SLOTS 0, 1, .. have just these rows (of 20 .. 80 bytes). */
    static VolumeSets holding(int[]... rows) {
        VolumeSets x = new VolumeSets();
        for (int i = 0; i < rows.length; i++) {
            put(x, i, rows[i]);
        }
        return x;
    }

    /** The SLOT, which is the least empty one of an object without ENTRIES, has just this row. */
    static void put(VolumeSets x, int slot, int... row) {
        x.rule(0, row.length);
        x.rule(2, 255 - slot);
        if (x.write(-1) != 1) {
            throw new IllegalStateException("SLOT " + slot + " can't be written");
        }
        int[] first = cut(row.length, 0, 255 - slot)[0];
        for (int i = 0; i < row.length; i++) {
            if (first[i] != row[i] && x.poke(slot, i, first[i] ^ row[i]) != row[i]) {
                throw new IllegalStateException("byte " + i + " of SLOT " + slot + " can't be changed");
            }
        }
    }

    /** Byte i of a SLOT, seen by xoring it twice. */
    static int peek(VolumeSets x, int slot, int i) {
        x.poke(slot, i, 255);
        return x.poke(slot, i, 255);
    }

    static int[] bytesOf(VolumeSets x, int slot) {
        int[] bytes = new int[Math.max(0, x.slot(slot, 5))];
        for (int i = 0; i < bytes.length; i++) {
            bytes[i] = peek(x, slot, i);
        }
        return bytes;
    }
}
