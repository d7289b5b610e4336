import java.util.ArrayList;
import java.util.Arrays;
import java.util.List;
import java.util.Random;

/**
 * Runs of calls from a fixed seed, on the class and on a second program that is written anew from
 * the document in another way (lists, tables of logarithms, determinants): all answers are the same.
 */
final class AgainstModelTest {
    private static final int RUNS = 4000;
    private static final int CALLS = 512;
    private static final Checks CHECKS = new Checks();

    public static void main(String[] args) {
        for (int seed = 0; seed < RUNS && CHECKS.wrong() < 20; seed++) {
            new Run(seed).go();
        }
        System.out.println("seen: " + Run.seen());
        CHECKS.holds("runs reach every kind of answer", Run.reachedAll());
        CHECKS.finish();
    }

    /** One object and its model, with the calls that come to both. */
    private static final class Run {
        private static final String[] KINDS = {"cut", "spoilt", "made again 1", "made again 2", "made again 3",
            "lost", "forty told", "a jump", "not enough repairs", "full slots", "two sizes", "length above width"};
        private static final int[] SEEN = new int[KINDS.length];

        private final int seed;
        private final Random random;
        private final VolumeSets x = new VolumeSets();
        private final Model model = new Model();
        /** All bytes are 0: behind a forged length there are then many ENTRIES without bytes. */
        private final boolean zeros;
        private int calls;

        Run(int seed) {
            this.seed = seed;
            this.random = new Random(seed * 7919L + 13);
            this.zeros = oneIn(5);
        }

        static boolean reachedAll() {
            return Arrays.stream(SEEN).allMatch(n -> n > 0);
        }

        static String seen() {
            StringBuilder text = new StringBuilder();
            for (int i = 0; i < KINDS.length; i++) {
                text.append(i == 0 ? "" : ", ").append(KINDS[i]).append(' ').append(SEEN[i]);
            }
            return text.toString();
        }

        private void due(String call, int got, int want) {
            calls++;
            if (calls > CALLS) {
                return; // what later calls answer is free
            }
            CHECKS.due("seed " + seed + ", call " + calls + ": " + call, got, want);
        }

        private int upTo(int most) {
            return random.nextInt(most + 1);
        }

        private boolean oneIn(int n) {
            return random.nextInt(n) == 0;
        }

        /** Mostly least .. most, sometimes just outside, sometimes far away. */
        private int around(int least, int most) {
            if (oneIn(40)) {
                int[] far = {Integer.MIN_VALUE, Integer.MAX_VALUE, -1000, 1000, least - 1, most + 1, -2, -3};
                return far[upTo(far.length - 1)];
            }
            return least + upTo(most - least);
        }

        void go() {
            if (oneIn(3)) {
                while (calls < CALLS) {
                    anyCall();
                }
                return;
            }
            while (calls < CALLS) {
                fillAndWrite();
                damage();
                readAndAsk();
            }
        }

        private boolean ends() {
            return calls >= CALLS;
        }

        private void fillAndWrite() {
            if (oneIn(4)) {
                due("clear()", x.clear(), model.clear());
            }
            if (oneIn(2)) {
                rule(0, oneIn(2) ? 20 + upTo(20) : 20 + upTo(60));
            }
            if (oneIn(2)) {
                rule(1, upTo(3));
            }
            if (oneIn(6)) {
                rule(2, upTo(3));
            }
            int many = oneIn(3) ? upTo(20) : upTo(6);
            for (int k = 0; k < many && !ends(); k++) {
                newEntry();
            }
            if (oneIn(3)) {
                write(upTo(8));
            }
            if (!oneIn(6)) {
                write(-1);
            }
        }

        private void newEntry() {
            int feeds = oneIn(4) ? 0 : upTo(3);
            for (int f = 0; f < feeds; f++) {
                feed();
            }
            if (oneIn(2)) {
                int n = around(0, 20);
                due("end(" + n + ")", x.end(n), model.end(n));
            }
            due("entry()", x.entry(), model.entry());
        }

        private void feed() {
            int[] v = new int[5];
            for (int i = 0; i < 5; i++) {
                // Zeros and small numbers look like lengths and sums of empty entries.
                v[i] = zeros ? 0 : oneIn(4) ? 0x00051500 : oneIn(4) ? 0 : random.nextInt();
            }
            due("feed(" + Arrays.toString(v) + ")", x.feed(v[0], v[1], v[2], v[3], v[4]),
                model.feed(v[0], v[1], v[2], v[3], v[4]));
        }

        private void rule(int what, int v) {
            due("rule(" + what + ", " + v + ")", x.rule(what, v), model.rule(what, v));
        }

        private void write(int n) {
            int want = model.write(n);
            due("write(" + n + ")", x.write(n), want);
            if (model.lastWasCut) {
                SEEN[0]++;
            }
            if (want == VolumeSets.FULL) {
                SEEN[9]++;
            }
        }

        private void damage() {
            int many = oneIn(5) ? 0 : upTo(6);
            for (int k = 0; k < many && !ends(); k++) {
                int slot = aSlot();
                switch (upTo(7)) {
                    case 0: case 1: case 2:
                        due("lose(" + slot + ")", x.lose(slot), model.lose(slot));
                        break;
                    case 3:
                        poke(slot, around(0, 40), around(1, 255));
                        break;
                    case 4: {
                        int b = around(0, 59);
                        due("swap(" + slot + ", " + b + ")", x.swap(slot, b), model.swap(slot, b));
                        break;
                    }
                    case 5: {
                        int b = around(0, 59);
                        due("copy(" + slot + ", " + b + ")", x.copy(slot, b), model.copy(slot, b));
                        break;
                    }
                    default:
                        forge(slot);
                        break;
                }
            }
        }

        private int aSlot() {
            List<Integer> filled = new ArrayList<>();
            for (int i = 0; i < 60; i++) {
                if (model.slots[i] != null) {
                    filled.add(i);
                }
            }
            return filled.isEmpty() || oneIn(20) ? around(0, 59) : filled.get(upTo(filled.size() - 1));
        }

        private void poke(int slot, int i, int mask) {
            due("poke(" + slot + ", " + i + ", " + mask + ")", x.poke(slot, i, mask), model.poke(slot, i, mask));
        }

        /** Changes a byte and makes the SUMs right again. */
        private void forge(int slot) {
            if (slot < 0 || slot > 59 || model.slots[slot] == null) {
                return;
            }
            int[] v = model.slots[slot];
            int i = oneIn(3) ? 12 + upTo(v.length - 13) : 2 + upTo(5);
            if (zeros && oneIn(2) && v[7] < v.length - 12) {
                i = 12 + v[7];
            }
            setByte(slot, i, forgedByte(i));
            if (i >= 12) {
                setSum(slot, 8, Model.sum(v, 12, v.length));
            }
            setSum(slot, 10, Model.sum(v, 0, 10));
        }

        private int forgedByte(int i) {
            switch (i) {
                case 3: return upTo(63);
                case 4: return upTo(62);
                case 5: return upTo(4);
                default: return zeros && i >= 12 ? 0 : oneIn(2) ? upTo(255) : upTo(30);
            }
        }

        private void setSum(int slot, int i, int sum) {
            setByte(slot, i, sum % 256);
            setByte(slot, i + 1, sum / 256);
        }

        private void setByte(int slot, int i, int to) {
            int mask = model.slots[slot][i] ^ to;
            if (mask != 0) {
                poke(slot, i, mask);
            }
        }

        private void readAndAsk() {
            int set = oneIn(8) ? around(0, 255) : model.set;
            due("read(" + set + ")", x.read(set), model.read(set));
            note();
            for (int what = 0; what <= 5; what++) {
                due("found(" + what + ")", x.found(what), model.found(what));
            }
            for (int k = 0; k < 4; k++) {
                ask();
            }
            for (int k = 0; k < model.told.size() && k < 12; k++) {
                opened(oneIn(2) ? k : model.told.size() - 1 - k, upTo(2));
            }
        }

        private void note() {
            if (model.m == 0) {
                return;
            }
            if (model.madeAgain > 0) {
                SEEN[1 + model.madeAgain]++;
            }
            SEEN[8] += model.missing > 0 && model.madeAgain == 0 && model.r > 0 ? 1 : 0;
            SEEN[6] += model.told.size() == 40 ? 1 : 0;
            SEEN[7] += model.jumps > 0 ? 1 : 0;
            for (int[] t : model.told) {
                SEEN[5] += t[2] == 0 ? 1 : 0;
            }
            for (int[] v : model.slots) {
                if (v != null) {
                    SEEN[1] += Model.state(v) == 2 ? 1 : 0;
                    SEEN[10] += v.length != model.s ? 1 : 0;
                    SEEN[11] += Model.state(v) == 1 && v[6] > v.length - 12 ? 1 : 0;
                }
            }
        }

        private void ask() {
            int n = around(0, Math.max(1, model.m + model.r));
            due("where(" + n + ")", x.where(n), model.where(n));
            int i = around(0, Math.max(1, model.m * (model.s - 12)));
            due("got(" + i + ")", x.got(i), model.got(i));
            opened(around(0, Math.max(1, model.told.size())), around(0, 2));
            int a = around(0, 59);
            int what = around(0, 5);
            due("slot(" + a + ", " + what + ")", x.slot(a, what), model.slot(a, what));
            int c = around(0, 8);
            due("count(" + c + ")", x.count(c), model.count(c));
            byteOf();
        }

        private void byteOf() {
            int n = around(0, 62);
            int i = around(0, model.size);
            due("byteOf(" + n + ", " + i + ")", x.byteOf(n, i), model.byteOf(n, i));
        }

        private void opened(int k, int what) {
            due("opened(" + k + ", " + what + ")", x.opened(k, what), model.opened(k, what));
        }

        private void anyCall() {
            switch (upTo(14)) {
                case 0: feed(); break;
                case 1: newEntry(); break;
                case 2: {
                    int n = around(0, 20);
                    due("end(" + n + ")", x.end(n), model.end(n));
                    break;
                }
                case 3:
                    if (oneIn(6)) {
                        due("clear()", x.clear(), model.clear());
                    }
                    break;
                case 4: rule(around(0, 2), oneIn(2) ? around(20, 80) : around(0, 3)); break;
                case 5: due("volumes()", x.volumes(), model.volumes()); break;
                case 6: byteOf(); break;
                case 7: write(around(-1, 60)); break;
                case 8: case 9: damage(); break;
                case 10: case 11: readAndAsk(); break;
                case 12: {
                    int what = around(0, 5);
                    due("found(" + what + ")", x.found(what), model.found(what));
                    break;
                }
                default: ask(); break;
            }
        }
    }

    /** The document in its plainest form: everything is worked out anew at each call. */
    private static final class Model {
        static final int BAD = -1, NONE = -2, FULL = -3;
        private static final int[] EXP = new int[255];
        private static final int[] LOG = new int[256];

        static {
            int v = 1;
            for (int i = 0; i < 255; i++) {
                EXP[i] = v;
                LOG[v] = i;
                v = v * 2 < 256 ? v * 2 : (v * 2) ^ 0b100011101;
            }
        }

        List<Integer> tape = new ArrayList<>();
        List<List<Integer>> entries = new ArrayList<>();
        int size = 32;
        int repairs = 0;
        int set = 0;
        int[][] slots = new int[60][];
        boolean lastWasCut;

        int m;
        int r;
        int s;
        int missing;
        int madeAgain;
        int jumps;
        int[] where = {};
        int[] known = {};
        List<int[]> told = new ArrayList<>();

        static int times(int a, int b) {
            return a == 0 || b == 0 ? 0 : EXP[(LOG[a] + LOG[b]) % 255];
        }

        static int sum(int[] v, int from, int to) {
            long h = 5381;
            for (int i = from; i < to; i++) {
                h = ((h * 33) ^ v[i]) % 65536;
            }
            return (int) h;
        }

        int feed(int... numbers) {
            if (tape.size() > 40) {
                return FULL;
            }
            for (int number : numbers) {
                for (byte b : java.nio.ByteBuffer.allocate(4).putInt(number).array()) {
                    tape.add(Byte.toUnsignedInt(b));
                }
            }
            return tape.size();
        }

        int end(int n) {
            if (n < 0 || n > 20 || tape.size() < 20) {
                return BAD;
            }
            for (int k = 20; k > n; k--) {
                tape.remove(tape.size() - 1);
            }
            return tape.size();
        }

        int entry() {
            if (entries.size() == 20) {
                return FULL;
            }
            entries.add(tape);
            tape = new ArrayList<>();
            return entries.size() - 1;
        }

        int clear() {
            int were = entries.size();
            entries.clear();
            return were;
        }

        int rule(int what, int v) {
            int was = what == 0 ? size : what == 1 ? repairs : set;
            int least = what == 0 ? 20 : 0;
            int most = what == 0 ? 80 : what == 1 ? 3 : 255;
            if (what < 0 || what > 2 || v < least || v > most) {
                return BAD;
            }
            size = what == 0 ? v : size;
            repairs = what == 1 ? v : repairs;
            set = what == 2 ? v : set;
            return was;
        }

        /** The bytes of THE STREAM, and in a second row 1 where an ENTRY begins. */
        private int[][] stream() {
            List<Integer> bytes = new ArrayList<>();
            List<Integer> marks = new ArrayList<>();
            for (List<Integer> e : entries) {
                int sum = sum(e.stream().mapToInt(b -> b).toArray(), 0, e.size());
                List<Integer> all = new ArrayList<>(List.of(e.size(), sum % 256, sum / 256));
                all.addAll(e);
                for (int k = 0; k < all.size(); k++) {
                    bytes.add(all.get(k));
                    marks.add(k == 0 ? 1 : 0);
                }
            }
            return new int[][] {bytes.stream().mapToInt(b -> b).toArray(), marks.stream().mapToInt(b -> b).toArray()};
        }

        /** All VOLUMES, or null: above 60. */
        private int[][] all() {
            int[][] stream = stream();
            int b = size - 12;
            int pieces = Math.max(1, (int) Math.ceil(stream[0].length / (double) b));
            if (pieces + repairs > 60) {
                return null;
            }
            int[][] all = new int[pieces + repairs][size];
            for (int n = 0; n < pieces; n++) {
                all[n][7] = 255;
                for (int i = 0; i < b && n * b + i < stream[0].length; i++) {
                    all[n][6]++;
                    all[n][12 + i] = stream[0][n * b + i];
                    if (stream[1][n * b + i] == 1 && all[n][7] == 255) {
                        all[n][7] = i;
                    }
                }
            }
            for (int j = 0; j < repairs; j++) {
                for (int n = 0; n < pieces; n++) {
                    for (int i = 6; i < size; i++) {
                        all[pieces + j][i] ^= times(EXP[j * n % 255], all[n][i]);
                    }
                }
            }
            for (int n = 0; n < all.length; n++) {
                int[] v = all[n];
                int[] head = {86, 83, set, n, pieces, repairs};
                System.arraycopy(head, 0, v, 0, 6);
                v[8] = sum(v, 12, size) % 256;
                v[9] = sum(v, 12, size) / 256;
                v[10] = sum(v, 0, 10) % 256;
                v[11] = sum(v, 0, 10) / 256;
            }
            return all;
        }

        int volumes() {
            int[][] all = all();
            return all == null ? FULL : all.length;
        }

        int byteOf(int n, int i) {
            int[][] all = all();
            return all == null ? FULL : n < 0 || n >= all.length || i < 0 || i >= size ? BAD : all[n][i];
        }

        int write(int n) {
            lastWasCut = false;
            if (n < -1 || n > 60) {
                return BAD;
            }
            int[][] all = all();
            if (all == null) {
                return FULL;
            }
            List<int[]> due = new ArrayList<>();
            for (int[] v : all) {
                if (Arrays.stream(slots).noneMatch(t -> Arrays.equals(t, v))) {
                    due.add(v);
                }
            }
            boolean cut = n >= 0 && due.size() > n;
            while (cut && due.size() > n + 1) {
                due.remove(due.size() - 1);
            }
            if (due.size() > Arrays.stream(slots).filter(t -> t == null).count()) {
                return FULL;
            }
            if (cut) {
                due.set(n, Arrays.copyOf(Arrays.copyOf(due.get(n), size / 2), size));
                lastWasCut = true;
            }
            for (int[] v : due) {
                slots[Arrays.asList(slots).indexOf(null)] = v.clone();
            }
            return cut ? n : due.size();
        }

        private boolean has(int slot) {
            return slot >= 0 && slot < 60 && slots[slot] != null;
        }

        int lose(int slot) {
            if (!has(slot)) {
                return BAD;
            }
            int had = slots[slot].length;
            slots[slot] = null;
            return had;
        }

        int poke(int slot, int i, int mask) {
            if (!has(slot) || i < 0 || i >= slots[slot].length || mask < 1 || mask > 255) {
                return BAD;
            }
            return slots[slot][i] ^= mask;
        }

        int swap(int a, int b) {
            if (a < 0 || a > 59 || b < 0 || b > 59) {
                return BAD;
            }
            int[] v = slots[a];
            slots[a] = slots[b];
            slots[b] = v;
            return 1;
        }

        int copy(int a, int b) {
            if (!has(a) || b < 0 || b > 59 || slots[b] != null) {
                return BAD;
            }
            slots[b] = slots[a].clone();
            return slots[b].length;
        }

        static int state(int[] v) {
            if (v == null) {
                return 0;
            }
            boolean head = v[0] == 86 && v[1] == 83 && v[10] + 256 * v[11] == sum(v, 0, 10)
                && v[4] >= 1 && v[4] <= 60 && v[5] <= 3 && v[3] < v[4] + v[5];
            return !head ? 3 : v[8] + 256 * v[9] == sum(v, 12, v.length) ? 1 : 2;
        }

        int slot(int i, int what) {
            if (i < 0 || i > 59 || what < 0 || what > 5) {
                return BAD;
            }
            int state = state(slots[i]);
            if (what == 0) {
                return state;
            }
            if (what == 5) {
                return state == 0 ? NONE : slots[i].length;
            }
            return state == 1 || state == 2 ? slots[i][1 + what] : NONE;
        }

        int read(int ofSet) {
            if (ofSet < 0 || ofSet > 255) {
                return BAD;
            }
            m = 0;
            r = 0;
            s = 0;
            told = new ArrayList<>();
            int[] first = null;
            for (int[] v : slots) {
                if (first == null && state(v) == 1 && v[2] == ofSet) {
                    first = v;
                }
            }
            if (first == null) {
                return NONE;
            }
            m = first[4];
            r = first[5];
            s = first.length;
            where = new int[m + r];
            int[][] rows = new int[m + r][];
            for (int n = 0; n < m + r; n++) {
                where[n] = NONE;
                for (int i = 59; i >= 0; i--) {
                    int[] v = slots[i];
                    if (state(v) == 1 && v[2] == ofSet && v[3] == n && v[4] == m && v[5] == r && v.length == s) {
                        where[n] = i;
                        rows[n] = v;
                    }
                }
            }
            make(rows);
            know(rows);
            openAll(rows);
            return (int) Arrays.stream(where).limit(m).filter(w -> w != NONE).count();
        }

        private void make(int[][] rows) {
            List<Integer> gone = new ArrayList<>();
            List<Integer> js = new ArrayList<>();
            for (int n = 0; n < m + r; n++) {
                if (n < m && rows[n] == null) {
                    gone.add(n);
                }
                if (n >= m && rows[n] != null) {
                    js.add(n - m);
                }
            }
            missing = gone.size();
            madeAgain = 0;
            if (missing == 0 || missing > js.size()) {
                return;
            }
            madeAgain = missing;
            int k = missing;
            int[][] made = new int[k][s];
            int[][] matrix = new int[k][k];
            for (int t = 0; t < k; t++) {
                for (int q = 0; q < k; q++) {
                    matrix[t][q] = EXP[js.get(t) * gone.get(q) % 255];
                }
            }
            int whole = determinant(matrix);
            for (int i = 6; i < s; i++) {
                int[] right = new int[k];
                for (int t = 0; t < k; t++) {
                    right[t] = rows[m + js.get(t)][i];
                    for (int n = 0; n < m; n++) {
                        right[t] ^= rows[n] == null ? 0 : times(EXP[js.get(t) * n % 255], rows[n][i]);
                    }
                }
                for (int q = 0; q < k; q++) {
                    int[][] changed = new int[k][];
                    for (int t = 0; t < k; t++) {
                        changed[t] = matrix[t].clone();
                        changed[t][q] = right[t];
                    }
                    made[q][i] = times(determinant(changed), EXP[(255 - LOG[whole]) % 255]);
                }
            }
            for (int q = 0; q < k; q++) {
                rows[gone.get(q)] = made[q];
                where[gone.get(q)] = 100;
            }
        }

        /** Signs do not matter where a sum is by xor. */
        private static int determinant(int[][] a) {
            if (a.length == 1) {
                return a[0][0];
            }
            int result = 0;
            for (int c = 0; c < a.length; c++) {
                int[][] less = new int[a.length - 1][a.length - 1];
                for (int t = 1; t < a.length; t++) {
                    for (int q = 0, to = 0; q < a.length; q++) {
                        if (q != c) {
                            less[t - 1][to++] = a[t][q];
                        }
                    }
                }
                result ^= times(a[0][c], determinant(less));
            }
            return result;
        }

        private void know(int[][] rows) {
            int b = s - 12;
            known = new int[m * b];
            Arrays.fill(known, NONE);
            for (int n = 0; n < m; n++) {
                for (int i = 0; rows[n] != null && i < b && i < rows[n][6]; i++) {
                    known[n * b + i] = rows[n][12 + i];
                }
            }
        }

        private int at(int place) {
            return place < known.length ? known[place] : NONE;
        }

        private void openAll(int[][] rows) {
            int b = s - 12;
            int place = 0;
            jumps = 0;
            while (told.size() < 40) {
                if (at(place) == NONE) {
                    int n = place / b + 1;
                    while (n < m && (rows[n] == null || rows[n][7] >= rows[n][6])) {
                        n++;
                    }
                    if (n >= m) {
                        return;
                    }
                    place = n * b + rows[n][7];
                    jumps++;
                    continue;
                }
                int length = at(place);
                told.add(new int[] {place, length, whole(place, length) ? 1 : 0});
                place += length + 3;
            }
        }

        private boolean whole(int place, int length) {
            if (length > 60) {
                return false;
            }
            int[] row = new int[length + 3];
            for (int i = 0; i < row.length; i++) {
                row[i] = at(place + i);
                if (row[i] == NONE) {
                    return false;
                }
            }
            return sum(row, 3, row.length) == row[1] + 256 * row[2];
        }

        int found(int what) {
            if (what < 0 || what > 5) {
                return BAD;
            }
            int[] answers = {m, r, s, madeAgain, told.size(), (int) told.stream().filter(t -> t[2] == 1).count()};
            return m == 0 ? NONE : answers[what];
        }

        int where(int n) {
            return m == 0 || n < 0 || n >= m + r ? BAD : where[n];
        }

        int got(int i) {
            return m == 0 || i < 0 || i >= m * (s - 12) ? BAD : known[i];
        }

        int opened(int k, int what) {
            return k < 0 || k >= told.size() || what < 0 || what > 2 ? BAD : told.get(k)[what];
        }

        int count(int what) {
            int[] states = new int[4];
            for (int[] v : slots) {
                states[state(v)]++;
            }
            int[] answers = {entries.size(), stream()[0].length, tape.size(), 60 - states[0], states[1], states[2],
                size, repairs, set};
            return what < 0 || what >= answers.length ? BAD : answers[what];
        }
    }
}
