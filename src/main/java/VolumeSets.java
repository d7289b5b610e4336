import java.util.Arrays;

/**
 * A stream of entries cut into volumes with heads, and volumes beside by which lost ones are made
 * again. The words in capitals are those of the document.
 */
public final class VolumeSets {
    public static final int BAD = -1, NONE = -2, FULL = -3;

    private static final int SLOTS = 60;
    private static final int MOST_VOLUMES = 60;
    private static final int MOST_REPAIRS = 3;
    private static final int MOST_ENTRIES = 20;
    private static final int MOST_BYTES = 60;
    private static final int MOST_TOLD = 40;
    private static final int FED = 20;
    private static final int LEAST_SIZE = 20;
    private static final int MOST_SIZE = 80;
    private static final int MADE_AGAIN = 100;

    private static final int EMPTY = 0;
    private static final int GOOD = 1;
    private static final int SPOILT = 2;
    private static final int NO_HEAD = 3;

    /** The bytes that lie ahead of an ENTRY's own: its length and its SUM. */
    private static final int AHEAD = 3;
    private static final int NO_START = 255;

    private static final int FIRST_MARK = 86;
    private static final int SECOND_MARK = 83;
    private static final int AT_SET = 2;
    private static final int AT_NUMBER = 3;
    private static final int AT_MANY = 4;
    private static final int AT_REPAIRS = 5;
    private static final int AT_LENGTH = 6;
    private static final int AT_START = 7;
    private static final int AT_BODY_SUM = 8;
    private static final int AT_HEAD_SUM = 10;
    private static final int HEAD = 12;

    private final Tape tape = new Tape();
    private final Stream stream = new Stream();
    private final Rules rules = new Rules();
    private final Writer writer = new Writer();
    private final Slots slots = new Slots();
    private final Reading reading = new Reading();
    private final Opening opening = new Opening();

    public VolumeSets() {
    }

    // ---- the stream

    public int feed(int a, int b, int c, int d, int e) {
        if (tape.length + FED > MOST_BYTES) {
            return FULL;
        }
        tape.addNumber(a);
        tape.addNumber(b);
        tape.addNumber(c);
        tape.addNumber(d);
        tape.addNumber(e);
        return tape.length;
    }

    public int end(int n) {
        if (n < 0 || n > FED || tape.length < FED) {
            return BAD;
        }
        tape.length = tape.length - FED + n;
        return tape.length;
    }

    public int entry() {
        if (stream.entries >= MOST_ENTRIES) {
            return FULL;
        }
        stream.append(tape);
        tape.length = 0;
        return stream.entries - 1;
    }

    public int clear() {
        int were = stream.entries;
        stream.forgetAll();
        return were;
    }

    public int rule(int what, int v) {
        return rules.change(what, v);
    }

    public int volumes() {
        int many = stream.pieceCount(rules.width()) + rules.repairs;
        return many > MOST_VOLUMES ? FULL : many;
    }

    public int byteOf(int n, int i) {
        int many = volumes();
        if (many == FULL) {
            return FULL;
        }
        if (n < 0 || n >= many || i < 0 || i >= rules.size) {
            return BAD;
        }
        stream.divide(rules.width());
        writer.make(n, stream.pieces, rules);
        return writer.volume.byteAt(i);
    }

    // ---- slots

    public int write(int n) {
        if (n < -1 || n > MOST_VOLUMES) {
            return BAD;
        }
        if (volumes() == FULL) {
            return FULL;
        }
        // There are never more VOLUMES than this, so it is as good as for ever.
        int power = n < 0 ? MOST_VOLUMES : n;
        stream.divide(rules.width());
        int due = Math.min(writer.missingIn(slots, stream.pieces, rules), power + 1);
        if (due > SLOTS - slots.filled()) {
            return FULL;
        }
        return writer.fill(slots, stream.pieces, rules, power);
    }

    public int lose(int slot) {
        Volume volume = slots.at(slot);
        if (volume == null || volume.size == 0) {
            return BAD;
        }
        int had = volume.size;
        volume.size = 0;
        return had;
    }

    public int poke(int slot, int i, int mask) {
        Volume volume = slots.at(slot);
        if (volume == null || i < 0 || i >= volume.size || mask < 1 || mask > 255) {
            return BAD;
        }
        volume.put(i, volume.byteAt(i) ^ mask);
        return volume.byteAt(i);
    }

    public int swap(int a, int b) {
        if (slots.at(a) == null || slots.at(b) == null) {
            return BAD;
        }
        slots.exchange(a, b);
        return 1;
    }

    public int copy(int a, int b) {
        Volume from = slots.at(a);
        Volume to = slots.at(b);
        if (from == null || to == null || from.size == 0 || to.size != 0) {
            return BAD;
        }
        to.become(from);
        return to.size;
    }

    public int slot(int i, int what) {
        Volume volume = slots.at(i);
        if (volume == null || what < 0 || what > 5) {
            return BAD;
        }
        if (what == 0) {
            return volume.state();
        }
        if (what == 5) {
            return volume.size == 0 ? NONE : volume.size;
        }
        // SET, number, m and r lie in this order in the HEAD.
        return volume.hasHead() ? volume.byteAt(AT_SET + what - 1) : NONE;
    }

    // ---- reading

    public int read(int set) {
        if (set < 0 || set > 255) {
            return BAD;
        }
        int present = reading.gather(slots, set);
        if (reading.done) {
            opening.open(reading.pieces);
        } else {
            opening.told = 0;
        }
        return present;
    }

    public int found(int what) {
        if (what < 0 || what > 5) {
            return BAD;
        }
        if (!reading.done) {
            return NONE;
        }
        switch (what) {
            case 0:
                return reading.pieces.many;
            case 1:
                return reading.repairs;
            case 2:
                return reading.size;
            case 3:
                return reading.madeAgain;
            case 4:
                return opening.told;
            default:
                return opening.openedOnes();
        }
    }

    public int where(int n) {
        if (!reading.done || n < 0 || n >= reading.pieces.many + reading.repairs) {
            return BAD;
        }
        return reading.placeOf(n);
    }

    public int got(int i) {
        if (!reading.done || i < 0 || i >= reading.pieces.room()) {
            return BAD;
        }
        return reading.pieces.isKnown(i) ? reading.pieces.byteAt(i) : NONE;
    }

    public int opened(int k, int what) {
        return opening.tellOf(k, what);
    }

    public int count(int what) {
        switch (what) {
            case 0:
                return stream.entries;
            case 1:
                return stream.length;
            case 2:
                return tape.length;
            case 3:
                return slots.filled();
            case 4:
                return slots.inState(GOOD);
            case 5:
                return slots.inState(SPOILT);
            case 6:
                return rules.size;
            case 7:
                return rules.repairs;
            case 8:
                return rules.set;
            default:
                return BAD;
        }
    }

    /** SUMs of bytes, and products of polynomials modulo x^8 + x^4 + x^3 + x^2 + 1. */
    private static final class Bytes {
        private static final int MODULUS = 0x11D;

        private Bytes() {
        }

        static int sum(int[] row, int from, int to) {
            int h = 5381;
            for (int i = Math.max(0, from); i < to && i < row.length; i++) {
                h = ((33 * h) ^ row[i]) & 0xFFFF;
            }
            return h;
        }

        static int twice(int a) {
            int doubled = a << 1;
            return doubled > 255 ? doubled ^ MODULUS : doubled;
        }

        static int product(int a, int b) {
            int result = 0;
            int shifted = a;
            for (int k = 0; k < 8; k++) {
                if ((b >>> k & 1) != 0) {
                    result ^= shifted;
                }
                shifted = twice(shifted);
            }
            return result;
        }

        /** 2 ^ exponent times a. */
        static int raised(int a, int exponent) {
            int result = a;
            for (int k = 0; k < exponent; k++) {
                result = twice(result);
            }
            return result;
        }

        static int inverse(int a) {
            for (int b = 1; b < 256; b++) {
                if (product(a, b) == 1) {
                    return b;
                }
            }
            return 0;
        }

        static int quotient(int a, int divisor) {
            return divisor <= 0 ? 0 : a / divisor;
        }
    }

    /** Bytes that wait to be an ENTRY. */
    private static final class Tape {
        private final int[] bytes = new int[MOST_BYTES];
        int length;

        void addNumber(int number) {
            for (int shift = 24; shift >= 0; shift -= 8) {
                add(number >>> shift & 255);
            }
        }

        private void add(int value) {
            if (length >= 0 && length < MOST_BYTES) {
                bytes[length] = value;
                length++;
            }
        }

        int byteAt(int i) {
            return i < 0 || i >= MOST_BYTES ? 0 : bytes[i];
        }

        int sum() {
            return Bytes.sum(bytes, 0, length);
        }
    }

    /** SIZE, REPAIRS and SET. */
    private static final class Rules {
        int size = 32;
        int repairs;
        int set;

        int width() {
            return size - HEAD;
        }

        int change(int what, int v) {
            switch (what) {
                case 0:
                    return changeSize(v);
                case 1:
                    return changeRepairs(v);
                case 2:
                    return changeSet(v);
                default:
                    return BAD;
            }
        }

        private int changeSize(int v) {
            if (v < LEAST_SIZE || v > MOST_SIZE) {
                return BAD;
            }
            int was = size;
            size = v;
            return was;
        }

        private int changeRepairs(int v) {
            if (v < 0 || v > MOST_REPAIRS) {
                return BAD;
            }
            int was = repairs;
            repairs = v;
            return was;
        }

        private int changeSet(int v) {
            if (v < 0 || v > 255) {
                return BAD;
            }
            int was = set;
            set = v;
            return was;
        }
    }

    /** A row of bytes with a HEAD and a BODY: what a SLOT has (no size: it is empty). */
    private static final class Volume {
        private final int[] bytes = new int[MOST_SIZE];
        int size;

        int byteAt(int i) {
            return i < 0 || i >= MOST_SIZE ? 0 : bytes[i];
        }

        void put(int i, int value) {
            if (i >= 0 && i < MOST_SIZE) {
                bytes[i] = value;
            }
        }

        private void putSum(int i, int sum) {
            put(i, sum & 255);
            put(i + 1, sum >>> 8);
        }

        private int sumAt(int i) {
            return byteAt(i) + (byteAt(i + 1) << 8);
        }

        /** The SUM of the BODY goes first: the one of the HEAD is over it too. */
        void seal() {
            putSum(AT_BODY_SUM, Bytes.sum(bytes, HEAD, size));
            putSum(AT_HEAD_SUM, Bytes.sum(bytes, 0, AT_HEAD_SUM));
        }

        void cutOff() {
            for (int i = size / 2; i < size; i++) {
                put(i, 0);
            }
        }

        void become(Volume other) {
            System.arraycopy(other.bytes, 0, bytes, 0, MOST_SIZE);
            size = other.size;
        }

        boolean hasJustTheBytesOf(Volume other) {
            if (size != other.size) {
                return false;
            }
            for (int i = 0; i < size; i++) {
                if (byteAt(i) != other.byteAt(i)) {
                    return false;
                }
            }
            return true;
        }

        boolean hasHead() {
            int many = byteAt(AT_MANY);
            int repairs = byteAt(AT_REPAIRS);
            return size >= HEAD
                && byteAt(0) == FIRST_MARK
                && byteAt(1) == SECOND_MARK
                && sumAt(AT_HEAD_SUM) == Bytes.sum(bytes, 0, AT_HEAD_SUM)
                && many >= 1
                && many <= MOST_VOLUMES
                && repairs <= MOST_REPAIRS
                && byteAt(AT_NUMBER) < many + repairs;
        }

        int state() {
            if (size == 0) {
                return EMPTY;
            }
            if (!hasHead()) {
                return NO_HEAD;
            }
            return sumAt(AT_BODY_SUM) == Bytes.sum(bytes, HEAD, size) ? GOOD : SPOILT;
        }

        boolean isGoodOf(int set) {
            return byteAt(AT_SET) == set && state() == GOOD;
        }

        boolean isAsWideAndManyAs(Volume other) {
            return size == other.size
                && byteAt(AT_MANY) == other.byteAt(AT_MANY)
                && byteAt(AT_REPAIRS) == other.byteAt(AT_REPAIRS);
        }
    }

    /**
     * Bytes of THE STREAM, and what the HEADs of VOLUMES 0 .. m - 1 tell of the PIECES they are cut
     * into. What is missing is all 0s: so it is not KNOWN, no ENTRY begins there, and it adds
     * nothing to what is MIXED.
     */
    private static final class Pieces {
        private final int[] bytes;
        private final int[] lengths = new int[MOST_VOLUMES];
        private final int[] starts = new int[MOST_VOLUMES];
        int many;
        int width;

        Pieces(int room) {
            bytes = new int[Math.max(0, room)];
        }

        void blank() {
            Arrays.fill(bytes, 0);
            Arrays.fill(lengths, 0);
            Arrays.fill(starts, 0);
        }

        int room() {
            return many * width;
        }

        int byteAt(int i) {
            return i < 0 || i >= bytes.length ? 0 : bytes[i];
        }

        void put(int i, int value) {
            if (i >= 0 && i < bytes.length) {
                bytes[i] = value;
            }
        }

        int sum(int from, int to) {
            return Bytes.sum(bytes, from, to);
        }

        /** Byte i of VOLUME n, if it is one of those that REPAIRS mix; else 0. */
        int part(int n, int i) {
            if (n < 0 || n >= MOST_VOLUMES) {
                return 0;
            }
            if (i == AT_LENGTH) {
                return lengths[n];
            }
            if (i == AT_START) {
                return starts[n];
            }
            return i < HEAD ? 0 : byteAt(n * width + i - HEAD);
        }

        void putPart(int n, int i, int value) {
            if (n < 0 || n >= MOST_VOLUMES) {
                return;
            }
            if (i == AT_LENGTH) {
                lengths[n] = value;
            } else if (i == AT_START) {
                starts[n] = value;
            } else if (i >= HEAD) {
                put(n * width + i - HEAD, value);
            }
        }

        /** The sum of 2 ^ (j n) times byte i of VOLUME n, from the last VOLUME down. */
        int mixed(int j, int i) {
            int mix = 0;
            for (int n = many - 1; n >= 0; n--) {
                mix = Bytes.raised(mix, j) ^ part(n, i);
            }
            return mix;
        }

        boolean isKnown(int place) {
            if (place < 0 || place >= room()) {
                return false;
            }
            int n = Bytes.quotient(place, width);
            return place - n * width < part(n, AT_LENGTH);
        }

        boolean areKnown(int from, int to) {
            for (int place = from; place < to; place++) {
                if (!isKnown(place)) {
                    return false;
                }
            }
            return true;
        }

        /** This place, if it is KNOWN, or where the next ENTRY behind begins; NONE: nowhere. */
        int nextKnown(int place) {
            int at = place;
            // A START can point at what isn't KNOWN, but each jump ends in a later VOLUME.
            for (int jump = 0; jump <= MOST_VOLUMES && at >= 0; jump++) {
                if (isKnown(at)) {
                    return at;
                }
                at = startBehind(at);
            }
            return NONE;
        }

        private int startBehind(int place) {
            for (int n = Bytes.quotient(place, width) + 1; n < many; n++) {
                int start = part(n, AT_START);
                if (start < part(n, AT_LENGTH)) {
                    return n * width + start;
                }
            }
            return NONE;
        }
    }

    /** The ENTRIES, as THE STREAM that they make. */
    private static final class Stream {
        private static final int MOST_STREAM = MOST_ENTRIES * (AHEAD + MOST_BYTES);

        /** With room for the 0s behind the last PIECE. */
        final Pieces pieces = new Pieces(MOST_STREAM + MOST_SIZE);
        private final int[] beginnings = new int[MOST_ENTRIES];
        int entries;
        int length;

        void append(Tape tape) {
            if (entries < 0 || entries >= MOST_ENTRIES) {
                return;
            }
            beginnings[entries] = length;
            entries++;
            int sum = tape.sum();
            add(tape.length);
            add(sum & 255);
            add(sum >>> 8);
            for (int i = 0; i < tape.length; i++) {
                add(tape.byteAt(i));
            }
        }

        private void add(int value) {
            pieces.put(length, value);
            length++;
        }

        void forgetAll() {
            pieces.blank();
            entries = 0;
            length = 0;
        }

        int pieceCount(int width) {
            return Math.max(1, Bytes.quotient(length + width - 1, width));
        }

        /** Only for as many PIECES as there can be VOLUMES. */
        void divide(int width) {
            pieces.many = Math.min(MOST_VOLUMES, pieceCount(width));
            pieces.width = width;
            for (int n = 0; n < pieces.many; n++) {
                pieces.putPart(n, AT_LENGTH, Math.min(width, length - n * width));
                pieces.putPart(n, AT_START, startIn(n * width, width));
            }
        }

        private int startIn(int from, int width) {
            for (int k = 0; k < entries && k < MOST_ENTRIES; k++) {
                int start = beginnings[k] - from;
                if (start >= 0 && start < width) {
                    return start;
                }
            }
            return NO_START;
        }
    }

    /** SLOTS 0 .. 59. */
    private static final class Slots {
        private final Volume[] volumes = new Volume[SLOTS];

        Slots() {
            for (int i = 0; i < SLOTS; i++) {
                volumes[i] = new Volume();
            }
        }

        /** null: there is no such SLOT. */
        Volume at(int i) {
            return i < 0 || i >= SLOTS ? null : volumes[i];
        }

        void exchange(int a, int b) {
            Volume first = at(a);
            Volume second = at(b);
            if (first != null && second != null) {
                volumes[a] = second;
                volumes[b] = first;
            }
        }

        int filled() {
            int many = 0;
            for (int i = 0; i < SLOTS; i++) {
                if (volumes[i].size != 0) {
                    many++;
                }
            }
            return many;
        }

        int inState(int state) {
            int many = 0;
            for (int i = 0; i < SLOTS; i++) {
                if (volumes[i].state() == state) {
                    many++;
                }
            }
            return many;
        }

        /** The first SLOT that is GOOD, with this SET; null: there is none. */
        Volume firstGood(int set) {
            for (int i = 0; i < SLOTS; i++) {
                if (volumes[i].isGoodOf(set)) {
                    return volumes[i];
                }
            }
            return null;
        }

        boolean hold(Volume volume) {
            for (int i = 0; i < SLOTS; i++) {
                if (volumes[i].hasJustTheBytesOf(volume)) {
                    return true;
                }
            }
            return false;
        }

        void putIntoLeastEmpty(Volume volume) {
            for (int i = 0; i < SLOTS; i++) {
                if (volumes[i].size == 0) {
                    volumes[i].become(volume);
                    return;
                }
            }
        }
    }

    /** Makes VOLUMES of PIECES, one at a time, and puts them into SLOTS. */
    private static final class Writer {
        final Volume volume = new Volume();

        void make(int n, Pieces pieces, Rules rules) {
            volume.size = rules.size;
            volume.put(0, FIRST_MARK);
            volume.put(1, SECOND_MARK);
            volume.put(AT_SET, rules.set);
            volume.put(AT_NUMBER, n);
            volume.put(AT_MANY, pieces.many);
            volume.put(AT_REPAIRS, rules.repairs);
            for (int i = AT_LENGTH; i < rules.size; i++) {
                volume.put(i, n < pieces.many ? pieces.part(n, i) : pieces.mixed(n - pieces.many, i));
            }
            volume.seal();
        }

        int missingIn(Slots slots, Pieces pieces, Rules rules) {
            int missing = 0;
            for (int n = 0; n < pieces.many + rules.repairs; n++) {
                make(n, pieces, rules);
                if (!slots.hold(volume)) {
                    missing++;
                }
            }
            return missing;
        }

        /** WRITING with POWER: how many were written whole. */
        int fill(Slots slots, Pieces pieces, Rules rules, int power) {
            int written = 0;
            for (int n = 0; n < pieces.many + rules.repairs; n++) {
                make(n, pieces, rules);
                if (slots.hold(volume)) {
                    continue;
                }
                if (written == power) {
                    volume.cutOff();
                    slots.putIntoLeastEmpty(volume);
                    break;
                }
                slots.putIntoLeastEmpty(volume);
                written++;
            }
            return written;
        }
    }

    /**
     * By which missing VOLUMES are made again: a row for each REPAIR has the factors by which the
     * missing ones are MIXED in it, then the bytes that they make together.
     */
    private static final class Equations {
        private final int[][] rows = new int[MOST_REPAIRS][MOST_REPAIRS + MOST_SIZE];
        private final int[] numbers = new int[MOST_REPAIRS];
        int unknowns;
        int given;

        void forgetAll() {
            unknowns = 0;
            given = 0;
        }

        void addUnknown(int number) {
            if (unknowns < MOST_REPAIRS) {
                numbers[unknowns] = number;
                unknowns++;
            }
        }

        void addRepair(int j, Volume repair, Pieces pieces) {
            if (given >= MOST_REPAIRS) {
                return;
            }
            int[] row = rows[given];
            for (int q = 0; q < unknowns && q < MOST_REPAIRS; q++) {
                row[q] = Bytes.raised(1, j * numbers[q]);
            }
            for (int i = AT_LENGTH; i < repair.size && i < MOST_SIZE; i++) {
                row[MOST_REPAIRS + i] = repair.byteAt(i) ^ pieces.mixed(j, i);
            }
            given++;
        }

        /** Behind it row q has the bytes of unknown q: no pivot is 0, as the numbers differ. */
        void solve() {
            for (int q = 0; q < unknowns && q < MOST_REPAIRS; q++) {
                scale(q, Bytes.inverse(rows[q][q]));
                for (int other = 0; other < unknowns && other < MOST_REPAIRS; other++) {
                    if (other != q) {
                        addTo(other, q, rows[other][q]);
                    }
                }
            }
        }

        private void scale(int q, int factor) {
            int[] row = rows[q];
            for (int c = 0; c < row.length; c++) {
                row[c] = Bytes.product(row[c], factor);
            }
        }

        private void addTo(int other, int q, int factor) {
            int[] row = rows[other];
            for (int c = 0; c < row.length; c++) {
                row[c] ^= Bytes.product(rows[q][c], factor);
            }
        }

        int numberOf(int q) {
            return q < 0 || q >= MOST_REPAIRS ? 0 : numbers[q];
        }

        int byteOfUnknown(int q, int i) {
            return q < 0 || q >= MOST_REPAIRS || i < 0 || i >= MOST_SIZE ? 0 : rows[q][MOST_REPAIRS + i];
        }
    }

    /** What was READ: it stays as it was, whatever becomes of the SLOTS. */
    private static final class Reading {
        final Pieces pieces = new Pieces(MOST_VOLUMES * (MOST_SIZE - HEAD));
        private final int[] places = new int[MOST_VOLUMES + MOST_REPAIRS];
        private final Equations equations = new Equations();
        boolean done;
        int size;
        int repairs;
        int present;
        int madeAgain;

        /** How many of VOLUMES 0 .. m - 1 are there in the end. */
        int gather(Slots slots, int set) {
            Volume first = slots.firstGood(set);
            done = first != null;
            if (first == null) {
                return NONE;
            }
            begin(first);
            for (int i = 0; i < SLOTS; i++) {
                Volume volume = slots.at(i);
                if (volume != null && volume.isGoodOf(set) && volume.isAsWideAndManyAs(first)) {
                    take(volume, i);
                }
            }
            makeAgain(slots);
            return present + madeAgain;
        }

        private void begin(Volume first) {
            pieces.blank();
            Arrays.fill(places, NONE);
            size = first.size;
            repairs = first.byteAt(AT_REPAIRS);
            pieces.many = first.byteAt(AT_MANY);
            pieces.width = size - HEAD;
            present = 0;
            madeAgain = 0;
        }

        private void take(Volume volume, int place) {
            int n = volume.byteAt(AT_NUMBER);
            if (placeOf(n) != NONE) {
                return;
            }
            setPlace(n, place);
            if (n < pieces.many) {
                present++;
                for (int i = AT_LENGTH; i < size; i++) {
                    pieces.putPart(n, i, volume.byteAt(i));
                }
            }
        }

        int placeOf(int n) {
            return n < 0 || n >= places.length ? NONE : places[n];
        }

        private void setPlace(int n, int place) {
            if (n >= 0 && n < places.length) {
                places[n] = place;
            }
        }

        private void makeAgain(Slots slots) {
            int missing = pieces.many - present;
            if (missing == 0 || missing > repairsOfIt()) {
                return;
            }
            equations.forgetAll();
            for (int n = 0; n < pieces.many; n++) {
                if (placeOf(n) == NONE) {
                    equations.addUnknown(n);
                }
            }
            for (int j = 0; j < repairs && equations.given < missing; j++) {
                Volume repair = slots.at(placeOf(pieces.many + j));
                if (repair != null) {
                    equations.addRepair(j, repair, pieces);
                }
            }
            equations.solve();
            takeUnknowns();
        }

        private int repairsOfIt() {
            int many = 0;
            for (int j = 0; j < repairs; j++) {
                if (placeOf(pieces.many + j) != NONE) {
                    many++;
                }
            }
            return many;
        }

        private void takeUnknowns() {
            for (int q = 0; q < equations.unknowns; q++) {
                int n = equations.numberOf(q);
                setPlace(n, MADE_AGAIN);
                madeAgain++;
                for (int i = AT_LENGTH; i < size; i++) {
                    pieces.putPart(n, i, equations.byteOfUnknown(q, i));
                }
            }
        }
    }

    /** The ENTRIES that are told of what was READ. */
    private static final class Opening {
        private final int[] places = new int[MOST_TOLD];
        private final int[] lengths = new int[MOST_TOLD];
        private final int[] whole = new int[MOST_TOLD];
        int told;

        void open(Pieces pieces) {
            told = 0;
            int place = pieces.nextKnown(0);
            for (int k = 0; k < MOST_TOLD && place >= 0; k++) {
                int length = pieces.byteAt(place);
                places[k] = place;
                lengths[k] = length;
                whole[k] = isWhole(pieces, place, length) ? 1 : 0;
                told = k + 1;
                place = pieces.nextKnown(place + AHEAD + length);
            }
        }

        private static boolean isWhole(Pieces pieces, int place, int length) {
            int from = place + AHEAD;
            int to = from + length;
            if (length > MOST_BYTES || !pieces.areKnown(place, to)) {
                return false;
            }
            int sum = pieces.byteAt(place + 1) + (pieces.byteAt(place + 2) << 8);
            return sum == pieces.sum(from, to);
        }

        int openedOnes() {
            int many = 0;
            for (int k = 0; k < told && k < MOST_TOLD; k++) {
                many += whole[k];
            }
            return many;
        }

        int tellOf(int k, int what) {
            if (k < 0 || k >= told || k >= MOST_TOLD) {
                return BAD;
            }
            switch (what) {
                case 0:
                    return places[k];
                case 1:
                    return lengths[k];
                case 2:
                    return whole[k];
                default:
                    return BAD;
            }
        }
    }
}
