import java.util.ArrayList;
import java.util.Arrays;
import java.util.EnumMap;
import java.util.List;
import java.util.Map;
import java.util.function.Supplier;
import java.util.function.ToIntFunction;

/** Tests of single sentences: each test names its promise and quotes its sentence. */
class Sentences extends Hands {
    static final Checks CHECKS = new Checks();
    static final Document DOCUMENT = new Document();
    /** Numbers that are far outside of all that the document names. */
    static final int[] FAR = {Integer.MIN_VALUE, Integer.MIN_VALUE + 1, -1000, 1000, 65536, Integer.MAX_VALUE};

    private static String sentence = "";
    private static int tested = 0;

    /** What is due from here on is due by these words of a promise. */
    static void promise(int number, String words) {
        begin(number, number, words);
    }

    /** What is due from here on is due by these words of the terms, seen by the call of a promise. */
    static void term(int number, String words) {
        begin(number, Document.TERMS, words);
    }

    private static void begin(int number, int section, String words) {
        tested++;
        sentence = "promise " + number + ", \"" + words + "\"";
        CHECKS.holds("the document says: " + sentence, DOCUMENT.quote(section, words));
    }

    static void finish() {
        DOCUMENT.lookForWordsThatNoneQuotes(CHECKS);
        System.out.println(tested + " sentences");
        CHECKS.finish();
    }

    static void due(String what, long got, long want) {
        CHECKS.due(sentence + ": " + what, got, want);
    }

    /** Just inside a boundary. */
    static void inside(String what, long got, long want) {
        CHECKS.due(sentence + ", inside: " + what, got, want);
    }

    /** Just outside of it. */
    static void outside(String what, long got, long want) {
        CHECKS.due(sentence + ", outside: " + what, got, want);
    }

    static void same(String what, int[] got, int[] want) {
        CHECKS.holds(sentence + ": " + what + " is " + Arrays.toString(got) + ", due is " + Arrays.toString(want),
            Arrays.equals(got, want));
    }

    // ---- what a call leaves as it was

    /** What of an object is looked at. */
    enum Part { STREAM, TAPE, SLOTS, READING }

    /** A way to make an object again and again, with what can be seen of it then. */
    static final class State {
        final Supplier<VolumeSets> made;
        private final Map<Part, String> pictures = new EnumMap<>(Part.class);

        State(Supplier<VolumeSets> made) {
            this.made = made;
            for (Part part : Part.values()) {
                pictures.put(part, pictureOf(part, made));
            }
        }
    }

    /** The call answers so, and all that can be seen of the object is then as if it had not come. */
    static void stays(String what, State state, ToIntFunction<VolumeSets> call, int want) {
        leaves(what, state, call, want, Part.values());
    }

    /** The call answers so, and these parts are then as if it had not come. */
    static void leaves(String what, State state, ToIntFunction<VolumeSets> call, int want, Part... parts) {
        due(what, call.applyAsInt(state.made.get()), want);
        for (Part part : parts) {
            String behind = pictureOf(part, () -> {
                VolumeSets x = state.made.get();
                call.applyAsInt(x);
                return x;
            });
            boolean same = behind.equals(state.pictures.get(part));
            CHECKS.holds(sentence + ": " + what + " leaves as it was: " + part, same);
        }
    }

    /** Each portion is looked at on an object of its own, as one is good for 512 calls. */
    private static String pictureOf(Part part, Supplier<VolumeSets> made) {
        StringBuilder picture = new StringBuilder();
        for (List<ToIntFunction<VolumeSets>> portion : PORTIONS.get(part)) {
            VolumeSets x = made.get();
            for (ToIntFunction<VolumeSets> look : portion) {
                picture.append(look.applyAsInt(x)).append(' ');
            }
        }
        return picture.toString();
    }

    private static final Map<Part, List<List<ToIntFunction<VolumeSets>>>> PORTIONS = Map.of(
        Part.STREAM, List.of(ofStream()), Part.TAPE, List.of(ofTape()), Part.SLOTS, ofSlots(),
        Part.READING, List.of(ofReading()));

    private static List<ToIntFunction<VolumeSets>> ofStream() {
        List<ToIntFunction<VolumeSets>> looks = new ArrayList<>();
        for (int what : new int[] {0, 1, 6, 7, 8}) {
            looks.add(x -> x.count(what));
        }
        looks.add(VolumeSets::volumes);
        addBytes(looks);
        return looks;
    }

    /** The TAPE is seen by making it the only ENTRY. */
    private static List<ToIntFunction<VolumeSets>> ofTape() {
        List<ToIntFunction<VolumeSets>> looks = new ArrayList<>();
        looks.add(x -> x.count(2));
        looks.add(x -> {
            x.clear();
            x.rule(0, 32);
            x.rule(1, 0);
            x.rule(2, 0);
            return x.entry();
        });
        addBytes(looks);
        return looks;
    }

    private static void addBytes(List<ToIntFunction<VolumeSets>> looks) {
        for (int i = 0; i < 8 * 32; i++) {
            int n = i / 32;
            int place = i % 32;
            looks.add(x -> x.byteOf(n, place));
        }
    }

    private static List<List<ToIntFunction<VolumeSets>>> ofSlots() {
        List<List<ToIntFunction<VolumeSets>>> portions = new ArrayList<>();
        for (int from = 0; from < 60; from += 30) {
            portions.add(ofStates(from, from + 30));
        }
        for (int from = 0; from < 60; from += 3) {
            portions.add(ofBytes(from, from + 3));
        }
        return portions;
    }

    private static List<ToIntFunction<VolumeSets>> ofStates(int from, int to) {
        List<ToIntFunction<VolumeSets>> looks = new ArrayList<>();
        for (int what : new int[] {3, 4, 5}) {
            looks.add(x -> x.count(what));
        }
        for (int i = from * 6; i < to * 6; i++) {
            int slot = i / 6;
            int what = i % 6;
            looks.add(x -> x.slot(slot, what));
        }
        return looks;
    }

    private static List<ToIntFunction<VolumeSets>> ofBytes(int from, int to) {
        List<ToIntFunction<VolumeSets>> looks = new ArrayList<>();
        for (int i = from * 80; i < to * 80; i++) {
            int slot = i / 80;
            int place = i % 80;
            looks.add(x -> x.poke(slot, place, 255));
        }
        return looks;
    }

    private static List<ToIntFunction<VolumeSets>> ofReading() {
        List<ToIntFunction<VolumeSets>> looks = new ArrayList<>();
        for (int i = 0; i < 6; i++) {
            int what = i;
            looks.add(x -> x.found(what));
        }
        for (int i = 0; i < 10; i++) {
            int n = i;
            looks.add(x -> x.where(n));
            looks.add(x -> x.opened(n, 0));
            looks.add(x -> x.opened(n, 1));
            looks.add(x -> x.opened(n, 2));
        }
        for (int i = 0; i < 100; i++) {
            int place = i;
            looks.add(x -> x.got(place));
        }
        return looks;
    }

    /** Of all kinds: GOOD ones, a SPOILT one in SLOT 1, one without a HEAD in 8; READ, with a TAPE of 41. */
    static final State RICH = new State(() -> {
        VolumeSets x = of(24, 2, 7, row(20, 1), row(0, 0), row(15, 90));
        // 44 bytes in PIECES of 12: 4 and 2.
        x.write(-1);
        x.copy(0, 8);
        x.poke(1, 15, 1);
        x.poke(8, 0, 1);
        x.swap(2, 59);
        x.read(7);
        tape(x, row(41, 5));
        return x;
    });
}
