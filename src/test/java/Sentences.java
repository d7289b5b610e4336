import java.util.ArrayList;
import java.util.Arrays;
import java.util.List;
import java.util.function.Supplier;
import java.util.function.ToIntFunction;

/** Tests of single sentences: each test names its promise and quotes its sentence. */
class Sentences extends Hands {
    static final Checks CHECKS = new Checks();
    static final Document DOCUMENT = new Document();
    /** Numbers that are far outside of all that the document names. */
    static final int[] FAR = {Integer.MIN_VALUE, Integer.MIN_VALUE + 1, -1000, 1000, 65536, Integer.MAX_VALUE};

    private static String sentence = "";
    private static int tested = 0;

    /** What is due from here on is due by these words of a promise. */
    static void promise(int number, String words) {
        begin(number, number, words);
    }

    /** What is due from here on is due by these words of the terms, seen by the call of a promise. */
    static void term(int number, String words) {
        begin(number, Document.TERMS, words);
    }

    private static void begin(int number, int section, String words) {
        tested++;
        sentence = "promise " + number + ", \"" + words + "\"";
        CHECKS.holds("the document says: " + sentence, DOCUMENT.quote(section, words));
    }

    static void finish() {
        DOCUMENT.lookForWordsThatNoneQuotes(CHECKS);
        System.out.println(tested + " sentences");
        CHECKS.finish();
    }

    static void due(String what, long got, long want) {
        CHECKS.due(sentence + ": " + what, got, want);
    }

    /** Just inside a boundary. */
    static void inside(String what, long got, long want) {
        CHECKS.due(sentence + ", inside: " + what, got, want);
    }

    /** Just outside of it. */
    static void outside(String what, long got, long want) {
        CHECKS.due(sentence + ", outside: " + what, got, want);
    }

    static void same(String what, int[] got, int[] want) {
        CHECKS.holds(sentence + ": " + what + " is " + Arrays.toString(got) + ", due is " + Arrays.toString(want),
            Arrays.equals(got, want));
    }

    // ---- calls that change nothing

    /** A way to make an object again and again, with what can be seen of it then. */
    static final class State {
        final Supplier<VolumeSets> made;
        final String picture;

        State(Supplier<VolumeSets> made) {
            this.made = made;
            this.picture = pictureOf(made);
        }
    }

    /** The call answers so, and all that can be seen of the object is then as if it had not come. */
    static void stays(String what, State state, ToIntFunction<VolumeSets> call, int want) {
        due(what, call.applyAsInt(state.made.get()), want);
        String behind = pictureOf(() -> {
            VolumeSets x = state.made.get();
            call.applyAsInt(x);
            return x;
        });
        CHECKS.holds(sentence + ": " + what + " changes nothing", behind.equals(state.picture));
    }

    /** Each portion is looked at on an object of its own, as one is good for 512 calls. */
    static String pictureOf(Supplier<VolumeSets> made) {
        StringBuilder picture = new StringBuilder();
        for (List<ToIntFunction<VolumeSets>> portion : PORTIONS) {
            VolumeSets x = made.get();
            for (ToIntFunction<VolumeSets> look : portion) {
                picture.append(look.applyAsInt(x)).append(' ');
            }
        }
        return picture.toString();
    }

    private static final List<List<ToIntFunction<VolumeSets>>> PORTIONS = portions();

    private static List<List<ToIntFunction<VolumeSets>>> portions() {
        List<List<ToIntFunction<VolumeSets>>> portions = new ArrayList<>();
        portions.add(ofReading());
        portions.add(ofStream());
        portions.add(ofTape());
        for (int from = 0; from < 60; from += 30) {
            portions.add(ofSlots(from));
        }
        for (int slot = 0; slot < 60; slot += 3) {
            portions.add(ofBytes(slot));
        }
        return portions;
    }

    private static List<ToIntFunction<VolumeSets>> ofReading() {
        List<ToIntFunction<VolumeSets>> looks = new ArrayList<>();
        for (int i = 0; i < 6; i++) {
            int what = i;
            looks.add(x -> x.found(what));
        }
        for (int i = 0; i < 10; i++) {
            int n = i;
            looks.add(x -> x.where(n));
            looks.add(x -> x.opened(n, 0));
            looks.add(x -> x.opened(n, 1));
            looks.add(x -> x.opened(n, 2));
        }
        for (int i = 0; i < 100; i++) {
            int place = i;
            looks.add(x -> x.got(place));
        }
        return looks;
    }

    private static List<ToIntFunction<VolumeSets>> ofStream() {
        List<ToIntFunction<VolumeSets>> looks = new ArrayList<>();
        for (int i = 0; i < 9; i++) {
            int what = i;
            looks.add(x -> x.count(what));
        }
        looks.add(VolumeSets::volumes);
        addBytes(looks);
        return looks;
    }

    /** The TAPE is seen by making it the only ENTRY. */
    private static List<ToIntFunction<VolumeSets>> ofTape() {
        List<ToIntFunction<VolumeSets>> looks = new ArrayList<>();
        looks.add(VolumeSets::clear);
        looks.add(VolumeSets::entry);
        addBytes(looks);
        return looks;
    }

    private static void addBytes(List<ToIntFunction<VolumeSets>> looks) {
        for (int i = 0; i < 8 * 32; i++) {
            int n = i / 32;
            int place = i % 32;
            looks.add(x -> x.byteOf(n, place));
        }
    }

    private static List<ToIntFunction<VolumeSets>> ofSlots(int from) {
        List<ToIntFunction<VolumeSets>> looks = new ArrayList<>();
        for (int i = from * 6; i < (from + 30) * 6; i++) {
            int slot = i / 6;
            int what = i % 6;
            looks.add(x -> x.slot(slot, what));
        }
        return looks;
    }

    private static List<ToIntFunction<VolumeSets>> ofBytes(int from) {
        List<ToIntFunction<VolumeSets>> looks = new ArrayList<>();
        for (int i = from * 80; i < (from + 3) * 80; i++) {
            int slot = i / 80;
            int place = i % 80;
            looks.add(x -> x.poke(slot, place, 255));
        }
        return looks;
    }
}
