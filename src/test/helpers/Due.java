/** Holds answers against those that are due, by the sentence of the document that they belong to. */
final class Due {
    private static String sentence = "";
    private static int asked = 0;
    private static int wrong = 0;

    private Due() {
    }

    static void sentence(String words) {
        sentence = words;
    }

    static void is(String call, long want, long got) {
        asked++;
        if (got != want) {
            fault(call + " answered " + got + ", due is " + want);
        }
    }

    static void is(String call, boolean want, boolean got) {
        is(call, want ? 1 : 0, got ? 1 : 0);
    }

    static void same(String what, long[] want, long[] got) {
        is(what + ", how many answers", want.length, got.length);
        for (int k = 0; k < want.length && k < got.length; k++) is(what + ", answer " + k, want[k], got[k]);
    }

    static void fault(String words) {
        wrong++;
        if (wrong <= 50) System.out.println("[" + sentence + "] " + words);
    }

    /** Words to the fault before; long ones only for the first few. */
    static void note(String words) {
        if (wrong <= 5) System.out.println(words);
    }

    static boolean isFine() {
        return wrong == 0;
    }

    static void end() {
        System.out.println(asked + " answers, " + wrong + " of them wrong");
        if (wrong != 0) System.exit(1);
    }
}
