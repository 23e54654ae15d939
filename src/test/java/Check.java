import java.util.function.IntUnaryOperator;

/** What the test programs share: answers that are not as due are printed, and the program then ends with exit code 1. */
final class Check {
    static final int MIN = Integer.MIN_VALUE, MAX = Integer.MAX_VALUE;
    static final int SECRET = 0, SEAL = 1, OWN = 2;

    private static int asked = 0;
    private static int wrong = 0;
    private static String sentence = "";

    private Check() {
    }

    /** A new kernel in which process 0 has made tags of these kinds. */
    static LabelKernel withTags(int... kinds) {
        LabelKernel k = new LabelKernel();
        for (int kind : kinds) {
            k.tag(0, kind);
        }
        return k;
    }

    /** The words of the document that the answers behind this are due to. */
    static void sentence(String words) {
        sentence = "\"" + words + "\": ";
    }

    static void due(String call, long got, long want) {
        asked++;
        if (got != want) {
            wrong++;
            System.out.println(sentence + call + " answered " + got + ", due is " + want);
        }
    }

    /** The call's answers for 0, 1, 2 and so on. */
    static void dueFromZero(String call, IntUnaryOperator got, int... want) {
        for (int i = 0; i < want.length; i++) {
            due(call + " with " + i, got.applyAsInt(i), want[i]);
        }
    }

    /** The call's answer for each of these numbers. */
    static void dueForEach(String call, int want, IntUnaryOperator got, int... numbers) {
        for (int number : numbers) {
            due(call + " with " + number, got.applyAsInt(number), want);
        }
    }

    static void holds(String what, boolean so) {
        asked++;
        if (!so) {
            wrong++;
            System.out.println(sentence + "does not hold: " + what);
        }
    }

    static void end() {
        System.out.println(asked + " answers, " + wrong + " not as due");
        if (wrong != 0 || asked == 0) {
            System.exit(1);
        }
    }
}
