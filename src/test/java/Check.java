/** What the test programs share: answers that are not as due are printed, and the program then ends with exit code 1. */
final class Check {
    private static int asked = 0;
    private static int wrong = 0;

    private Check() {
    }

    /** A new kernel in which process 0 has made tags of these kinds. */
    static LabelKernel withTags(int... kinds) {
        LabelKernel k = new LabelKernel();
        for (int kind : kinds) {
            k.tag(0, kind);
        }
        return k;
    }

    static void due(String call, long got, long want) {
        asked++;
        if (got != want) {
            wrong++;
            System.out.println(call + " answered " + got + ", due is " + want);
        }
    }

    static void holds(String what, boolean so) {
        asked++;
        if (!so) {
            wrong++;
            System.out.println("does not hold: " + what);
        }
    }

    static void end() {
        System.out.println(asked + " answers, " + wrong + " not as due");
        if (wrong != 0 || asked == 0) {
            System.exit(1);
        }
    }
}
