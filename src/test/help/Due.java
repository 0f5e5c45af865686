/** Counts answers, and prints those that are not the ones that are due. */
final class Due {
    private static int answers, wrong;

    private Due() { }

    static void due(String what, long got, long want) {
        due(what, "" + got, "" + want);
    }

    static void due(String what, String got, String want) {
        answers++;
        if (got.equals(want)) return;
        wrong++;
        System.out.println(what + ": answered " + got + ", due is " + want);
    }

    static void done() {
        System.out.println(wrong == 0 ? answers + " answers are as due" : wrong + " answers are not as due");
        if (wrong != 0) System.exit(1);
    }
}
