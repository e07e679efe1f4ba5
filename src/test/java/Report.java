/** Counts and prints the answers that are not the ones that are due. */
final class Report {
    private static int wrong = 0;
    private static int checked = 0;

    private Report() {
    }

    static void due(String what, Object got, Object want) {
        checked++;
        if (!want.equals(got)) {
            wrong++;
            System.out.println(what + " answered " + got + ", due is " + want);
        }
    }

    static void end() {
        System.out.println(checked + " answers looked at, " + wrong + " not as due");
        if (wrong != 0) {
            System.exit(1);
        }
    }
}
