/** Counts answers that are not as due, and tells them. */
final class Checks {
    private final String name;
    private int asked = 0;
    private int wrong = 0;

    Checks(String name) {
        this.name = name;
    }

    void due(String what, long got, long want) {
        asked++;
        if (got != want) {
            wrong++;
            System.out.println(name + ": " + what + " answered " + got + ", due is " + want);
        }
    }

    /** What place(i) answers, or that it throws. */
    static String placeOf(SideWork work, int i) {
        try {
            return String.valueOf(work.place(i));
        } catch (ArrayIndexOutOfBoundsException e) {
            return "throws";
        }
    }

    void duePlace(String what, SideWork work, int i, String want) {
        asked++;
        String got = placeOf(work, i);
        if (!got.equals(want)) {
            wrong++;
            System.out.println(name + ": " + what + ": place(" + i + ") answered " + got + ", due is " + want);
        }
    }

    void finish() {
        System.out.println(name + ": " + asked + " answers, " + wrong + " not as due");
        if (wrong != 0) {
            System.exit(1);
        }
    }
}
