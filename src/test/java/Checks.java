/** Counts answers that are not as due, and tells them with the words of the document that they break. */
final class Checks {
    private final String name;
    private String words = "";
    private int sentences = 0;
    private int asked = 0;
    private int wrong = 0;

    Checks(String name) {
        this.name = name;
    }

    /** What comes behind it tests these words of the document. */
    void sentence(String ofTheDocument) {
        words = ofTheDocument;
        sentences++;
    }

    void due(String what, long got, long want) {
        asked++;
        if (got != want) {
            tell(what, String.valueOf(got), String.valueOf(want));
        }
    }

    void due(String what, String got, String want) {
        asked++;
        if (!got.equals(want)) {
            tell(what, got, want);
        }
    }

    private void tell(String what, String got, String want) {
        wrong++;
        System.out.println(name + ": " + what + " answered " + got + ", due is " + want
                + (words.isEmpty() ? "" : " (\"" + words + "\")"));
    }

    /** What place(i) answers, or that it throws. */
    static String placeOf(SideWork work, int i) {
        try {
            return String.valueOf(work.place(i));
        } catch (ArrayIndexOutOfBoundsException e) {
            return "throws";
        }
    }

    void duePlace(String what, SideWork work, int i, String want) {
        due(what + ": place(" + i + ")", placeOf(work, i), want);
    }

    /** All places of what the latest RUN gave, from the first one. */
    void duePlaces(String what, SideWork work, int... want) {
        due(what + ": gave()", work.gave(), want.length);
        for (int i = 0; i < want.length; i++) {
            duePlace(what, work, i, String.valueOf(want[i]));
        }
    }

    /** ended(0) to ended(4). */
    void dueEnd(String what, SideWork work, int... want) {
        for (int i = 0; i < want.length; i++) {
            due(what + ": ended(" + i + ")", work.ended(i), want[i]);
        }
    }

    /** The ACT FAILS, or ends the RUN, by itself, not by a part of it; 0: it does not. */
    void fails(String what, Builder b, int act, int failure) {
        due(what + " FAILS", b.failureOf(act), failure);
        due(what + ": its code", b.work.ended(1), failure >= Builder.SPENT ? 0 : failure);
        due(what + ": at", b.work.ended(2), failure == 0 ? -1 : act);
        due(what + ": FAILURES", b.work.ended(4), failure == 0 || failure >= Builder.SPENT ? 0 : 1);
    }

    void finish() {
        System.out.println(name + ": " + (sentences == 0 ? "" : sentences + " sentences, ")
                + asked + " answers, " + wrong + " not as due");
        if (wrong != 0) {
            System.exit(1);
        }
    }
}
