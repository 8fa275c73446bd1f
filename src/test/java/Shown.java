/** All that the face shows of an object, as one text: what two objects in the same state have alike. */
final class Shown {
    private Shown() {
    }

    static String of(SideWork work) {
        StringBuilder all = new StringBuilder();
        for (int what = 0; what < 3; what++) {
            all.append(" count ").append(work.count(what));
        }
        for (int act = 0; act < work.count(0); act++) {
            all.append(" ACT");
            for (int what = 0; what < 4; what++) {
                all.append(' ').append(work.told(act, what));
            }
        }
        for (int what = 0; what < 5; what++) {
            all.append(" ended ").append(work.ended(what));
        }
        all.append(" gave ").append(work.gave());
        for (int i = -1; i < 4; i++) {
            all.append(" place ").append(Checks.placeOf(work, i));
        }
        for (int b = 0; b < 8; b++) {
            all.append(" box ").append(work.box(b)).append(' ').append(work.boxed(b)).append(' ').append(work.same(b, 3));
        }
        int told = work.count(1);
        for (int i = 0; i <= told; i++) {
            all.append(" out ").append(work.out(i));
        }
        return all.toString();
    }
}
