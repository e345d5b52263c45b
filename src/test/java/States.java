/** All that can be read of an object that does not change it, as one text (some 250 calls). */
final class States {
    private States() {
    }

    static String of(WidowDeeds x) {
        StringBuilder out = new StringBuilder();
        for (int what = 0; what < 38; what++) {
            out.append(x.count(what)).append(' ');
        }
        for (int d = 0; d < x.count(0); d++) {
            for (int what = 0; what < 5; what++) {
                out.append(x.deedIs(d, what)).append(' ');
            }
            for (int p = 0; p < 10; p++) {
                out.append(x.known(p, d)).append(' ');
            }
        }
        for (int s = 0; s < 8; s++) {
            for (int day = 0; day < 60; day += 6) {
                out.append(x.holder(s, day, 0)).append(' ').append(x.burdens(s, day)).append(' ');
            }
        }
        return out.append(x.widow(0)).append(' ').append(x.widow(1)).toString();
    }
}
