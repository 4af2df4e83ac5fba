/** The digest as the document defines it, from the other answers. */
final class Digests {
    private Digests() {
    }

    static long of(BarForger x, int textLength, int saved) {
        return withoutSaved(x, textLength) + saved;
    }

    static long withoutSaved(BarForger x, int textLength) {
        long h = 31 * 3547L + textLength;
        for (int what = 0; what <= 11; what++) {
            h = 31 * h + x.value(what);
        }
        for (int part = 0; part < x.value(0); part++) {
            for (int what = 0; what <= 8; what++) {
                h = 31 * h + x.part(part, what);
            }
        }
        for (int step = 0; step < x.value(9); step++) {
            for (int what = 0; what <= 3; what++) {
                h = 31 * h + x.step(step, what);
            }
        }
        return 31 * (31 * h + x.heatsToSteps());
    }
}
