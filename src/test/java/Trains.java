/** Trains for the tests, told by their texts. */
final class Trains {
    private static final int NONE = SnoreCars.NONE;

    private Trains() {
    }

    static SnoreCars feed(SnoreCars x, String text) {
        for (int i = 0; i < text.length(); i++) {
            x.feed(text.charAt(i));
        }
        return x;
    }

    /** An object whose train is told by the text, which has no fault. */
    static SnoreCars of(String text) {
        SnoreCars x = feed(new SnoreCars(), text);
        int cars = x.train();
        if (cars < 0) {
            throw new IllegalStateException("train() of '" + text + "' answered " + cars);
        }
        return x;
    }

    /** Puts sleeper by sleeper into the cars that are told; NONE leaves one where it is. */
    static SnoreCars lying(SnoreCars x, int... cars) {
        for (int s = 0; s < cars.length; s++) {
            if (cars[s] != NONE) {
                x.put(s, cars[s]);
            }
        }
        return x;
    }

    /** As many sleepers that never snore. */
    static String sleepers(int many) {
        return "s0 0 0 0 0;".repeat(many);
    }
}
