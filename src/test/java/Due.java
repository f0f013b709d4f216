/** Counts the answers of one test and prints those that are not the ones due. */
final class Due {
    private final String test;
    private int asked;
    private int wrong;

    Due(String test) {
        this.test = test;
    }

    void is(String call, long got, long want) {
        asked++;
        if (got != want) {
            wrong++;
            System.out.println(test + ": " + call + " answered " + got + ", due is " + want);
        }
    }

    void holds(String what, boolean so) {
        is(what, so ? 1 : 0, 1);
    }

    void close() {
        System.out.println(test + ": " + asked + " answers, " + wrong + " wrong");
        if (wrong != 0) {
            System.exit(1);
        }
    }

    static void feedAll(EmberSpuds fire, String text) {
        for (int i = 0; i < text.length(); i++) {
            fire.feed(text.charAt(i));
        }
    }

    static int tell(EmberSpuds fire, String text) {
        feedAll(fire, text);
        return fire.text();
    }

    /** A new object that a text without a fault has told. */
    static EmberSpuds told(String text) {
        EmberSpuds fire = new EmberSpuds();
        if (tell(fire, text) < 0) {
            throw new IllegalArgumentException(text);
        }
        return fire;
    }
}
