/** Counts answers that are not as due, prints them, and ends the test. */
final class Check {
    interface Deed {
        void act();
    }

    private final String name;
    private String sentence = "";
    private int asked;
    private int wrong;

    Check(String name) {
        this.name = name;
    }

    /** The sentence by which the answers behind this are due: of a promise, or (0) of what stands ahead of all. */
    void says(int promise, String words) {
        sentence = "[" + promise + ": " + words + "] ";
        isTrue("the document says so", Doc.says(promise, words));
    }

    void same(String what, long got, long due) {
        asked++;
        if (got != due) {
            miss(what + " answered " + got + ", due is " + due);
        }
    }

    void same(String what, String got, String due) {
        asked++;
        if (!got.equals(due)) {
            miss(what + " answered " + got + ", due is " + due);
        }
    }

    private void miss(String line) {
        wrong++;
        if (wrong <= 40) {
            System.out.println(sentence + line);
        }
    }

    void isTrue(String what, boolean got) {
        same(what, got ? 1 : 0, 1);
    }

    void isFalse(String what, boolean got) {
        same(what, got ? 1 : 0, 0);
    }

    /** The class itself counts: an ArrayIndexOutOfBoundsException is no IndexOutOfBoundsException here. */
    void refuses(String what, Class<?> due, Deed deed) {
        asked++;
        Class<?> got = null;
        try {
            deed.act();
        } catch (RuntimeException e) {
            got = e.getClass();
        }
        if (got != due) {
            miss(what + " threw " + (got == null ? "nothing" : got.getSimpleName())
                    + ", due is " + due.getSimpleName());
        }
    }

    void noIndex(String what, Deed deed) {
        refuses(what, IndexOutOfBoundsException.class, deed);
    }

    void noArgument(String what, Deed deed) {
        refuses(what, IllegalArgumentException.class, deed);
    }

    void noState(String what, Deed deed) {
        refuses(what, IllegalStateException.class, deed);
    }

    void noElement(String what, Deed deed) {
        refuses(what, java.util.NoSuchElementException.class, deed);
    }

    void finish() {
        System.out.println(name + ": " + asked + " answers, " + wrong + " not as due");
        if (wrong != 0 || asked == 0) {
            System.exit(1);
        }
    }

    /** Puts bytes on the tape, whose length must be a tape's at most, by as many feeds as it takes. */
    static void feed(AbsentRings x, int[] bytes) {
        for (int from = 0; from < bytes.length; from += 20) {
            int[] five = new int[5];
            for (int i = 0; i < 20; i++) {
                int b = from + i < bytes.length ? bytes[from + i] : 0;
                five[i / 4] = five[i / 4] << 8 | b & 255;
            }
            x.feed(five[0], five[1], five[2], five[3], five[4]);
        }
        x.end(bytes.length);
    }

    static AbsentRings tape(AbsentRings x, int... bytes) {
        x.end(0);
        feed(x, bytes);
        return x;
    }

    static AbsentRings text(AbsentRings x, String text) {
        return tape(x, text.chars().toArray());
    }

    static AbsentRings told(String... texts) {
        AbsentRings x = new AbsentRings();
        for (String text : texts) {
            text(x, text).house();
        }
        return x;
    }

    static AbsentRings law(AbsentRings x, String text) {
        text(x, text).law();
        return x;
    }
}
