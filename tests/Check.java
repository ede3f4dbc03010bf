/** What the tests share: answers compared, exceptions awaited, and the exit code. */
final class Check {
    /** A call that may throw. */
    interface Call {
        Object run();
    }

    private final String title;
    private int held = 0;
    private int wrong = 0;

    Check(String title) {
        this.title = title;
    }

    void same(String what, long got, long due) {
        told(got == due, what + " answered " + got + ", due is " + due);
    }

    void sameBits(String what, double got, double due) {
        told(Double.doubleToRawLongBits(got) == Double.doubleToRawLongBits(due),
                what + " answered " + got + ", due is " + due);
    }

    void holds(String what, boolean holds) {
        told(holds, what + " does not hold");
    }

    /** The call throws exactly this exception, and changes nothing that the digest sees. */
    void fails(String what, RollingFob x, Class<? extends RuntimeException> due, Call call) {
        long before = x.digest();
        String got = "an answer";
        try {
            got = "the answer " + call.run();
        } catch (RuntimeException e) {
            got = e.getClass().getSimpleName();
        }
        told(got.equals(due.getSimpleName()), what + ": " + got + ", due is " + due.getSimpleName());
        told(x.digest() == before, what + ": the digest has changed");
    }

    void index(String what, RollingFob x, Call call) {
        fails(what, x, IndexOutOfBoundsException.class, call);
    }

    void argument(String what, RollingFob x, Call call) {
        fails(what, x, IllegalArgumentException.class, call);
    }

    void state(String what, RollingFob x, Call call) {
        fails(what, x, IllegalStateException.class, call);
    }

    void end() {
        System.out.println(title + ": " + held + " held, " + wrong + " did not");
        if (wrong != 0 || held == 0) {
            System.exit(1);
        }
    }

    /** Writes a text into the buffer. */
    static void write(RollingFob x, String text) {
        x.clearBuffer();
        for (char c : text.toCharArray()) {
            x.append(c);
        }
    }

    /** Writes a text into the buffer and plays it. */
    static int play(RollingFob x, String text) {
        write(x, text);
        return x.play();
    }

    /** The number of a secret and a counter, as the document says it. */
    static int number(long secret, long counter) {
        long mixed = (counter * 40503L + secret * 7919L) ^ (secret * 31L + counter);
        return (int) (mixed % 65536L);
    }

    private void told(boolean holds, String text) {
        if (holds) {
            held++;
        } else {
            wrong++;
            System.out.println(title + ": " + text);
        }
    }
}
