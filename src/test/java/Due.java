import java.util.function.IntSupplier;

/** Compares answers with what is due, and ends a test with exit code 1 if one was wrong. */
final class Due {
    private int wrong = 0;
    private int looked = 0;

    void is(String call, long want, long got) {
        looked++;
        if (got != want) {
            wrong++;
            if (wrong <= 40) {
                System.out.println(call + " answered " + got + ", due is " + want);
            }
        }
    }

    void is(String call, long want, IntSupplier asked) {
        try {
            is(call, want, asked.getAsInt());
        } catch (RuntimeException thrown) {
            wrong++;
            System.out.println(call + " threw " + thrown + ", due is " + want);
        }
    }

    int wrong() {
        return wrong;
    }

    void end(String test) {
        System.out.println(test + ": " + looked + " answers looked at, " + wrong + " wrong");
        if (wrong != 0) {
            System.exit(1);
        }
    }

    static void write(LoadWeights x, String text) {
        for (int i = 0; i < text.length(); i++) {
            x.write(text.charAt(i));
        }
    }

    static LoadWeights laid(String text) {
        LoadWeights x = new LoadWeights();
        write(x, text);
        if (x.lay() < 0) {
            throw new IllegalStateException("not laid: " + text);
        }
        return x;
    }
}
