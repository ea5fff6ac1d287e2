import java.util.Random;

/** Random TEXTS, most of them spoiled somewhere: FAULT and LAID compared with the Oracle's. The seed is fixed. */
public final class TextRunsTest {
    private static final int TEXTS = 20000;
    private static final Random random = new Random(4711);

    public static void main(String[] args) {
        Due due = new Due();
        int faults = 0;
        for (int i = 0; i < TEXTS; i++) {
            String text = text();
            LoadWeights x = new LoadWeights();
            Oracle o = new Oracle();
            for (char c : text.toCharArray()) {
                due.is("write of " + text, o.write(c), x.write(c));
            }
            int want = o.fault();
            faults += want == Oracle.NONE ? 0 : 1;
            due.is("fault() of " + text, want, x.fault());
            due.is("lay() of " + text, o.lay(), x.lay());
            for (int what = 0; what <= 10; what++) {
                due.is("count(" + what + ") of " + text, o.count(what), x.count(what));
            }
        }
        due.is("some TEXTS have a FAULT and some none", 1, faults > TEXTS / 4 && faults < TEXTS * 3 / 4 ? 1 : 0);
        due.end("TextRunsTest");
    }

    private static String text() {
        StringBuilder text = new StringBuilder();
        for (int n = random.nextInt(3); n > 0; n--) {
            text.append('n').append(2 + random.nextInt(6)).append(';');
        }
        boolean many = random.nextInt(3) == 0;
        for (int l = random.nextInt(many ? 14 : 4); l > 0; l--) {
            text.append('l');
            numbers(text, 4);
        }
        for (int d = random.nextInt(many ? 8 : 3); d > 0; d--) {
            text.append('d');
            numbers(text, 3);
        }
        for (int i = random.nextInt(3); i > 0 && text.length() > 0; i--) {
            Spoil.one(text, random);
        }
        return text.toString();
    }

    private static void numbers(StringBuilder text, int many) {
        int a = random.nextInt(2);
        text.append(a).append(',').append(1 - a);
        for (int i = 2; i < many; i++) {
            text.append(',').append(random.nextInt(40) == 0 ? random.nextInt(120) : 1 + random.nextInt(i == 3 ? 20 : 99));
        }
        text.append(';');
    }
}
