import java.util.Random;

/** Spoils a TEXT a little, so that most likely it has a FAULT. */
final class Spoil {
    private static final String LETTERS = ";,nld0123456789 x";
    private static final String[] ITEMS = {"n3;", "l0,1,5,1;", "d1,0,5;"};

    private Spoil() {
    }

    /** One letter is another one, gone or new, or there is an ITEM more, which may be one too many. */
    static void one(StringBuilder text, Random random) {
        int at = random.nextInt(text.length());
        char letter = LETTERS.charAt(random.nextInt(LETTERS.length()));
        switch (random.nextInt(4)) {
            case 0 -> text.setCharAt(at, letter);
            case 1 -> text.deleteCharAt(at);
            case 2 -> text.insert(at, letter);
            default -> text.append(ITEMS[random.nextInt(ITEMS.length)]);
        }
    }
}
