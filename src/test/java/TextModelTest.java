import java.util.Random;

/** Texts, most of them nearly right, read by avenue() and by PlainReader. */
public final class TextModelTest extends Checks {
    private static final String[] PIECES = {"walker", "lover", "soldier", "thief", "blind", "envoy", "at", "back",
        "pace", "round", "trams", "quiet", ";", ";", " ", "  ", "0", "9", "10", "99", "100", "007", "x", "?", "sign"};

    private final Random random;

    private TextModelTest(int seed) {
        random = new Random(seed);
    }

    public static void main(String[] args) {
        run(TextModelTest.class);
    }

    static void textsAsTheyShouldBe() {
        sentence(24, "whose ITEMS come to what there is, and empty then: how many ITEMS");
        new TextModelTest(1).read(4000, 0);
    }

    static void textsWithAPieceAmiss() {
        sentence(24, "With a FAULT: -1 less its place");
        new TextModelTest(2).read(8000, 1);
    }

    static void textsWithSeveralPiecesAmiss() {
        sentence(24, "With a FAULT: -1 less its place");
        new TextModelTest(3).read(4000, 4);
    }

    private void read(int texts, int amiss) {
        for (int i = 0; i < texts; i++) {
            String text = text();
            for (int k = 0; k < amiss; k++) {
                text = otherwise(text);
            }
            text = text.length() > 120 ? text.substring(0, 120) : text;
            BackAvenue x = new BackAvenue();
            int walkers = random.nextInt(9);
            for (int w = 0; w < walkers; w++) {
                x.walker(0, 1);
            }
            feed(x, text);
            due("avenue() of '" + text + "' with " + walkers, x.avenue(), PlainReader.answer(text, walkers));
        }
    }

    private String text() {
        StringBuilder text = new StringBuilder(item());
        for (int items = random.nextInt(5); items > 0; items--) {
            text.append(blanks(0)).append(';').append(blanks(0)).append(item());
        }
        return text.toString();
    }

    private String item() {
        if (random.nextInt(4) == 0) {
            return random.nextBoolean() ? "trams" : "quiet";
        }
        String item = PIECES[random.nextInt(6)] + blanks(1) + "at" + blanks(0) + random.nextInt(100) + blanks(0);
        item += random.nextInt(3) == 0 ? "back" + blanks(1) : "";
        item += random.nextInt(3) == 0 ? "pace" + blanks(0) + random.nextInt(10) + blanks(0) : "";
        return item + (random.nextInt(3) == 0 ? "round" : "");
    }

    private String blanks(int least) {
        return " ".repeat(least + (random.nextInt(4) == 0 ? random.nextInt(3) : 0));
    }

    /** A piece put in, put for another stretch, or a stretch left out. */
    private String otherwise(String text) {
        int from = random.nextInt(text.length() + 1);
        int to = Math.min(text.length(), from + random.nextInt(6));
        String piece = random.nextInt(3) == 0 ? "" : PIECES[random.nextInt(PIECES.length)];
        return text.substring(0, from) + piece + text.substring(random.nextBoolean() ? to : from);
    }
}
