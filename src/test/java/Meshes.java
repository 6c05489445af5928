import java.nio.charset.StandardCharsets;

/** Makes objects out of texts. */
final class Meshes {
    /** 0 - 1 - 2 - 3 */
    static final String CHAIN = "nodes 4;air 0 1;air 1 2;air 2 3;";
    /** 1, 2, 3 around 0; behind 1 is 4, behind 2 are 4 and 5, behind 3 are 5 and 6. */
    static final String FAN = "nodes 7;air 0 1;air 0 2;air 0 3;air 1 4;air 2 4;air 2 5;air 3 5;air 3 6;";

    private Meshes() {
    }

    static int word(byte[] bytes, int at) {
        int word = 0;
        for (int i = at; i < at + 4; i++) {
            word = word << 8 | (i < bytes.length ? bytes[i] & 255 : 0);
        }
        return word;
    }

    static int feed(ChosenRelays x, String text) {
        byte[] bytes = text.getBytes(StandardCharsets.ISO_8859_1);
        int taped = 0;
        for (int i = 0; i < bytes.length; i += 20) {
            taped = x.feed(word(bytes, i), word(bytes, i + 4), word(bytes, i + 8), word(bytes, i + 12),
                word(bytes, i + 16));
        }
        return taped;
    }

    /** The tape has to be empty. */
    static int load(ChosenRelays x, String text) {
        feed(x, text);
        return x.load(text.length());
    }

    static ChosenRelays of(String text) {
        ChosenRelays x = new ChosenRelays();
        load(x, text);
        return x;
    }

    static ChosenRelays of(String text, int ticks) {
        ChosenRelays x = of(text);
        x.tick(ticks);
        return x;
    }
}
