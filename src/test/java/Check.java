import java.nio.charset.StandardCharsets;

/** What the tests share: telling an answer that is not due, and putting texts on a tape. */
final class Check {
    private int wrong = 0;
    private int asked = 0;
    private String about = "";

    /** What the answers asked for from now on are of; told with each that is not due. */
    void about(String what) {
        about = what + ": ";
    }

    void due(String call, long got, long want) {
        asked++;
        if (got != want) {
            wrong++;
            System.out.println(about + call + " answered " + got + ", due is " + want);
        }
    }

    int asked() {
        return asked;
    }

    void isTrue(String what, boolean so) {
        due(what, so ? 1 : 0, 1);
    }

    void finish() {
        System.out.println(asked + " answers asked for, " + wrong + " not as due");
        if (wrong != 0) {
            System.exit(1);
        }
    }

    /** Five numbers a feed() takes, for the twenty bytes from a place on; zeros behind the end. */
    static int[] twenty(byte[] bytes, int from) {
        int[] numbers = new int[5];
        for (int i = 0; i < 20; i++) {
            int sign = from + i < bytes.length ? bytes[from + i] & 255 : 0;
            numbers[i / 4] |= sign << (24 - 8 * (i % 4));
        }
        return numbers;
    }

    static void write(BeanStreet x, byte[] bytes) {
        int before = x.count(10);
        for (int from = 0; from < bytes.length; from += 20) {
            int[] n = twenty(bytes, from);
            x.feed(n[0], n[1], n[2], n[3], n[4]);
        }
        x.end(before + bytes.length);
    }

    static void write(BeanStreet x, String text) {
        write(x, text.getBytes(StandardCharsets.ISO_8859_1));
    }

    static int law(BeanStreet x, String text) {
        write(x, text);
        return x.law();
    }

    static int row(BeanStreet x, int... colours) {
        byte[] bytes = new byte[colours.length];
        for (int i = 0; i < colours.length; i++) {
            bytes[i] = (byte) colours[i];
        }
        write(x, bytes);
        return x.row();
    }

    static BeanStreet withRow(int... colours) {
        BeanStreet x = new BeanStreet();
        row(x, colours);
        return x;
    }

    /** A city of a row's beans with a law in force. */
    static BeanStreet lawful(String law, int... colours) {
        BeanStreet x = withRow(colours);
        law(x, law);
        x.force(0);
        return x;
    }
}
