import java.nio.charset.StandardCharsets;
import java.util.Arrays;

/** What the project's tests share: the count of wrong answers, and texts put on the tape. */
final class Due {
    private static int asked = 0;
    private static int wrong = 0;
    private static String subject = "";

    private Due() {
    }

    /** What the next answers are about: it is told with the first wrong one. */
    static void about(String what) {
        subject = what;
    }

    static void due(String call, long got, long want) {
        asked++;
        if (got != want) {
            wrong++;
            if (wrong <= 40) {
                System.out.print(subject.isEmpty() ? "" : subject + ":\n");
                System.out.println(call + " answered " + got + ", due is " + want);
                subject = "";
            }
        }
    }

    /** Ends the test: with exit code 1 if an answer was wrong. */
    static void end() {
        System.out.println(asked + " answers, " + wrong + " wrong");
        if (wrong != 0 || asked == 0) {
            System.exit(1);
        }
    }

    static byte[] bytesOf(String text) {
        return text.getBytes(StandardCharsets.ISO_8859_1);
    }

    /** The five numbers of feed for each twenty bytes; blanks fill the last ones. */
    static int[][] feedsOf(byte[] bytes) {
        int[][] feeds = new int[(bytes.length + 19) / 20][5];
        byte[] padded = Arrays.copyOf(bytes, feeds.length * 20);
        Arrays.fill(padded, bytes.length, padded.length, (byte) 32);
        for (int i = 0; i < padded.length; i++) {
            feeds[i / 20][i % 20 / 4] |= (padded[i] & 255) << 24 - i % 4 * 8;
        }
        return feeds;
    }

    /** Puts a text alone on the tape. */
    static void tape(LayerShop shop, String text) {
        byte[] bytes = bytesOf(text);
        shop.cut(0);
        for (int[] f : feedsOf(bytes)) {
            shop.feed(f[0], f[1], f[2], f[3], f[4]);
        }
        due("cut(" + bytes.length + ") of [" + text + "]", shop.cut(bytes.length), (20 - bytes.length % 20) % 20);
    }

    /** Runs a text and looks at the answers of run() and place(). */
    static void run(LayerShop shop, String text, int answer, int place) {
        tape(shop, text);
        due("run() of [" + text + "]", shop.run(), answer);
        due("place() after [" + text + "]", shop.place(), place);
    }

    static LayerShop shopAfter(String text) {
        LayerShop shop = new LayerShop();
        tape(shop, text);
        due("run() of [" + text + "] has no fault", shop.run() >= 0 ? 1 : 0, 1);
        return shop;
    }
}
