import java.nio.charset.StandardCharsets;
import java.util.Arrays;

/** What the project's tests share: the count of wrong answers, and how a text becomes the numbers of feed. */
final class Due {
    private static int asked = 0;
    private static int wrong = 0;
    private static String subject = "";

    private Due() {
    }

    /** What the next answers are about: it is told with the first wrong one. */
    static void about(String what) {
        subject = what;
    }

    static void due(String call, long got, long want) {
        asked++;
        if (got != want) {
            wrong++;
            if (wrong <= 40) {
                System.out.print(subject.isEmpty() ? "" : subject + ":\n");
                System.out.println(call + " answered " + got + ", due is " + want);
                subject = "";
            }
        }
    }

    /** Ends the test: with exit code 1 if an answer was wrong. */
    static void end() {
        System.out.println(asked + " answers, " + wrong + " wrong");
        if (wrong != 0 || asked == 0) {
            System.exit(1);
        }
    }

    static byte[] bytesOf(String text) {
        return text.getBytes(StandardCharsets.ISO_8859_1);
    }

    /** The five numbers of feed for each twenty bytes; blanks fill the last ones. */
    static int[][] feedsOf(byte[] bytes) {
        int[][] feeds = new int[(bytes.length + 19) / 20][5];
        byte[] padded = Arrays.copyOf(bytes, feeds.length * 20);
        Arrays.fill(padded, bytes.length, padded.length, (byte) 32);
        for (int i = 0; i < padded.length; i++) {
            feeds[i / 20][i % 20 / 4] |= (padded[i] & 255) << 24 - i % 4 * 8;
        }
        return feeds;
    }
}
