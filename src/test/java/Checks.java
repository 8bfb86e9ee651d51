import java.nio.charset.StandardCharsets;

/** What the tests share: texts put on the tape, answers compared, and the exit code. */
final class Checks {
    private static int asked = 0;
    private static int wrong = 0;

    private Checks() {
    }

    static void is(String call, long got, long due) {
        asked++;
        if (got != due) {
            wrong++;
            System.out.println(call + " answered " + got + ", due is " + due);
        }
    }

    static void is(String call, boolean got, boolean due) {
        is(call, got ? 1 : 0, due ? 1 : 0);
    }

    static boolean anyWrong() {
        return wrong != 0;
    }

    static void finish() {
        System.out.println(wrong == 0 ? asked + " answers are as due" : wrong + " of " + asked + " answers are not as due");
        if (wrong != 0) {
            System.exit(1);
        }
    }

    /** Five numbers of four bytes each, from twenty bytes of a text with blanks behind it. */
    static int[] numbers(byte[] text, int from) {
        int[] five = new int[5];
        for (int i = 0; i < 20; i++) {
            int b = from + i < text.length ? text[from + i] & 255 : ' ';
            five[i / 4] = five[i / 4] << 8 | b;
        }
        return five;
    }

    /** Feeds the text and answers how many bytes it has. */
    static int put(KingdomSurvey x, String text) {
        byte[] bytes = text.getBytes(StandardCharsets.ISO_8859_1);
        for (int from = 0; from < bytes.length; from += 20) {
            int[] f = numbers(bytes, from);
            x.feed(f[0], f[1], f[2], f[3], f[4]);
        }
        return bytes.length;
    }

    static int village(KingdomSurvey x, int hundred, int hides, String name) {
        return x.village(hundred, hides, put(x, name));
    }

    static int lord(KingdomSurvey x, int overlord, String name) {
        return x.lord(overlord, put(x, name));
    }

    static int sworn(KingdomSurvey x, int hundred, String text) {
        return x.sworn(hundred, put(x, text));
    }

    static int told(KingdomSurvey x, int lord, String text) {
        return x.told(lord, put(x, text));
    }

    static int find(KingdomSurvey x, String name, boolean lord) {
        return x.find(put(x, name), lord);
    }

    /** The same text so many times, with semicolons between. */
    static String times(int many, String entry) {
        StringBuilder text = new StringBuilder();
        for (int i = 0; i < many; i++) {
            text.append(i == 0 ? "" : ";").append(entry);
        }
        return text.toString();
    }
}
