import java.nio.charset.StandardCharsets;

/** Counts answers that are not as due; tells texts to an object. */
final class Check {
    private static int wrong = 0;
    private static int asked = 0;

    private Check() {
    }

    static void due(String call, long got, long want) {
        asked++;
        if (got != want) {
            wrong++;
            System.out.println(call + " answered " + got + ", due is " + want);
        }
    }

    static void due(String call, boolean got, boolean want) {
        due(call, got ? 1 : 0, want ? 1 : 0);
    }

    static void end() {
        System.out.println(asked + " answers asked for, " + wrong + " not as due");
        if (wrong != 0) {
            System.exit(1);
        }
    }

    static int four(byte[] bytes, int from) {
        int number = 0;
        for (int i = from; i < from + 4; i++) {
            number = number << 8 | (i < bytes.length ? bytes[i] & 255 : 32);
        }
        return number;
    }

    /** Feeds a text with blanks behind it, twenty bytes a call. */
    static void feed(SkyChairs x, String text) {
        byte[] bytes = text.getBytes(StandardCharsets.ISO_8859_1);
        for (int i = 0; i < bytes.length; i += 20) {
            x.feed(four(bytes, i), four(bytes, i + 4), four(bytes, i + 8), four(bytes, i + 12), four(bytes, i + 16));
        }
    }

    static int tell(SkyChairs x, String text) {
        feed(x, text);
        return x.text(text.length());
    }

    static SkyChairs told(String text) {
        SkyChairs x = new SkyChairs();
        if (tell(x, text) < 0) {
            due("text of " + text + " has fault " + x.fault(0) + " at " + x.fault(1), 1, 0);
        }
        return x;
    }

    static void fault(String text, int fault, int at) {
        SkyChairs x = new SkyChairs();
        due("text of " + text, tell(x, text), SkyChairs.NONE);
        due("fault(0) of " + text, x.fault(0), fault);
        due("fault(1) of " + text, x.fault(1), at);
    }

    static int letters(String name) {
        int letters = 0;
        for (int i = 0; i < 6; i++) {
            letters = letters << 5 | (i < name.length() ? name.charAt(i) - 96 : 0);
        }
        return letters;
    }
}
