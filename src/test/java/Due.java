import java.nio.charset.StandardCharsets;

/** What all tests share: answers that are due, texts put on the tape. */
final class Due {
    private static int wrong = 0;
    private static int asked = 0;

    private Due() {
    }

    static void is(String what, long got, long want) {
        asked++;
        if (got != want) {
            wrong++;
            System.out.println(what + " answered " + got + ", due is " + want);
        }
    }

    static void is(String what, boolean got, boolean want) {
        is(what, got ? 1 : 0, want ? 1 : 0);
    }

    static void end() {
        System.out.println(wrong == 0 ? asked + " answers are as due" : wrong + " answers are not as due");
        System.exit(wrong == 0 ? 0 : 1);
    }

    /** The tape has these bytes alone. */
    static void tape(SilentCourt court, byte[] bytes) {
        court.end(0);
        for (int at = 0; at < bytes.length; at += 20) {
            int[] five = new int[5];
            for (int k = 0; k < 20; k++) {
                int octet = at + k < bytes.length ? bytes[at + k] & 255 : 0;
                five[k / 4] = five[k / 4] << 8 | octet;
            }
            if (court.feed(five[0], five[1], five[2], five[3], five[4]) == SilentCourt.NONE) {
                throw new IllegalStateException("the tape is full");
            }
        }
        if (!court.end(bytes.length)) {
            throw new IllegalStateException("the tape is too short");
        }
    }

    static void tape(SilentCourt court, String text) {
        tape(court, text.getBytes(StandardCharsets.ISO_8859_1));
    }

    static int hall(SilentCourt court, String text) {
        tape(court, text);
        return court.hall();
    }

    static long ask(SilentCourt court, String text) {
        tape(court, text);
        return court.ask();
    }

    static boolean on(SilentCourt court, int... octets) {
        byte[] bytes = new byte[octets.length];
        for (int k = 0; k < octets.length; k++) {
            bytes[k] = (byte) octets[k];
        }
        tape(court, bytes);
        return court.on();
    }

    static SilentCourt court(String text) {
        SilentCourt court = new SilentCourt();
        if (hall(court, text) == SilentCourt.NONE) {
            throw new IllegalStateException("fault " + court.fault(0) + " at " + court.fault(1) + ": " + text);
        }
        return court;
    }

    /** The bytes of an image with its last byte put as it must be. */
    static int[] sealed(int... ahead) {
        int[] all = java.util.Arrays.copyOf(ahead, ahead.length + 1);
        int check = 229;
        for (int octet : ahead) {
            check = (3 * check + octet) % 251;
        }
        all[ahead.length] = check;
        return all;
    }
}
