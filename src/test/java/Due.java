import java.io.IOException;
import java.nio.charset.StandardCharsets;
import java.nio.file.Files;
import java.nio.file.Path;
import java.util.ArrayList;
import java.util.List;
import java.util.Map;
import java.util.Set;
import java.util.TreeMap;
import java.util.TreeSet;

/** What all tests share: answers that are due, texts put on the tape, sentences of the document. */
final class Due {
    private static final Path DOCUMENT = Path.of("../shared/DOC.md");
    private static int wrong = 0;
    private static int asked = 0;
    private static int askedAhead = 0;
    private static String held = "";
    private static Map<String, String> document = null;
    private static final Set<String> NAMED = new TreeSet<>();

    private Due() {
    }

    static void is(String what, long got, long want) {
        asked++;
        if (got != want) {
            wrong++;
            System.out.println(held + what + " answered " + got + ", due is " + want);
        }
    }

    static void is(String what, boolean got, boolean want) {
        is(what, got ? 1 : 0, want ? 1 : 0);
    }

    /**
     * What is due from here on is due by this sentence. It must stand in that part of the document ("Promise 7", "Term II"),
     * so that no test holds a sentence which nobody has said; without the document at hand that is not looked at.
     */
    static void by(String part, String sentence) {
        allHold();
        held = "";
        NAMED.add(part);
        if (Files.isReadable(DOCUMENT)) {
            is(part + " says: " + sentence, partsOfDocument().getOrDefault(part, "").contains(sentence), true);
        }
        held = part + ", \"" + sentence + "\": ";
        askedAhead = asked;
    }

    /** A sentence for which nothing was asked is not held by any test. */
    private static void allHold() {
        if (!held.isEmpty()) {
            is("is tested", asked > askedAhead, true);
        }
    }

    static void named(String... parts) {
        allHold();
        held = "";
        for (String part : parts) {
            is(part + " is named by a test", NAMED.contains(part), true);
        }
    }

    private static Map<String, String> partsOfDocument() {
        if (document == null) {
            document = new TreeMap<>();
            String part = "";
            for (String line : linesOfDocument()) {
                if (line.startsWith("## ")) {
                    part = line.substring(3).split(":")[0];
                } else if (line.matches("(I|II|III|IV)\\. .*")) {
                    part = "Term " + line.split("\\.")[0];
                }
                document.merge(part, line + "\n", String::concat);
            }
        }
        return document;
    }

    private static List<String> linesOfDocument() {
        try {
            return Files.readAllLines(DOCUMENT);
        } catch (IOException e) {
            return new ArrayList<>();
        }
    }

    static void end() {
        System.out.println(wrong == 0 ? asked + " answers are as due" : wrong + " answers are not as due");
        System.exit(wrong == 0 ? 0 : 1);
    }

    /** The tape has these bytes alone. */
    static void tape(SilentCourt court, byte[] bytes) {
        court.end(0);
        for (int at = 0; at < bytes.length; at += 20) {
            int[] five = new int[5];
            for (int k = 0; k < 20; k++) {
                int octet = at + k < bytes.length ? bytes[at + k] & 255 : 0;
                five[k / 4] = five[k / 4] << 8 | octet;
            }
            if (court.feed(five[0], five[1], five[2], five[3], five[4]) == SilentCourt.NONE) {
                throw new IllegalStateException("the tape is full");
            }
        }
        if (!court.end(bytes.length)) {
            throw new IllegalStateException("the tape is too short");
        }
    }

    static void tape(SilentCourt court, String text) {
        tape(court, text.getBytes(StandardCharsets.ISO_8859_1));
    }

    static int hall(SilentCourt court, String text) {
        tape(court, text);
        return court.hall();
    }

    static long ask(SilentCourt court, String text) {
        tape(court, text);
        return court.ask();
    }

    static boolean on(SilentCourt court, int... octets) {
        byte[] bytes = new byte[octets.length];
        for (int k = 0; k < octets.length; k++) {
            bytes[k] = (byte) octets[k];
        }
        tape(court, bytes);
        return court.on();
    }

    static SilentCourt court(String text) {
        SilentCourt court = new SilentCourt();
        if (hall(court, text) == SilentCourt.NONE) {
            throw new IllegalStateException("fault " + court.fault(0) + " at " + court.fault(1) + ": " + text);
        }
        return court;
    }

    /** A ^ in a text stands ahead of the place of its FAULT and is no part of it. */
    static void hallHas(int fault, String marked) {
        SilentCourt court = new SilentCourt();
        int got = hall(court, marked.replace("^", ""));
        is("fault of " + marked, court.fault(0), fault);
        is("place of " + marked, court.fault(1), marked.indexOf('^'));
        is("refused " + marked, court.status(1), fault == 0 ? 0 : 1);
        is("hall of " + marked, got == SilentCourt.NONE, fault != 0);
    }

    static void questionHas(int fault, String marked, String hall) {
        SilentCourt court = court(hall);
        long got = ask(court, marked.replace("^", ""));
        is("fault of " + marked, court.fault(0), fault);
        is("place of " + marked, court.fault(1), marked.indexOf('^'));
        is("answer of " + marked, got == SilentCourt.NOTHING, fault != 0);
    }

    /** The bytes of an image with its last byte put as it must be. */
    static int[] sealed(int... ahead) {
        int[] all = java.util.Arrays.copyOf(ahead, ahead.length + 1);
        int check = 229;
        for (int octet : ahead) {
            check = (3 * check + octet) % 251;
        }
        all[ahead.length] = check;
        return all;
    }
}
