import java.util.Arrays;

/** Verdict by silence: see ../shared/DOC.md, whose terms in capitals are used here as they stand. */
public final class SilentCourt {
    public static final int NONE = -1;
    public static final long NOTHING = -1000000000000000L;

    private static final int MOST_BYTES = 1600;
    private static final int FED_BYTES = 20;
    private static final int MOST_STATEMENTS = 60;
    private static final int MOST_SEATS = 9;
    private static final int MOST_PEOPLE = 8;
    private static final int MOST_POINTS = 4;
    private static final int MOST_NOISES = 6;
    private static final int MOST_MUTES = 6;
    private static final int MOST_HATREDS = 12;
    private static final int MOST_OPEN = 6;
    private static final int MOST_LETTERS = 6;
    private static final int MOST_DIGITS = 4;
    private static final int GREATEST_NUMBER = 9999;
    private static final int LAST_MINUTE = 999;
    private static final int MOST_SCALE = 99999;
    private static final int MOST_KEPT = 40;
    private static final int MOST_UNDONE = 20;
    private static final int MOST_WORTH = 999;
    private static final int PLAIN_COUGH = 5;
    private static final int MOST_SUM = 1000000;

    /** MUTES are numbered from here on; all numbers are below NUMBERS. */
    private static final int FIRST_MUTE = 10;
    private static final int NUMBERS = 16;

    private static final int JUDGE = 0;
    private static final int ROGUE = 1;
    private static final int NOBODY = 2;

    private static final int NO_SUCH_TEXT = 1;
    private static final int NO_SUCH_NUMBER = 2;
    private static final int NO_SUCH_NAME = 3;
    private static final int TOO_DEEP = 4;
    private static final int TOO_MANY = 5;

    private static final int TAPE_REFUSED = 0;
    private static final int HALL_REFUSED = 1;
    private static final int MINUTES_REFUSED = 2;
    private static final int ACT_REFUSED = 3;
    private static final int UNDO_REFUSED = 4;
    private static final int SEED_REFUSED = 5;
    private static final int REFUSALS = 6;

    /** A step of a SUM below FACTS puts that fact, one from CONSTANT on puts a number, others reckon. */
    private static final int KEEPS = 0;
    private static final int ITCHES = 1;
    private static final int NEAR = 2;
    private static final int HATED = 3;
    private static final int ASKED = 4;
    private static final int NOISE = 5;
    private static final int SEAT = 6;
    private static final int MINUTE = 7;
    private static final int NUMBER = 8;
    private static final int PARTY = 9;
    private static final int FACTS = 10;
    private static final int ADD = 10;
    private static final int SUBTRACT = 11;
    private static final int MULTIPLY = 12;
    private static final int DIVIDE = 13;
    private static final int LESSER = 14;
    private static final int GREATER = 15;
    private static final int BELOW = 16;
    private static final int ABOVE = 17;
    private static final int LIKE = 18;
    private static final int BOTH = 19;
    private static final int EITHER = 20;
    private static final int NOT = 21;
    private static final int BESIDE = 22;
    private static final int CONSTANT = 100;

    private final int[] tape = new int[MOST_BYTES];
    private int taped = 0;
    private final Reader reader = new Reader();
    private final Grammar grammar = new Grammar(reader);
    private final HallText hallText = new HallText(reader, grammar);
    private Hall hall = new Hall();
    private final Sitting now = new Sitting();
    private final Sitting aside = new Sitting();
    private final Past past = new Past();
    private final Bench bench = new Bench(hall, now);
    private final Counsel counsel = new Counsel(bench, aside);
    private final Question question = new Question(reader, grammar, bench);
    private final Image written = new Image();
    private final int[] refused = new int[REFUSALS];
    private int drawn = 1;

    public SilentCourt() {
    }

    // ---- the tape, the hall

    public int feed(int a, int b, int c, int d, int e) {
        if (taped + FED_BYTES > MOST_BYTES) {
            refuse(TAPE_REFUSED);
            return NONE;
        }
        putBytes(a);
        putBytes(b);
        putBytes(c);
        putBytes(d);
        putBytes(e);
        return taped;
    }

    public boolean end(int n) {
        if (n < 0 || n > taped) {
            refuse(TAPE_REFUSED);
            return false;
        }
        taped = n;
        return true;
    }

    public int hall() {
        reader.begin(tape, takeTape());
        Hall told = hallText.read();
        if (told == null) {
            refuse(HALL_REFUSED);
            return NONE;
        }
        hall = told;
        now.begin(hall);
        past.forget();
        return hall.statements;
    }

    public int fault(int what) {
        if (what == 0) {
            return reader.fault;
        }
        return what == 1 ? reader.place : NONE;
    }

    // ---- what there is

    public int has(int what) {
        switch (what) {
            case 0: return hall.seats;
            case 1: return hall.people;
            case 2: return hall.points;
            case 3: return hall.noises;
            case 4: return hall.mutes;
            case 5: return now.hiredOf(hall);
            case 6: return now.minute;
            case 7: return now.asked;
            case 8: return hall.hatreds;
            case 9: return now.toldCoughs();
            case 10: return past.count;
            default: return NONE;
        }
    }

    public int scale() {
        return now.scale;
    }

    public int letter(int kind, int which, int k) {
        if (k < 0 || k >= MOST_LETTERS) {
            return NONE;
        }
        switch (kind) {
            case 0: return which >= 0 && which < hall.people ? hall.letterOf(which, k) : NONE;
            case 1: return hall.isMute(which) ? hall.letterOf(FIRST_MUTE + which, k) : NONE;
            case 2: return hall.isPoint(which) ? hall.letterOf(NUMBERS + which, k) : NONE;
            default: return NONE;
        }
    }

    public int sits(int number, int what) {
        if (!now.isThere(number)) {
            return NONE;
        }
        bench.look(hall, now);
        bench.regard(number);
        switch (what) {
            case 0: return now.seatOf[number];
            case 1: return now.partyOf[number];
            case 2: return bench.facts[KEEPS];
            case 3: return bench.facts[ITCHES];
            case 4: return bench.facts[NEAR];
            case 5: return bench.facts[HATED];
            case 6: return bench.weightNow();
            case 7: return bench.coughNow();
            default: return NONE;
        }
    }

    public int seat(int seat) {
        return now.whoSits(seat);
    }

    public int mute(int mute, int what) {
        if (!hall.isMute(mute)) {
            return NONE;
        }
        int number = FIRST_MUTE + mute;
        switch (what) {
            case 0: return hall.keeps[number];
            case 1: return hall.costs[mute];
            case 2: return now.isThere(number) ? 1 : 0;
            default: return NONE;
        }
    }

    public int noise(int seat, int minute) {
        if (!hall.isSeat(seat) || minute < 0 || minute > LAST_MINUTE) {
            return NONE;
        }
        return hall.noiseAt(seat, minute, NONE);
    }

    public int kept(int k, int what) {
        return now.toldOf(k, what);
    }

    // ---- minutes ahead

    public long mean(int n) {
        if (n < 0 || n > 200 || now.minute + n > LAST_MINUTE) {
            return NOTHING;
        }
        bench.look(hall, now);
        return bench.meanOf(n);
    }

    public int odds(int what) {
        if (what < 0 || what > 2) {
            return NONE;
        }
        return counsel.oddsOf(hall, now, what);
    }

    // ---- mutes, seats, points, coughs

    public int hire(int party, int n, int least, int what) {
        if (!isSide(party) || n < 1 || n > 50 || now.minute + n > LAST_MINUTE || what < 0 || what > 2) {
            return NONE;
        }
        int bits = counsel.hired(hall, now, party, n, least);
        if (bits == NONE || what == 1) {
            return bits;
        }
        return what == 0 ? Integer.bitCount(bits) : hall.costOf(bits);
    }

    public int change(int party, int what) {
        if (!isSide(party) || what < 0 || what > 1) {
            return NONE;
        }
        int pair = counsel.changed(hall, now, party);
        if (pair == NONE) {
            return NONE;
        }
        return what == 0 ? pair / NUMBERS : pair % NUMBERS;
    }

    public long points(int n, int k) {
        if (hall.points == 0 || n < 1 || n > 3 || now.minute + n > LAST_MINUTE || k < NONE || k >= n) {
            return NOTHING;
        }
        return k == NONE ? counsel.meanByTurns(hall, now, n) : counsel.pointOfTurn(hall, now, k);
    }

    public int fell(int by, int what) {
        if (what < 0 || what > 2) {
            return NONE;
        }
        return counsel.setsBy(hall, now, by, what);
    }

    public int asked(int by, int coughing) {
        if (coughing < 0 || coughing >= 1 << hall.people) {
            return NONE;
        }
        return counsel.pointsBy(hall, now, by, coughing);
    }

    public int loudest(int n) {
        if (hall.noises == 0 || n < 1 || n > 200 || now.minute + n > LAST_MINUTE) {
            return NONE;
        }
        return counsel.loudestOf(hall, now, n);
    }

    // ---- acts

    public int minutes(int n) {
        if (!hall.isTold() || n < 1 || n > 100 || now.minute + n > LAST_MINUTE) {
            refuse(MINUTES_REFUSED);
            return NONE;
        }
        past.keep(now);
        bench.look(hall, now);
        int coughs = 0;
        for (int k = 0; k < n; k++) {
            coughs += passMinute();
        }
        return coughs;
    }

    public boolean point(int point) {
        if (point == now.asked || (point != NONE && !hall.isPoint(point))) {
            return refuse(ACT_REFUSED);
        }
        past.keep(now);
        now.asked = point;
        return true;
    }

    public boolean move(int number, int seat) {
        if (!now.isThere(number) || !hall.isSeat(seat) || now.seatOf[number] == seat) {
            return refuse(ACT_REFUSED);
        }
        past.keep(now);
        now.exchange(number, seat);
        return true;
    }

    public boolean take(int mute, int party, int seat) {
        int number = FIRST_MUTE + mute;
        if (!hall.isMute(mute) || now.isThere(number) || !isSide(party)
                || !hall.isSeat(seat) || now.whoSits(seat) != NONE) {
            return refuse(ACT_REFUSED);
        }
        past.keep(now);
        now.put(number, party, seat);
        return true;
    }

    public boolean dismiss(int mute) {
        int number = FIRST_MUTE + mute;
        if (!hall.isMute(mute) || !now.isThere(number)) {
            return refuse(ACT_REFUSED);
        }
        past.keep(now);
        now.leave(number);
        return true;
    }

    public boolean undo() {
        return past.back(now) || refuse(UNDO_REFUSED);
    }

    public boolean seed(int seed) {
        if (seed < 0) {
            return refuse(SEED_REFUSED);
        }
        drawn = seed;
        return true;
    }

    // ---- questions

    public long ask() {
        int length = takeTape();
        if (!hall.isTold()) {
            return NOTHING;
        }
        reader.begin(tape, length);
        return question.read() ? question.answer(hall, now) : NOTHING;
    }

    // ---- images, refusals

    public int image() {
        return written.write(hall, now);
    }

    public int octet(int k) {
        return k >= 0 && k < written.length ? written.bytes[k] : NONE;
    }

    public boolean on() {
        int length = takeTape();
        if (!hall.isTold() || !Image.reads(tape, length, hall, aside)) {
            return refuse(SEED_REFUSED);
        }
        now.copy(aside);
        past.forget();
        return true;
    }

    public int status(int what) {
        return what >= 0 && what < REFUSALS ? refused[what] : NONE;
    }

    // ---- within

    private boolean refuse(int what) {
        refused[what]++;
        return false;
    }

    private static boolean isSide(int party) {
        return party == JUDGE || party == ROGUE;
    }

    private void putBytes(int four) {
        for (int shift = 24; shift >= 0 && taped < MOST_BYTES; shift -= 8) {
            tape[taped] = (four >> shift) & 255;
            taped++;
        }
    }

    private int takeTape() {
        int length = taped;
        taped = 0;
        return length;
    }

    private int drawOfHundred() {
        drawn = (1103515245 * drawn + 12345) & 0x7fffffff;
        return drawn / 64 % 100;
    }

    private int passMinute() {
        bench.minute = now.minute;
        bench.tally();
        int coughing = 0;
        for (int number = 0; number < hall.people; number++) {
            if (hall.itches[number] > 0 && drawOfHundred() < hall.itches[number]) {
                coughing |= 1 << number;
                now.keepCough(number, bench.coughs[number]);
            }
        }
        now.scale = cut(now.scale + bench.swing(coughing), -MOST_SCALE, MOST_SCALE);
        now.minute++;
        return Integer.bitCount(coughing);
    }

    private static int cut(long value, int least, int most) {
        return value < least ? least : value > most ? most : (int) value;
    }

    /** The words of both languages; those that no NAME may be are own. */
    private enum Word {
        HALL("hall"), PERSON("person"), KEEPS("keeps", SilentCourt.KEEPS), ITCHES("itches", SilentCourt.ITCHES),
        FOR("for"), JUDGE("judge"), ROGUE("rogue"), NOBODY("nobody"), AT("at"), HATES("hates"), POINT("point"),
        NOISE("noise", SilentCourt.NOISE), SEAT("seat", SilentCourt.SEAT), LOUD("loud"), MUTE("mute"),
        COSTS("costs"), WEIGH("weigh"), COUGH("cough"), NEAR("near", SilentCourt.NEAR),
        HATED("hated", SilentCourt.HATED), ASKED("asked", SilentCourt.ASKED), MINUTE("minute", SilentCourt.MINUTE),
        NUMBER("number", SilentCourt.NUMBER), PARTY("party", SilentCourt.PARTY), OR("or"), AND("and"), NOT("not"),
        ALL("all"), MIN("min"), MAX("max"), BESIDE("beside"),
        FIRST("first", false), LAST("last", false), OFTEN("often", false),
        TOTAL("total", false), MOST("most", false), LEAST("least", false);

        final int key;
        final int fact;
        final boolean own;

        Word(String spelled) {
            this(spelled, NONE, true);
        }

        Word(String spelled, int fact) {
            this(spelled, fact, true);
        }

        Word(String spelled, boolean own) {
            this(spelled, NONE, own);
        }

        Word(String spelled, int fact, boolean own) {
            int packed = 0;
            for (int k = 0; k < MOST_LETTERS; k++) {
                packed = packed * 27 + (k < spelled.length() ? spelled.charAt(k) - 'a' + 1 : 0);
            }
            this.key = packed;
            this.fact = fact;
            this.own = own;
        }
    }

    /** Reads a text word by word. Looking at the next one is never a FAULT, only asking for what is not there. */
    private static final class Reader {
        static final int ENDED = 0;
        static final int LETTERS = 1;
        static final int DIGITS = 2;
        static final int SIGN = 3;
        static final int STUCK = 4;
        private static final Word[] WORDS = Word.values();

        private int[] text = new int[0];
        private int length = 0;
        private int stop = 0;
        private int key = 0;
        private int value = 0;
        int start = 0;
        int kind = ENDED;
        Word word = null;
        int tookAt = 0;
        int tookKey = 0;
        int tookValue = 0;
        int fault = 0;
        int place = NONE;

        void begin(int[] bytes, int many) {
            text = bytes;
            length = Math.min(many, bytes.length);
            start = 0;
            stop = 0;
            kind = SIGN;
            fault = 0;
            place = NONE;
            step();
        }

        boolean fail(int which, int where) {
            fault = which;
            place = where;
            return false;
        }

        void step() {
            boolean touching = kind == LETTERS || kind == DIGITS;
            int behind = stop;
            tookAt = start;
            tookKey = key;
            tookValue = value;
            word = null;
            start = behind;
            while (start < length && (text[start] == ' ' || text[start] == '\n')) {
                start++;
            }
            stop = start;
            int sign = start < length ? text[start] : NONE;
            if (sign >= 'a' && sign <= 'z') {
                readLetters();
            } else if (sign >= '0' && sign <= '9') {
                readDigits();
            } else {
                kind = sign == NONE ? ENDED : SIGN;
                stop = sign == NONE ? start : start + 1;
            }
            if (touching && start == behind && (kind == LETTERS || kind == DIGITS)) {
                kind = STUCK;
                word = null;
            }
        }

        private void readLetters() {
            kind = LETTERS;
            key = 0;
            while (stop < length && text[stop] >= 'a' && text[stop] <= 'z') {
                if (stop - start < MOST_LETTERS) {
                    key = key * 27 + text[stop] - 'a' + 1;
                }
                stop++;
            }
            if (stop - start > MOST_LETTERS) {
                return;
            }
            for (int k = stop - start; k < MOST_LETTERS; k++) {
                key *= 27;
            }
            for (int k = 0; k < WORDS.length; k++) {
                if (WORDS[k].key == key) {
                    word = WORDS[k];
                }
            }
        }

        private void readDigits() {
            kind = DIGITS;
            value = 0;
            while (stop < length && text[stop] >= '0' && text[stop] <= '9') {
                if (stop - start < MOST_DIGITS) {
                    value = value * 10 + text[stop] - '0';
                }
                stop++;
            }
        }

        boolean isSign(char sign) {
            return kind == SIGN && text[start] == sign;
        }

        boolean takeSign(char sign) {
            if (!isSign(sign)) {
                return fail(NO_SUCH_TEXT, start);
            }
            step();
            return true;
        }

        boolean takeWord(Word wanted) {
            if (word != wanted) {
                return fail(NO_SUCH_TEXT, start);
            }
            step();
            return true;
        }

        boolean takeNumber(int least, int most) {
            if (kind != DIGITS) {
                return fail(NO_SUCH_TEXT, start);
            }
            if (stop - start > MOST_DIGITS) {
                return fail(NO_SUCH_TEXT, start + MOST_DIGITS);
            }
            if (value < least || value > most) {
                return fail(NO_SUCH_NUMBER, start);
            }
            step();
            return true;
        }

        boolean takeName() {
            if (kind != LETTERS || (word != null && word.own)) {
                return fail(NO_SUCH_TEXT, start);
            }
            if (stop - start > MOST_LETTERS) {
                return fail(NO_SUCH_TEXT, start + MOST_LETTERS);
            }
            step();
            return true;
        }
    }

    /** Turns a SUM or a TEST into steps, each part ahead of what reckons with it. */
    private static final class Grammar {
        /** What binds: TEST binds loosest. A PART of one level is of the next one. */
        static final int TEST = 0;
        private static final int ALL_OF = 1;
        private static final int FACT = 2;
        static final int SUM = 3;
        private static final int PRODUCT = 4;
        private static final int PART = 5;

        private final Reader reader;
        private boolean asking = false;
        boolean namesMinute = false;
        final int[] steps = new int[MOST_BYTES];
        int length = 0;

        Grammar(Reader reader) {
            this.reader = reader;
        }

        /** A QUESTION knows more PARTS than a HALL. */
        void begin(boolean ofQuestion) {
            asking = ofQuestion;
            namesMinute = false;
            length = 0;
        }

        int[] copyOfSteps() {
            return Arrays.copyOf(steps, length);
        }

        private boolean emit(int step) {
            if (length < steps.length) {
                steps[length] = step;
                length++;
            }
            return true;
        }

        /** With what opens: open is how many are open at once ahead of it. */
        private boolean goIn(int open) {
            if (open >= MOST_OPEN) {
                return reader.fail(TOO_DEEP, reader.start);
            }
            reader.step();
            return true;
        }

        /** All of one level, behind what is open already; it puts its steps behind those that are there. */
        boolean chain(int level, int open) {
            if (level == FACT) {
                return fact(open);
            }
            if (level >= PART) {
                return part(open);
            }
            boolean good = chain(level + 1, open);
            for (int more = 0; more < MOST_BYTES && good; more++) {
                int step = joiner(level);
                if (step == NONE) {
                    break;
                }
                reader.step();
                good = chain(level + 1, open) && emit(step);
            }
            return good;
        }

        private int joiner(int level) {
            switch (level) {
                case TEST: return reader.word == Word.OR ? EITHER : NONE;
                case ALL_OF: return reader.word == Word.AND ? BOTH : NONE;
                case SUM: return reader.isSign('+') ? ADD : reader.isSign('-') ? SUBTRACT : NONE;
                case PRODUCT: return reader.isSign('*') ? MULTIPLY : reader.isSign('/') ? DIVIDE : NONE;
                default: return NONE;
            }
        }

        private boolean fact(int open) {
            if (reader.word == Word.NOT) {
                return goIn(open) && fact(open + 1) && emit(NOT);
            }
            if (reader.isSign('[')) {
                return goIn(open) && chain(TEST, open + 1) && reader.takeSign(']');
            }
            if (reader.word == Word.ALL) {
                reader.step();
                return emit(CONSTANT + 1);
            }
            if (!chain(SUM, open)) {
                return false;
            }
            int step = reader.isSign('<') ? BELOW : reader.isSign('>') ? ABOVE : reader.isSign('=') ? LIKE : NONE;
            if (step == NONE) {
                return reader.fail(NO_SUCH_TEXT, reader.start);
            }
            reader.step();
            return chain(SUM, open) && emit(step);
        }

        private boolean part(int open) {
            Word word = reader.word;
            if (reader.kind == Reader.DIGITS) {
                return reader.takeNumber(0, GREATEST_NUMBER) && emit(CONSTANT + reader.tookValue);
            }
            if (reader.isSign('(')) {
                return goIn(open) && chain(SUM, open + 1) && reader.takeSign(')');
            }
            if (word == Word.MIN || word == Word.MAX) {
                reader.step();
                return pair(open) && emit(word == Word.MIN ? LESSER : GREATER);
            }
            if (asking && word == Word.BESIDE) {
                return goIn(open) && part(open + 1) && emit(BESIDE);
            }
            if (word == null || word.fact == NONE || (!asking && word.fact >= NUMBER)) {
                return reader.fail(NO_SUCH_TEXT, reader.start);
            }
            namesMinute = namesMinute || word == Word.MINUTE;
            reader.step();
            return emit(word.fact);
        }

        private boolean pair(int open) {
            if (!reader.isSign('(')) {
                return reader.fail(NO_SUCH_TEXT, reader.start);
            }
            return goIn(open) && chain(SUM, open + 1) && reader.takeSign(',')
                    && chain(SUM, open + 1) && reader.takeSign(')');
        }
    }

    /** What the text of a HALL tells; without a text it has no SEATS. */
    private static final class Hall {
        int statements = 0;
        int seats = 0;
        int people = 0;
        int points = 0;
        int noises = 0;
        int mutes = 0;
        int hatreds = 0;
        /** By number; those of POINTS stand behind all numbers. */
        final int[] names = new int[NUMBERS + MOST_POINTS];
        final int[] keeps = new int[NUMBERS];
        final int[] itches = new int[NUMBERS];
        final int[] parties = new int[MOST_PEOPLE];
        final int[] places = new int[MOST_PEOPLE];
        final int[] costs = new int[MOST_MUTES];
        /** For each POINT what it tells for the judge, for the rogue. */
        final int[] tells = new int[2 * MOST_POINTS];
        /** For each NOISE its MINUTE, its SEAT, how loud it is. */
        final int[] sounds = new int[3 * MOST_NOISES];
        /** By number, as bits, whom one hates. */
        final int[] hates = new int[NUMBERS];
        int[] weigh = null;
        int[] cough = null;
        boolean namesMinute = false;

        boolean isTold() {
            return seats > 0;
        }

        boolean isSeat(int seat) {
            return seat >= 0 && seat < seats;
        }

        boolean isMute(int mute) {
            return mute >= 0 && mute < mutes;
        }

        boolean isPoint(int point) {
            return point >= 0 && point < points;
        }

        int find(int key) {
            for (int k = 0; k < names.length; k++) {
                if (names[k] == key) {
                    return k;
                }
            }
            return NONE;
        }

        int letterOf(int which, int k) {
            int rest = names[which];
            for (int last = MOST_LETTERS - 1; last > k; last--) {
                rest /= 27;
            }
            return rest % 27;
        }

        int noiseAt(int seat, int minute, int hushed) {
            int together = 0;
            for (int k = 0; k < noises; k++) {
                if (sounds[3 * k] == minute && k != hushed) {
                    together += Math.max(0, sounds[3 * k + 2] - Math.abs(seat - sounds[3 * k + 1]));
                }
            }
            return together;
        }

        boolean isNoisy(int minute) {
            for (int k = 0; k < noises; k++) {
                if (sounds[3 * k] == minute) {
                    return true;
                }
            }
            return false;
        }

        boolean areFoes(int one, int other) {
            return ((hates[one] >> other) & 1) != 0 || ((hates[other] >> one) & 1) != 0;
        }

        int costOf(int bits) {
            int together = 0;
            for (int k = 0; k < mutes; k++) {
                if (((bits >> k) & 1) != 0) {
                    together += costs[k];
                }
            }
            return together;
        }
    }

    /** Reads the text of a HALL, STATEMENT by STATEMENT. */
    private static final class HallText {
        private final Reader reader;
        private final Grammar grammar;
        private final int[] told = new int[3];
        private Hall hall = new Hall();

        HallText(Reader reader, Grammar grammar) {
            this.reader = reader;
            this.grammar = grammar;
        }

        /** The HALL; null with a FAULT. */
        Hall read() {
            hall = new Hall();
            if (!opening() || !reader.takeSign(';')) {
                return null;
            }
            hall.statements = 1;
            for (int k = 1; k <= MOST_STATEMENTS && reader.kind != Reader.ENDED; k++) {
                if (k == MOST_STATEMENTS) {
                    reader.fail(TOO_MANY, reader.start);
                    return null;
                }
                if (!statement() || !reader.takeSign(';')) {
                    return null;
                }
                hall.statements++;
            }
            return hall;
        }

        private boolean opening() {
            if (!tells(Word.HALL, 2, MOST_SEATS, 0)) {
                return false;
            }
            hall.seats = told[0];
            return true;
        }

        private boolean statement() {
            Word word = reader.word;
            if (word == Word.PERSON) {
                return begins(hall.people, MOST_PEOPLE) && person();
            }
            if (word == Word.HATES) {
                return begins(hall.hatreds, MOST_HATREDS) && hatred();
            }
            if (word == Word.POINT) {
                return begins(hall.points, MOST_POINTS) && pointTold();
            }
            if (word == Word.NOISE) {
                return begins(hall.noises, MOST_NOISES) && sound();
            }
            if (word == Word.MUTE) {
                return begins(hall.mutes, MOST_MUTES) && muteTold();
            }
            if (word == Word.WEIGH || word == Word.COUGH) {
                return worth(word == Word.WEIGH);
            }
            return reader.fail(NO_SUCH_TEXT, reader.start);
        }

        private boolean begins(int many, int most) {
            if (many >= most) {
                return reader.fail(TOO_MANY, reader.start);
            }
            reader.step();
            return true;
        }

        private boolean tells(Word word, int least, int most, int slot) {
            if (!reader.takeWord(word) || !reader.takeNumber(least, most)) {
                return false;
            }
            told[slot] = reader.tookValue;
            return true;
        }

        /** The NAME goes to its row at once: with a FAULT further on the whole HALL is dropped. */
        private boolean gives(int which) {
            if (!reader.takeName()) {
                return false;
            }
            if (hall.find(reader.tookKey) != NONE) {
                return reader.fail(NO_SUCH_NAME, reader.tookAt);
            }
            hall.names[which] = reader.tookKey;
            return true;
        }

        private boolean person() {
            int number = hall.people;
            if (!gives(number) || !tells(Word.KEEPS, 1, 99, 0) || !tells(Word.ITCHES, 0, 100, 1)
                    || !reader.takeWord(Word.FOR) || !partyOf(number) || !tells(Word.AT, 0, hall.seats - 1, 2)) {
                return false;
            }
            for (int k = 0; k < number; k++) {
                if (hall.places[k] == told[2]) {
                    return reader.fail(NO_SUCH_NUMBER, reader.tookAt);
                }
            }
            hall.keeps[number] = told[0];
            hall.itches[number] = told[1];
            hall.places[number] = told[2];
            hall.people++;
            return true;
        }

        private boolean partyOf(int number) {
            Word word = reader.word;
            int party = word == Word.JUDGE ? JUDGE : word == Word.ROGUE ? ROGUE : word == Word.NOBODY ? NOBODY : NONE;
            if (party == NONE) {
                return reader.fail(NO_SUCH_TEXT, reader.start);
            }
            hall.parties[number] = party;
            reader.step();
            return true;
        }

        private boolean hatred() {
            if (!reader.takeName()) {
                return false;
            }
            int one = hall.find(reader.tookKey);
            if (one == NONE || one >= NUMBERS) {
                return reader.fail(NO_SUCH_NAME, reader.tookAt);
            }
            if (!reader.takeName()) {
                return false;
            }
            int other = hall.find(reader.tookKey);
            if (other == NONE || other >= NUMBERS || other == one || ((hall.hates[one] >> other) & 1) != 0) {
                return reader.fail(NO_SUCH_NAME, reader.tookAt);
            }
            hall.hates[one] |= 1 << other;
            hall.hatreds++;
            return true;
        }

        private boolean pointTold() {
            int point = hall.points;
            if (!gives(NUMBERS + point) || !tells(Word.JUDGE, 0, 99, 0) || !tells(Word.ROGUE, 0, 99, 1)) {
                return false;
            }
            hall.tells[2 * point + JUDGE] = told[0];
            hall.tells[2 * point + ROGUE] = told[1];
            hall.points++;
            return true;
        }

        private boolean sound() {
            if (!tells(Word.AT, 0, 99, 0) || !tells(Word.SEAT, 0, hall.seats - 1, 1) || !tells(Word.LOUD, 1, 9, 2)) {
                return false;
            }
            System.arraycopy(told, 0, hall.sounds, 3 * hall.noises, 3);
            hall.noises++;
            return true;
        }

        private boolean muteTold() {
            int number = FIRST_MUTE + hall.mutes;
            if (!gives(number) || !tells(Word.KEEPS, 1, 99, 0) || !tells(Word.COSTS, 0, 99, 1)) {
                return false;
            }
            hall.keeps[number] = told[0];
            hall.costs[hall.mutes] = told[1];
            hall.mutes++;
            return true;
        }

        private boolean worth(boolean ofWeigh) {
            int[] before = ofWeigh ? hall.weigh : hall.cough;
            if (!begins(before == null ? 0 : 1, 1)) {
                return false;
            }
            grammar.begin(false);
            if (!grammar.chain(Grammar.SUM, 0)) {
                return false;
            }
            hall.namesMinute = hall.namesMinute || grammar.namesMinute;
            if (ofWeigh) {
                hall.weigh = grammar.copyOfSteps();
            } else {
                hall.cough = grammar.copyOfSteps();
            }
            return true;
        }
    }

    /** All that ACTS change: who sits where for whom, the MINUTE, the SCALE, what is asked, what is KEPT. */
    private static final class Sitting {
        int minute = 0;
        int scale = 0;
        int asked = NONE;
        final int[] seatOf = new int[NUMBERS];
        final int[] partyOf = new int[NUMBERS];
        private final int[] whoIn = new int[MOST_SEATS];
        private final int[] kept = new int[MOST_KEPT];
        private int coughs = 0;

        Sitting() {
            Arrays.fill(seatOf, NONE);
            Arrays.fill(whoIn, NONE);
        }

        void clear() {
            minute = 0;
            scale = 0;
            asked = NONE;
            coughs = 0;
            Arrays.fill(seatOf, NONE);
            Arrays.fill(partyOf, 0);
            Arrays.fill(whoIn, NONE);
        }

        void begin(Hall hall) {
            clear();
            for (int k = 0; k < hall.people; k++) {
                put(k, hall.parties[k], hall.places[k]);
            }
        }

        void copy(Sitting other) {
            minute = other.minute;
            scale = other.scale;
            asked = other.asked;
            coughs = other.coughs;
            System.arraycopy(other.seatOf, 0, seatOf, 0, NUMBERS);
            System.arraycopy(other.partyOf, 0, partyOf, 0, NUMBERS);
            System.arraycopy(other.whoIn, 0, whoIn, 0, MOST_SEATS);
            System.arraycopy(other.kept, 0, kept, 0, MOST_KEPT);
        }

        boolean isThere(int number) {
            return number >= 0 && number < NUMBERS && seatOf[number] != NONE;
        }

        int whoSits(int seat) {
            return seat >= 0 && seat < MOST_SEATS ? whoIn[seat] : NONE;
        }

        void put(int number, int party, int seat) {
            seatOf[number] = seat;
            partyOf[number] = party;
            whoIn[seat] = number;
        }

        void leave(int number) {
            int seat = seatOf[number];
            if (seat >= 0) {
                whoIn[seat] = NONE;
            }
            seatOf[number] = NONE;
            partyOf[number] = 0;
        }

        void exchange(int number, int seat) {
            int own = seatOf[number];
            int other = whoSits(seat);
            if (own < 0) {
                return;
            }
            seatOf[number] = seat;
            whoIn[seat] = number;
            whoIn[own] = other;
            if (other != NONE) {
                seatOf[other] = own;
            }
        }

        int firstFree(int seats) {
            for (int seat = 0; seat < seats; seat++) {
                if (whoSits(seat) == NONE) {
                    return seat;
                }
            }
            return NONE;
        }

        int hiredOf(Hall hall) {
            int many = 0;
            for (int k = 0; k < hall.mutes; k++) {
                many += isThere(FIRST_MUTE + k) ? 1 : 0;
            }
            return many;
        }

        /** The oldest one goes where there are too many; one number holds MINUTE, who, his COUGH. */
        void keepCough(int number, int cough) {
            kept[coughs % MOST_KEPT] = (minute * NUMBERS + number) * (MOST_WORTH + 1) + cough;
            coughs++;
        }

        int toldCoughs() {
            return Math.min(coughs, MOST_KEPT);
        }

        int toldOf(int k, int what) {
            int many = toldCoughs();
            if (k < 0 || k >= many) {
                return NONE;
            }
            int row = kept[(coughs - many + k) % MOST_KEPT];
            switch (what) {
                case 0: return row / (MOST_WORTH + 1) / NUMBERS;
                case 1: return row / (MOST_WORTH + 1) % NUMBERS;
                case 2: return row % (MOST_WORTH + 1);
                default: return NONE;
            }
        }
    }

    /** How all was ahead of each of the last ACTS. */
    private static final class Past {
        private final Sitting[] rows = new Sitting[MOST_UNDONE];
        private int next = 0;
        int count = 0;

        Past() {
            for (int k = 0; k < MOST_UNDONE; k++) {
                rows[k] = new Sitting();
            }
        }

        void forget() {
            count = 0;
        }

        void keep(Sitting now) {
            rows[next].copy(now);
            next = (next + 1) % MOST_UNDONE;
            count = Math.min(count + 1, MOST_UNDONE);
        }

        boolean back(Sitting now) {
            if (count == 0) {
                return false;
            }
            next = (next + MOST_UNDONE - 1) % MOST_UNDONE;
            count--;
            now.copy(rows[next]);
            return true;
        }
    }

    /** Reckons what those who sit weigh and cough, as it is or as one supposes it. */
    private static final class Bench {
        private static final int DEEPEST = 64;
        private Hall hall;
        private Sitting sitting;
        private boolean sameEachMinute = true;
        private boolean rowsAreQuiet = false;
        private int hushed = NONE;
        private int asked = NONE;
        int minute = 0;
        final int[] facts = new int[FACTS];
        final int[] weights = new int[NUMBERS];
        final int[] coughs = new int[NUMBERS];
        private final int[] stack = new int[DEEPEST];
        private int top = 0;

        Bench(Hall hall, Sitting sitting) {
            this.hall = hall;
            this.sitting = sitting;
        }

        void look(Hall inHall, Sitting atSitting) {
            hall = inHall;
            sitting = atSitting;
            sameEachMinute = !hall.namesMinute;
            suppose(sitting.minute, sitting.asked, NONE);
        }

        /** As if it were that MINUTE, that POINT asked, one NOISE not there. */
        void suppose(int inMinute, int point, int withoutNoise) {
            minute = inMinute;
            asked = point;
            hushed = withoutNoise;
            rowsAreQuiet = false;
        }

        /** Of each who sits his WEIGHT and COUGH; MINUTES without NOISE are reckoned once where they are alike. */
        void tally() {
            boolean quiet = sameEachMinute && !hall.isNoisy(minute);
            if (quiet && rowsAreQuiet) {
                return;
            }
            rowsAreQuiet = quiet;
            for (int number = 0; number < NUMBERS; number++) {
                if (sitting.isThere(number)) {
                    regard(number);
                    weights[number] = weightNow();
                    coughs[number] = coughNow();
                }
            }
        }

        void regard(int number) {
            int seat = sitting.seatOf[number];
            int party = sitting.partyOf[number];
            int left = sitting.whoSits(seat - 1);
            int right = sitting.whoSits(seat + 1);
            facts[KEEPS] = hall.keeps[number];
            facts[ITCHES] = hall.itches[number];
            facts[NEAR] = (left != NONE ? 1 : 0) + (right != NONE ? 1 : 0);
            facts[HATED] = (left != NONE && hall.areFoes(number, left) ? 1 : 0)
                    + (right != NONE && hall.areFoes(number, right) ? 1 : 0);
            facts[ASKED] = party == NOBODY || !hall.isPoint(asked) ? 0 : hall.tells[2 * asked + party];
            facts[NOISE] = hall.noiseAt(seat, minute, hushed);
            facts[SEAT] = seat;
            facts[MINUTE] = minute;
            facts[NUMBER] = number;
            facts[PARTY] = party;
        }

        int weightNow() {
            return hall.weigh == null ? facts[KEEPS] : cut(run(hall.weigh, hall.weigh.length), 0, MOST_WORTH);
        }

        int coughNow() {
            return hall.cough == null ? PLAIN_COUGH : cut(run(hall.cough, hall.cough.length), 0, MOST_WORTH);
        }

        /** By the rows: what the MINUTE moves the SCALE by when these cough. */
        int swing(int coughing) {
            int move = 0;
            for (int number = 0; number < NUMBERS; number++) {
                if (sitting.isThere(number)) {
                    int gain = ((coughing >> number) & 1) != 0 ? -coughs[number] : weights[number];
                    move += sideOf(number) * gain;
                }
            }
            return move;
        }

        /** By the rows: what the MINUTE moves the SCALE by on the mean, in hundredths. */
        int meanSwing() {
            int move = 0;
            for (int number = 0; number < NUMBERS; number++) {
                if (sitting.isThere(number)) {
                    int itch = hall.itches[number];
                    move += sideOf(number) * ((100 - itch) * weights[number] - itch * coughs[number]);
                }
            }
            return move;
        }

        private int sideOf(int number) {
            int party = sitting.partyOf[number];
            return party == JUDGE ? 1 : party == ROGUE ? -1 : 0;
        }

        /** Who calls sees to it that there are n MINUTES up to the last one. */
        long meanOf(int n) {
            int first = minute;
            long mean = 100L * sitting.scale;
            for (int k = 0; k < n; k++) {
                minute = first + k;
                tally();
                mean += meanSwing();
            }
            minute = first;
            return mean;
        }

        int run(int[] steps, int length) {
            top = 0;
            for (int k = 0; k < length && k < steps.length; k++) {
                int step = steps[k];
                if (step >= CONSTANT) {
                    push(step - CONSTANT);
                } else if (step >= 0 && step < FACTS) {
                    push(facts[step]);
                } else if (step == NOT) {
                    push(1 - pop());
                } else if (step == BESIDE) {
                    push(isBeside(pop()) ? 1 : 0);
                } else {
                    int right = pop();
                    push(cut(reckon(step, pop(), right), -MOST_SUM, MOST_SUM));
                }
            }
            return pop();
        }

        private void push(int value) {
            if (top < DEEPEST) {
                stack[top] = value;
                top++;
            }
        }

        private int pop() {
            if (top == 0) {
                return 0;
            }
            top--;
            return stack[top];
        }

        private boolean isBeside(int number) {
            return sitting.isThere(number) && Math.abs(sitting.seatOf[number] - facts[SEAT]) == 1;
        }

        private static long reckon(int step, int left, int right) {
            switch (step) {
                case ADD: return left + right;
                case SUBTRACT: return left - right;
                case MULTIPLY: return (long) left * right;
                case DIVIDE: return right == 0 ? 0 : Math.floorDiv(left, right);
                case LESSER: return Math.min(left, right);
                case GREATER: return Math.max(left, right);
                case BELOW: return left < right ? 1 : 0;
                case ABOVE: return left > right ? 1 : 0;
                case LIKE: return left == right ? 1 : 0;
                case BOTH: return left & right;
                case EITHER: return left | right;
                default: return 0;
            }
        }
    }

    /** What had best be done, and what may have been. */
    private static final class Counsel {
        /** A hundred for each of the PEOPLE, over a million. */
        private static final long CHANCES_IN_MILLIONTH = 10000000000L;
        private final Bench bench;
        private final Sitting aside;

        Counsel(Bench bench, Sitting aside) {
            this.bench = bench;
            this.aside = aside;
        }

        private static int itching(Hall hall) {
            int bits = 0;
            for (int k = 0; k < hall.people; k++) {
                bits |= hall.itches[k] > 0 ? 1 << k : 0;
            }
            return bits;
        }

        int oddsOf(Hall hall, Sitting now, int what) {
            int free = itching(hall);
            long chances = 0;
            bench.look(hall, now);
            bench.tally();
            for (int set = 0; set < 1 << MOST_PEOPLE; set++) {
                if ((set & ~free) == 0) {
                    int move = bench.swing(set);
                    int which = move > 0 ? 0 : move < 0 ? 1 : 2;
                    chances += which == what ? chancesOf(hall, set) : 0;
                }
            }
            return (int) (chances / CHANCES_IN_MILLIONTH);
        }

        private static long chancesOf(Hall hall, int set) {
            long chances = 1;
            for (int k = 0; k < MOST_PEOPLE; k++) {
                chances *= ((set >> k) & 1) != 0 ? hall.itches[k] : 100 - hall.itches[k];
            }
            return chances;
        }

        /** The MUTES as bits; NONE when no MUTES will do. */
        int hired(Hall hall, Sitting now, int party, int n, int least) {
            int best = NONE;
            for (int bits = 0; bits < 1 << hall.mutes; bits++) {
                if ((best == NONE || isCheaper(hall, bits, best)) && seatAside(hall, now, party, bits)) {
                    bench.look(hall, aside);
                    long mean = bench.meanOf(n);
                    best = (party == JUDGE ? mean : -mean) >= least ? bits : best;
                }
            }
            return best;
        }

        private static boolean isCheaper(Hall hall, int bits, int best) {
            int fewer = Integer.bitCount(best) - Integer.bitCount(bits);
            return fewer > 0 || (fewer == 0 && hall.costOf(bits) < hall.costOf(best));
        }

        /** False when one of these is hired already, or no SEAT is left. */
        private boolean seatAside(Hall hall, Sitting now, int party, int bits) {
            aside.copy(now);
            for (int k = 0; k < hall.mutes; k++) {
                if (((bits >> k) & 1) != 0) {
                    int seat = aside.firstFree(hall.seats);
                    if (seat == NONE || now.isThere(FIRST_MUTE + k)) {
                        return false;
                    }
                    aside.put(FIRST_MUTE + k, party, seat);
                }
            }
            return true;
        }

        /** Both numbers in one, the lesser above; NONE when nobody had best change. */
        int changed(Hall hall, Sitting now, int party) {
            int best = NONE;
            aside.copy(now);
            bench.look(hall, aside);
            int most = swingFor(party);
            for (int one = 0; one < NUMBERS; one++) {
                for (int other = one + 1; other < NUMBERS; other++) {
                    if (aside.isThere(one) && aside.isThere(other)) {
                        int own = aside.seatOf[one];
                        aside.exchange(one, aside.seatOf[other]);
                        int swing = swingFor(party);
                        aside.exchange(one, own);
                        best = swing > most ? one * NUMBERS + other : best;
                        most = Math.max(most, swing);
                    }
                }
            }
            return best;
        }

        private int swingFor(int party) {
            bench.suppose(aside.minute, aside.asked, NONE);
            bench.tally();
            return party == JUDGE ? bench.meanSwing() : -bench.meanSwing();
        }

        /** A POINT asked bears on its own MINUTE alone, so each turn is chosen by itself. */
        int pointOfTurn(Hall hall, Sitting now, int turn) {
            int best = 0;
            int most = 0;
            bench.look(hall, now);
            for (int point = 0; point < hall.points; point++) {
                bench.suppose(now.minute + turn, point, NONE);
                bench.tally();
                int swing = turn % 2 == 0 ? bench.meanSwing() : -bench.meanSwing();
                if (point == 0 || swing > most) {
                    best = point;
                    most = swing;
                }
            }
            return best;
        }

        long meanByTurns(Hall hall, Sitting now, int n) {
            long mean = 100L * now.scale;
            for (int turn = 0; turn < n; turn++) {
                int point = pointOfTurn(hall, now, turn);
                bench.suppose(now.minute + turn, point, NONE);
                bench.tally();
                mean += bench.meanSwing();
            }
            return mean;
        }

        int setsBy(Hall hall, Sitting now, int by, int what) {
            int free = itching(hall);
            int many = 0;
            int inAll = free;
            int inSome = 0;
            bench.look(hall, now);
            bench.tally();
            for (int set = 0; set < 1 << MOST_PEOPLE; set++) {
                if ((set & ~free) == 0 && bench.swing(set) == by) {
                    many++;
                    inAll &= set;
                    inSome |= set;
                }
            }
            if (what == 0) {
                return many;
            }
            return what == 2 ? inSome : many == 0 ? 0 : inAll;
        }

        int pointsBy(Hall hall, Sitting now, int by, int coughing) {
            int bits = 0;
            bench.look(hall, now);
            for (int point = 0; point < hall.points; point++) {
                bench.suppose(now.minute, point, NONE);
                bench.tally();
                bits |= bench.swing(coughing) == by ? 1 << point : 0;
            }
            return bits;
        }

        /** A NOISE bears on its own MINUTE alone, so only that one is reckoned with it and without. */
        int loudestOf(Hall hall, Sitting now, int n) {
            int best = 0;
            int most = 0;
            bench.look(hall, now);
            for (int k = 0; k < hall.noises; k++) {
                int minute = hall.sounds[3 * k];
                if (minute >= now.minute && minute < now.minute + n) {
                    bench.suppose(minute, now.asked, NONE);
                    bench.tally();
                    int with = bench.meanSwing();
                    bench.suppose(minute, now.asked, k);
                    bench.tally();
                    int differs = Math.abs(with - bench.meanSwing());
                    best = differs > most ? k : best;
                    most = Math.max(most, differs);
                }
            }
            return best;
        }
    }

    /** A QUESTION of all who sit. */
    private static final class Question {
        private final Reader reader;
        private final Grammar grammar;
        private final Bench bench;
        private Word verb = Word.OFTEN;

        Question(Reader reader, Grammar grammar, Bench bench) {
            this.reader = reader;
            this.grammar = grammar;
            this.bench = bench;
        }

        boolean read() {
            Word word = reader.word;
            if (word == null || word.own) {
                return reader.fail(NO_SUCH_TEXT, reader.start);
            }
            verb = word;
            reader.step();
            grammar.begin(true);
            boolean good = grammar.chain(isOfTest() ? Grammar.TEST : Grammar.SUM, 0);
            if (good && reader.kind != Reader.ENDED) {
                return reader.fail(NO_SUCH_TEXT, reader.start);
            }
            return good;
        }

        private boolean isOfTest() {
            return verb == Word.FIRST || verb == Word.LAST || verb == Word.OFTEN;
        }

        long answer(Hall hall, Sitting now) {
            long found = verb == Word.FIRST || verb == Word.LAST ? NONE : 0;
            boolean none = true;
            bench.look(hall, now);
            for (int number = 0; number < NUMBERS; number++) {
                if (now.isThere(number)) {
                    bench.regard(number);
                    int value = bench.run(grammar.steps, grammar.length);
                    found = none && (verb == Word.MOST || verb == Word.LEAST) ? value : join(found, value, number);
                    none = false;
                }
            }
            return found;
        }

        private long join(long found, int value, int number) {
            if (verb == Word.FIRST) {
                return value != 0 && found == NONE ? number : found;
            }
            if (verb == Word.LAST) {
                return value != 0 ? number : found;
            }
            if (verb == Word.MOST) {
                return Math.max(found, value);
            }
            if (verb == Word.LEAST) {
                return Math.min(found, value);
            }
            return found + value;
        }
    }

    /** AN IMAGE, as written last. */
    private static final class Image {
        private static final int HEAD = 6;
        private static final int ABOVE_SCALE = 100000;
        final int[] bytes = new int[HEAD + MOST_PEOPLE + 2 * MOST_MUTES + 1];
        int length = 0;

        int write(Hall hall, Sitting now) {
            int scale = now.scale + ABOVE_SCALE;
            bytes[0] = now.minute >> 8;
            bytes[1] = now.minute & 255;
            bytes[2] = scale >> 16;
            bytes[3] = (scale >> 8) & 255;
            bytes[4] = scale & 255;
            bytes[5] = now.asked + 1;
            for (int k = 0; k < hall.people; k++) {
                bytes[HEAD + k] = now.seatOf[k];
            }
            for (int k = 0; k < hall.mutes; k++) {
                bytes[HEAD + hall.people + 2 * k] = now.seatOf[FIRST_MUTE + k] + 1;
                bytes[HEAD + hall.people + 2 * k + 1] = now.partyOf[FIRST_MUTE + k];
            }
            length = lengthOf(hall);
            bytes[length - 1] = checkOf(bytes, length - 1);
            return length;
        }

        private static int lengthOf(Hall hall) {
            return HEAD + hall.people + 2 * hall.mutes + 1;
        }

        private static int checkOf(int[] row, int many) {
            int check = 229;
            for (int k = 0; k < many; k++) {
                check = (3 * check + row[k]) % 251;
            }
            return check;
        }

        /** All is put as the row tells; false when it is no IMAGE of this HALL. */
        static boolean reads(int[] row, int many, Hall hall, Sitting into) {
            if (many != lengthOf(hall) || checkOf(row, many - 1) != row[many - 1]) {
                return false;
            }
            into.clear();
            into.minute = row[0] * 256 + row[1];
            into.scale = row[2] * 65536 + row[3] * 256 + row[4] - ABOVE_SCALE;
            into.asked = row[5] - 1;
            if (into.minute > LAST_MINUTE || Math.abs(into.scale) > MOST_SCALE || into.asked >= hall.points) {
                return false;
            }
            for (int k = 0; k < hall.people; k++) {
                if (!seats(hall, into, k, hall.parties[k], row[HEAD + k])) {
                    return false;
                }
            }
            return readsMutes(row, hall, into);
        }

        private static boolean readsMutes(int[] row, Hall hall, Sitting into) {
            for (int k = 0; k < hall.mutes; k++) {
                int seat = row[HEAD + hall.people + 2 * k] - 1;
                int party = row[HEAD + hall.people + 2 * k + 1];
                boolean good = seat == NONE ? party == 0
                        : isSide(party) && seats(hall, into, FIRST_MUTE + k, party, seat);
                if (!good) {
                    return false;
                }
            }
            return true;
        }

        private static boolean seats(Hall hall, Sitting into, int number, int party, int seat) {
            if (!hall.isSeat(seat) || into.whoSits(seat) != NONE) {
                return false;
            }
            into.put(number, party, seat);
            return true;
        }
    }
}
