import java.util.Arrays;

/** A ferry whose load is what people mean to do: the promises of the document, 1 to 34. */
public final class AimFerry {
    public static final int NONE = -1;

    private static final int NOT_SO = -2;
    private static final int NOT_ASKED = -3;
    private static final int PEOPLE_MOST = 7;
    private static final int SETS = 128;
    private static final int TAPE_MOST = 400;
    private static final int FEED_BYTES = 20;
    private static final int RULES_MOST = 6;
    private static final int IMAGES = 4;
    private static final int ACTS_KEPT = 20;
    private static final int NOTES_MOST = 10;
    private static final int AIM_MOST = 99;
    private static final int TALK_MOST = 20;
    private static final int HOUR_BY_HAND = 999;
    private static final int TOLD_HOUR = 60;
    private static final int LAST_TRIP = 60;
    private static final int AHEAD_MOST = 100;
    private static final int FARE_MOST = 9999;
    private static final int LIES_MOST = 20;
    private static final int SOOTHE_MOST = 30;
    private static final int FOGS_TIMES = 10;
    private static final int FOGS_TRIPS = 60;
    private static final int PERCENT = 100;

    private final Tape tape;
    private final CrossingReader crossingReader;
    private final RuleReader ruleReader;
    private final Rule[] rules;
    private final Scene now;
    private final Scene[] images;
    private final River[] past;
    private final Puzzles puzzles;
    private final Futures futures;
    private Crossing spare;
    private int ruleCount;
    private int pastSize;
    private int pastNext;

    public AimFerry() {
        tape = new Tape();
        crossingReader = new CrossingReader(tape);
        ruleReader = new RuleReader(tape);
        rules = new Rule[RULES_MOST];
        now = new Scene(new Crossing());
        images = new Scene[IMAGES];
        for (int k = 0; k < IMAGES; k++) {
            images[k] = new Scene(now.crossing);
        }
        past = new River[ACTS_KEPT];
        for (int k = 0; k < ACTS_KEPT; k++) {
            past[k] = new River();
        }
        puzzles = new Puzzles();
        futures = new Futures();
        spare = new Crossing();
    }

    public int feed(int a, int b, int c, int d, int e) {
        if (tape.size + FEED_BYTES > TAPE_MOST) {
            return NONE;
        }
        tape.add(a);
        tape.add(b);
        tape.add(c);
        tape.add(d);
        tape.add(e);
        return tape.size;
    }

    public int end(int n) {
        if (n < 0 || n > tape.size) {
            return NONE;
        }
        tape.size = n;
        return n;
    }

    public int ferry() {
        int fault = crossingReader.read(spare);
        tape.size = 0;
        if (fault != 0) {
            return NOT_SO - fault;
        }
        now.begin(spare);
        // An IMAGE may keep the CROSSING, so the next text needs an object of its own.
        spare = new Crossing();
        forgetActs();
        return now.crossing.people;
    }

    public int rule() {
        if (ruleCount >= RULES_MOST) {
            return NONE;
        }
        int fault = ruleReader.read();
        tape.size = 0;
        if (fault != 0) {
            return NOT_SO - fault;
        }
        rules[ruleCount] = ruleReader.made();
        ruleCount++;
        return ruleCount - 1;
    }

    public int force(int rule) {
        if (rule < NONE || rule >= ruleCount) {
            return NOT_SO;
        }
        int was = now.force;
        now.force = rule;
        return was;
    }

    public int person(int person, int what) {
        if (!now.crossing.has(person)) {
            return NONE;
        }
        switch (what) {
            case 0:
                return now.river.aims[person];
            case 1:
                return now.crossing.grows[person];
            case 2:
                return now.crossing.lights[person];
            case 3:
                return now.river.sideOf(person);
            default:
                return NONE;
        }
    }

    public int beside(int one, int other) {
        if (!now.crossing.has(one) || !now.crossing.has(other)) {
            return NONE;
        }
        return now.crossing.extra(one, other);
    }

    public int trip() {
        if (!now.crossing.there || now.river.hour >= HOUR_BY_HAND) {
            return NONE;
        }
        rememberAct();
        return futures.pilot.sail(now.crossing, now.river, ruleInForce(), false);
    }

    public int cross(int people) {
        boolean fog = now.isFog();
        if (!now.crossing.there || now.river.hour >= HOUR_BY_HAND
                || !now.river.canBoard(now.crossing, people, fog)) {
            return NONE;
        }
        rememberAct();
        return now.river.carry(now.crossing, people, fog) ? 1 : 0;
    }

    public int toss(int person, int much) {
        if (!now.crossing.has(person) || much < 1 || much > now.river.aims[person]) {
            return NONE;
        }
        rememberAct();
        now.river.aims[person] -= much;
        now.river.bottom += much;
        return now.river.aims[person];
    }

    public int talk(int person, int much) {
        if (!now.crossing.has(person) || now.crossing.lights[person] > 0 || much < 1 || much > TALK_MOST) {
            return NONE;
        }
        rememberAct();
        now.river.aims[person] = Math.min(AIM_MOST, now.river.aims[person] + much);
        return now.river.aims[person];
    }

    public int undo() {
        if (pastSize == 0) {
            return NONE;
        }
        pastNext = (pastNext + ACTS_KEPT - 1) % ACTS_KEPT;
        pastSize--;
        now.river.copyFrom(past[pastNext]);
        return pastSize;
    }

    public int ahead(int person, int n, int what) {
        if (!now.crossing.there || !within(n, 0, AHEAD_MOST) || !within(what, 0, 2)
                || (what != 2 && !now.crossing.has(person))) {
            return NONE;
        }
        River then = futures.after(now, ruleInForce(), n);
        if (what == 2) {
            return then.shipped;
        }
        return what == 0 ? then.sideOf(person) : then.aims[person];
    }

    public int over() {
        return now.crossing.there ? futures.hourAllOver(now, ruleInForce()) : NONE;
    }

    public int weight(int people) {
        if (!now.crossing.there || !now.crossing.hasAll(people)) {
            return NONE;
        }
        return now.river.weigh(now.crossing, people, now.isFog());
    }

    public int most(int what) {
        if (!now.crossing.there || !within(what, 0, 1)) {
            return NONE;
        }
        puzzles.begin(now);
        int set = puzzles.largestSafeSet();
        if (set == NONE) {
            return NOT_SO;
        }
        return what == 0 ? Integer.bitCount(set) : set;
    }

    public int lighten(int people) {
        if (!now.crossing.there || !now.river.areHere(now.crossing, people)
                || Integer.bitCount(people) > now.crossing.seats) {
            return NONE;
        }
        puzzles.begin(now);
        return puzzles.leastThrown(people);
    }

    public int fewest(int what) {
        if (!now.crossing.there || !within(what, 0, 1)) {
            return NONE;
        }
        puzzles.begin(now);
        int crossings = puzzles.fewestCrossings();
        if (crossings == NONE) {
            return NOT_SO;
        }
        return what == 0 ? crossings : puzzles.firstSetOf(crossings);
    }

    public int row(int what) {
        if (!now.crossing.there || !within(what, NONE, PEOPLE_MOST - 1)) {
            return NOT_ASKED;
        }
        puzzles.begin(now);
        int length = puzzles.findRow();
        if (what == NONE) {
            return puzzles.rowLeast;
        }
        return what < length ? puzzles.rowBest[what] : NOT_SO;
    }

    public int fare(int people, int much, int person) {
        if (!now.crossing.has(person) || !now.crossing.hasAll(people) || (people >> person & 1) == 0
                || !within(much, 0, FARE_MOST)) {
            return NONE;
        }
        puzzles.begin(now);
        return puzzles.fareOf(people, much, person);
    }

    public int stay(int what) {
        if (!now.crossing.there || !within(what, 0, 1)) {
            return NONE;
        }
        puzzles.begin(now);
        int who = puzzles.bestToStay();
        if (who == NONE) {
            return NOT_SO;
        }
        return what == 0 ? who : puzzles.weightWithout(who);
    }

    public int lies(int one, int other, int n, int what) {
        if (!now.crossing.has(one) || !now.crossing.has(other) || one == other
                || !within(n, 1, LIES_MOST) || !within(what, 0, 1)) {
            return NONE;
        }
        int ways = futures.steadyWays(now, ruleInForce(), one, other, n);
        if (what == 0) {
            return Integer.bitCount(ways);
        }
        return ways == 0 ? NOT_SO : firstBit(ways);
    }

    public int waits(int person) {
        return now.crossing.has(person) ? futures.hourAboard(now, ruleInForce(), person) : NONE;
    }

    public int soothe(int n, int what) {
        if (!now.crossing.there || !within(n, 1, SOOTHE_MOST) || !within(what, 0, 1)) {
            return NOT_SO;
        }
        futures.findSoothed(now, ruleInForce(), n);
        return what == 0 ? futures.bestSoothed : futures.mostOver;
    }

    public int never() {
        if (!now.crossing.there) {
            return NONE;
        }
        puzzles.begin(now);
        return puzzles.neverSafe();
    }

    public int note(int n, int person, int side) {
        if (n == NONE) {
            now.noteCount = 0;
            return 0;
        }
        if (!within(n, 0, LAST_TRIP) || !now.crossing.has(person) || !within(side, 0, 1)
                || now.noteCount >= NOTES_MOST) {
            return NOT_SO;
        }
        now.addNote(n, person, side);
        return now.noteCount;
    }

    public int ruled(int what) {
        if (!now.crossing.there || !within(what, 0, 1)) {
            return NOT_ASKED;
        }
        int how = futures.rulesThatAreSo(now, rules, ruleCount);
        if (what == 0) {
            return Integer.bitCount(how);
        }
        // Bit 0 stands for no RULE, so that the first bit less 1 is the answer.
        return how == 0 ? NOT_SO : firstBit(how) - 1;
    }

    public int look(int n, int what) {
        if (!now.crossing.there || !within(n, 0, LAST_TRIP) || !within(what, 0, 1)) {
            return NONE;
        }
        int how = futures.rulesThatAreSo(now, rules, ruleCount);
        if (how == 0 || now.crossing.people == 0) {
            return NOT_SO;
        }
        futures.part(now, rules, how, n);
        return what == 0 ? futures.bestParted : futures.mostAlike;
    }

    public int seed(int x) {
        if (x < 0) {
            return NONE;
        }
        int was = now.x;
        now.x = x;
        return was;
    }

    public int fogs(int m, int n, int p, int what) {
        if (!now.crossing.there || !within(m, 1, FOGS_TIMES) || !within(n, 1, FOGS_TRIPS)
                || !within(p, 0, PERCENT) || !within(what, 0, 1)) {
            return NONE;
        }
        futures.drawFogs(now, ruleInForce(), m, n, p);
        return what == 0 ? futures.overInFog : futures.shippedInFog;
    }

    public int count(int what) {
        switch (what) {
            case 0:
                return now.crossing.load;
            case 1:
                return now.crossing.seats;
            case 2:
                return now.crossing.fog;
            case 3:
                return now.crossing.people;
            case 4:
                return ruleCount;
            case 5:
                return now.force;
            case 6:
                return now.river.hour;
            case 7:
                return now.river.boat;
            case 8:
                return now.river.far;
            case 9:
                return now.river.shipped;
            case 10:
                return now.river.bottom;
            case 11:
                return now.isFog() ? 1 : 0;
            case 12:
                return now.noteCount;
            case 13:
                return pastSize;
            case 14:
                return now.x;
            case 15:
                return tape.size;
            default:
                return NONE;
        }
    }

    public int image(int k) {
        if (!within(k, 0, IMAGES - 1)) {
            return NONE;
        }
        images[k].copyFrom(now);
        images[k].made = true;
        return now.river.hour;
    }

    public int back(int k) {
        if (!within(k, 0, IMAGES - 1) || !images[k].made) {
            return NONE;
        }
        now.copyFrom(images[k]);
        forgetActs();
        return now.river.hour;
    }

    private static boolean within(int number, int least, int most) {
        return number >= least && number <= most;
    }

    private static int firstBit(int set) {
        return Integer.bitCount((set & -set) - 1);
    }

    private Rule ruleInForce() {
        return within(now.force, 0, RULES_MOST - 1) ? rules[now.force] : null;
    }

    private void rememberAct() {
        past[pastNext].copyFrom(now.river);
        pastNext = (pastNext + 1) % ACTS_KEPT;
        pastSize = Math.min(ACTS_KEPT, pastSize + 1);
    }

    private void forgetActs() {
        pastSize = 0;
        pastNext = 0;
    }

    /** The bytes that were fed and not yet read. */
    private static final class Tape {
        static final int END = -1;

        private final byte[] bytes = new byte[TAPE_MOST];
        int size;

        void add(int number) {
            for (int shift = 24; shift >= 0; shift -= 8) {
                if (size < TAPE_MOST) {
                    bytes[size] = (byte) (number >> shift);
                    size++;
                }
            }
        }

        int at(int place) {
            return place >= 0 && place < size ? bytes[place] & 255 : END;
        }
    }

    /** What the two languages have in common; the first fault stays, and all reading stops at it. */
    private abstract static class Reader {
        static final int CANT_STAND = 0;
        static final int BAD_NUMBER = 1;
        static final int TOO_DEEP = 2;
        static final int TOO_MANY = 3;
        static final int BAD_CLAUSE = 4;
        static final int DIGITS_MOST = 5;
        static final int NUMBER_MOST = 99999;

        final Tape tape;
        int at;
        int fault;

        Reader(Tape tape) {
            this.tape = tape;
        }

        boolean allow(boolean fine, int place, int kind) {
            if (!fine && fault == 0) {
                fault = 1 + 8 * place + kind;
            }
            return fine;
        }

        int skipBlanks() {
            for (int k = 0; k < TAPE_MOST && tape.at(at) == ' '; k++) {
                at++;
            }
            return at;
        }

        boolean takeSign(char sign) {
            skipBlanks();
            boolean there = tape.at(at) == sign;
            if (there) {
                at++;
            }
            return there;
        }

        boolean takeWord(String word) {
            skipBlanks();
            return takeWordHere(word);
        }

        boolean takeWordHere(String word) {
            int length = word.length();
            for (int k = 0; k < length; k++) {
                if (tape.at(at + k) != word.charAt(k)) {
                    return false;
                }
            }
            int behind = tape.at(at + length);
            if (behind >= 'a' && behind <= 'z') {
                return false;
            }
            at += length;
            return true;
        }

        boolean isDigit(int sign) {
            return sign >= '0' && sign <= '9';
        }

        int takeNumber(int least, int most) {
            skipBlanks();
            return takeNumberHere(least, most);
        }

        int takeNumberHere(int least, int most) {
            int from = at;
            int value = 0;
            for (int k = 0; k < TAPE_MOST && isDigit(tape.at(at)); k++) {
                if (k < DIGITS_MOST) {
                    value = value * 10 + tape.at(at) - '0';
                }
                at++;
            }
            boolean asTold = at - from <= DIGITS_MOST && value >= least && value <= most;
            if (allow(at > from, from, CANT_STAND)) {
                allow(asTold, from, BAD_NUMBER);
            }
            return value;
        }

        /** Behind a CLAUSE: whether another must follow. */
        boolean goesOn() {
            if (fault != 0 || takeSign(';')) {
                return fault == 0;
            }
            allow(tape.at(at) == Tape.END, at, CANT_STAND);
            return false;
        }
    }

    /** Reads the TAPE as a CROSSING. */
    private static final class CrossingReader extends Reader {
        private static final int CLAUSES_MOST = 40;

        private Crossing into;

        CrossingReader(Tape tape) {
            super(tape);
        }

        int read(Crossing crossing) {
            into = crossing;
            into.clear();
            at = 0;
            fault = 0;
            boolean more = true;
            for (int clause = 0; more && clause <= CLAUSES_MOST; clause++) {
                readClause(clause);
                more = goesOn();
            }
            return fault;
        }

        private void readClause(int clause) {
            int place = skipBlanks();
            boolean fine = clause > 0 && clause < CLAUSES_MOST;
            boolean roomForOne = fine && into.people < PEOPLE_MOST;
            if (takeWord("ferry")) {
                readBoat(clause == 0, place);
            } else if (takeWord("person")) {
                readPerson(roomForOne, place);
            } else if (takeWord("cork")) {
                readCork(roomForOne, place);
            } else if (takeWord("beside")) {
                readBeside(fine, place);
            } else if (takeWord("fog")) {
                readFog(fine, place);
            } else {
                allow(false, place, CANT_STAND);
            }
        }

        private void readBoat(boolean fine, int place) {
            if (allow(fine, place, BAD_CLAUSE)) {
                into.there = true;
                into.load = takeNumber(0, 99);
                into.seats = takeNumber(1, 7);
                into.fog = takeNumber(0, 20);
            }
        }

        private void readPerson(boolean fine, int place) {
            if (allow(fine, place, BAD_CLAUSE)) {
                int aim = takeNumber(0, 40);
                int grows = takeNumber(0, 9);
                into.add(aim, grows, 0);
            }
        }

        private void readCork(boolean fine, int place) {
            if (allow(fine, place, BAD_CLAUSE)) {
                into.add(0, 0, takeNumber(1, 20));
            }
        }

        private void readBeside(boolean fine, int place) {
            if (allow(fine, place, BAD_CLAUSE)) {
                int one = takeNumber(0, into.people - 1);
                int from = skipBlanks();
                int other = takeNumber(0, into.people - 1);
                allow(other != one, from, BAD_NUMBER);
                int extra = takeNumber(0, 9);
                if (fault == 0) {
                    into.setExtra(one, other, extra);
                }
            }
        }

        private void readFog(boolean fine, int place) {
            if (allow(fine, place, BAD_CLAUSE)) {
                int hour = takeNumber(0, TOLD_HOUR);
                if (fault == 0) {
                    into.fogHours |= 1L << hour;
                }
            }
        }
    }

    /** Reads the TAPE as a RULE, into code for a stack: what stands behind its parts works on them. */
    private static final class RuleReader extends Reader {
        private static final int CLAUSES_MOST = 12;
        private static final int DEPTH_MOST = 10;
        private static final int PARTS_MOST = 60;
        private static final int CODE_MOST = 512;

        private final int[] code = new int[CODE_MOST];
        private int size;
        private int parts;

        RuleReader(Tape tape) {
            super(tape);
        }

        int read() {
            at = 0;
            fault = 0;
            size = 0;
            parts = 0;
            boolean more = true;
            for (int clause = 0; more && clause <= CLAUSES_MOST; clause++) {
                readClause(clause);
                more = goesOn();
            }
            return fault;
        }

        Rule made() {
            return new Rule(Arrays.copyOf(code, Math.min(size, CODE_MOST)));
        }

        private void put(int op, int much) {
            if (size < CODE_MOST) {
                code[size] = much * Rule.OPS + op;
                size++;
            }
        }

        private void countPart(int place) {
            parts++;
            allow(parts <= PARTS_MOST, place, TOO_MANY);
        }

        private void readClause(int clause) {
            int place = skipBlanks();
            if (!allow(takeWord("board"), place, CANT_STAND)
                    || !allow(clause < CLAUSES_MOST, place, BAD_CLAUSE)) {
                return;
            }
            readSum();
            if (fault == 0 && takeWord("if")) {
                readTest(0);
                put(Rule.GIVE_IF, 0);
            } else {
                put(Rule.GIVE, 0);
            }
        }

        private void readTest(int depth) {
            readPart(depth);
            for (int k = 0; k < TAPE_MOST && fault == 0 && takeWord("or"); k++) {
                readPart(depth);
                put(Rule.OR, 0);
            }
        }

        private void readPart(int depth) {
            readFact(depth);
            for (int k = 0; k < TAPE_MOST && fault == 0 && takeWord("and"); k++) {
                readFact(depth);
                put(Rule.AND, 0);
            }
        }

        private void readFact(int depth) {
            int place = skipBlanks();
            if (takeWord("not")) {
                if (allow(depth < DEPTH_MOST, place, TOO_DEEP)) {
                    readFact(depth + 1);
                    put(Rule.NOT, 0);
                }
            } else if (takeSign('[')) {
                if (allow(depth < DEPTH_MOST, place, TOO_DEEP)) {
                    readTest(depth + 1);
                    allow(fault != 0 || takeSign(']'), at, CANT_STAND);
                }
            } else {
                readSum();
                int op = fault == 0 ? takeComparison() : Rule.EQUAL;
                if (fault == 0) {
                    readSum();
                    put(op, 0);
                }
            }
        }

        private int takeComparison() {
            int place = skipBlanks();
            int sign = tape.at(place);
            if (!allow(sign == '<' || sign == '=' || sign == '>', place, CANT_STAND)) {
                return Rule.EQUAL;
            }
            countPart(place);
            at++;
            boolean wide = sign != '=' && tape.at(at) == '=';
            if (wide) {
                at++;
            }
            if (sign == '<') {
                return wide ? Rule.LESS_EQUAL : Rule.LESS;
            }
            if (sign == '>') {
                return wide ? Rule.MORE_EQUAL : Rule.MORE;
            }
            return Rule.EQUAL;
        }

        /** A sign between TERMS waits until the TERM behind it is whole; one between VALUES does not. */
        private void readSum() {
            int waiting = NONE;
            readValue();
            for (int k = 0; k < TAPE_MOST && fault == 0; k++) {
                int op = operation(tape.at(skipBlanks()));
                if (op == NONE) {
                    break;
                }
                at++;
                if (op == Rule.PLUS || op == Rule.MINUS) {
                    if (waiting != NONE) {
                        put(waiting, 0);
                    }
                    waiting = op;
                    readValue();
                } else {
                    readValue();
                    put(op, 0);
                }
            }
            if (waiting != NONE) {
                put(waiting, 0);
            }
        }

        private int operation(int sign) {
            switch (sign) {
                case '+':
                    return Rule.PLUS;
                case '-':
                    return Rule.MINUS;
                case '*':
                    return Rule.TIMES;
                case '/':
                    return Rule.BY;
                case '%':
                    return Rule.REST;
                default:
                    return NONE;
            }
        }

        private void readValue() {
            int place = skipBlanks();
            if (isDigit(tape.at(place))) {
                put(Rule.NUMBER, takeNumberHere(0, NUMBER_MOST));
                countPart(place);
                return;
            }
            for (int word = 0; word < Rule.WORDS; word++) {
                if (takeWordHere(valueWord(word))) {
                    put(Rule.WORD, word);
                    countPart(place);
                    return;
                }
            }
            allow(false, place, CANT_STAND);
        }

        private String valueWord(int word) {
            switch (word) {
                case Rule.W_PERSON:
                    return "person";
                case Rule.W_AIM:
                    return "aim";
                case Rule.W_GROWS:
                    return "grows";
                case Rule.W_LIGHT:
                    return "light";
                case Rule.W_SIDE:
                    return "side";
                case Rule.W_HOUR:
                    return "hour";
                case Rule.W_WEIGHT:
                    return "weight";
                case Rule.W_ROOM:
                    return "room";
                case Rule.W_ABOARD:
                    return "aboard";
                case Rule.W_WAITS:
                    return "waits";
                case Rule.W_MORE:
                    return "more";
                default:
                    return "fog";
            }
        }
    }

    /** A RULE that was read: its code, which says by the values of the WORDS how much a PERSON counts. */
    private static final class Rule {
        static final int OPS = 32;
        static final int NUMBER = 0;
        static final int WORD = 1;
        static final int NOT = 2;
        static final int GIVE = 3;
        static final int GIVE_IF = 4;
        static final int PLUS = 5;
        static final int MINUS = 6;
        static final int TIMES = 7;
        static final int BY = 8;
        static final int REST = 9;
        static final int LESS = 10;
        static final int LESS_EQUAL = 11;
        static final int EQUAL = 12;
        static final int MORE_EQUAL = 13;
        static final int MORE = 14;
        static final int AND = 15;
        static final int OR = 16;

        static final int WORDS = 12;
        static final int W_PERSON = 0;
        static final int W_AIM = 1;
        static final int W_GROWS = 2;
        static final int W_LIGHT = 3;
        static final int W_SIDE = 4;
        static final int W_HOUR = 5;
        static final int W_WEIGHT = 6;
        static final int W_ROOM = 7;
        static final int W_ABOARD = 8;
        static final int W_WAITS = 9;
        static final int W_MORE = 10;
        static final int W_FOG = 11;

        // 10 deep, two signs that wait a level, and a FACT's own make 26 at most.
        static final int STACK = 40;

        private final int[] code;

        Rule(int[] code) {
            this.code = code;
        }

        long sumFor(long[] words, long[] stack) {
            int top = 0;
            for (int k = 0; k < code.length; k++) {
                int op = code[k] % OPS;
                int much = code[k] / OPS;
                // Code that was read whole never needs this: no index is used unseen.
                if (top < needs(op) || top >= stack.length) {
                    return 0;
                }
                if (op == NUMBER) {
                    stack[top++] = much;
                } else if (op == WORD) {
                    stack[top++] = much < words.length ? words[much] : 0;
                } else if (op == NOT) {
                    stack[top - 1] = 1 - stack[top - 1];
                } else if (op == GIVE) {
                    return stack[top - 1];
                } else if (op == GIVE_IF) {
                    top -= 2;
                    if (stack[top + 1] != 0) {
                        return stack[top];
                    }
                } else {
                    top--;
                    stack[top - 1] = joined(op, stack[top - 1], stack[top]);
                }
            }
            return 0;
        }

        private static int needs(int op) {
            if (op <= WORD) {
                return 0;
            }
            return op <= GIVE ? 1 : 2;
        }

        private static long joined(int op, long left, long right) {
            switch (op) {
                case PLUS:
                    return left + right;
                case MINUS:
                    return left - right;
                case TIMES:
                    return left * right;
                case BY:
                    return right == 0 ? 0 : left / right;
                case REST:
                    return right == 0 ? 0 : left % right;
                case LESS:
                    return left < right ? 1 : 0;
                case LESS_EQUAL:
                    return left <= right ? 1 : 0;
                case EQUAL:
                    return left == right ? 1 : 0;
                case MORE_EQUAL:
                    return left >= right ? 1 : 0;
                case MORE:
                    return left > right ? 1 : 0;
                case AND:
                    return left & right;
                default:
                    return left | right;
            }
        }
    }

    /** What a text told; nothing of it changes once it was read. */
    private static final class Crossing {
        boolean there;
        int load;
        int seats;
        int fog;
        int people;
        long fogHours;
        final int[] aims = new int[PEOPLE_MOST];
        final int[] grows = new int[PEOPLE_MOST];
        final int[] lights = new int[PEOPLE_MOST];
        private final int[] extras = new int[PEOPLE_MOST * PEOPLE_MOST];

        void clear() {
            there = false;
            load = 0;
            seats = 0;
            fog = 0;
            people = 0;
            fogHours = 0;
            Arrays.fill(extras, 0);
        }

        void add(int aim, int grow, int light) {
            if (people < PEOPLE_MOST) {
                aims[people] = aim;
                grows[people] = grow;
                lights[people] = light;
                people++;
            }
        }

        boolean has(int person) {
            return person >= 0 && person < people;
        }

        int everybody() {
            return (1 << people) - 1;
        }

        boolean hasAll(int set) {
            return (set & ~everybody()) == 0;
        }

        void setExtra(int one, int other, int extra) {
            if (has(one) && has(other)) {
                extras[one * PEOPLE_MOST + other] = extra;
                extras[other * PEOPLE_MOST + one] = extra;
            }
        }

        int extra(int one, int other) {
            return has(one) && has(other) ? extras[one * PEOPLE_MOST + other] : 0;
        }

        int extraAmong(int person, int set) {
            int sum = 0;
            for (int other = 0; other < people; other++) {
                if ((set >> other & 1) == 1 && person >= 0 && person < people) {
                    sum += extras[person * PEOPLE_MOST + other];
                }
            }
            return sum;
        }

        int lightOf(int set) {
            int sum = 0;
            for (int person = 0; person < people; person++) {
                if ((set >> person & 1) == 1) {
                    sum += lights[person];
                }
            }
            return sum;
        }

        boolean isFog(int hour) {
            return hour >= 0 && hour <= TOLD_HOUR && (fogHours >> hour & 1) == 1;
        }

        /** WEIGHT of what is aboard by its AIMS and twos together, and by what lightens it. */
        int burden(int full, int light, int boat, boolean foggy) {
            int weight = boat == 1 ? full / 2 : full;
            if (foggy) {
                weight += fog;
            }
            return Math.max(0, weight - light);
        }
    }

    /** How it stands: all that ACTS change. */
    private static final class River {
        int hour;
        int boat;
        int far;
        int shipped;
        int bottom;
        final int[] aims = new int[PEOPLE_MOST];

        void begin(Crossing crossing) {
            hour = 0;
            boat = 0;
            far = 0;
            shipped = 0;
            bottom = 0;
            System.arraycopy(crossing.aims, 0, aims, 0, PEOPLE_MOST);
        }

        void copyFrom(River other) {
            hour = other.hour;
            boat = other.boat;
            far = other.far;
            shipped = other.shipped;
            bottom = other.bottom;
            System.arraycopy(other.aims, 0, aims, 0, PEOPLE_MOST);
        }

        int sideOf(int person) {
            return far >> person & 1;
        }

        int here(Crossing crossing) {
            return boat == 1 ? far : crossing.everybody() & ~far;
        }

        boolean areHere(Crossing crossing, int set) {
            return (set & ~here(crossing)) == 0;
        }

        boolean allOver(Crossing crossing) {
            return far == crossing.everybody();
        }

        /** All AIMS of a set and what its twos weigh more. */
        int fullWeight(Crossing crossing, int set) {
            int sum = 0;
            for (int person = 0; person < crossing.people; person++) {
                if ((set >> person & 1) == 1) {
                    int before = set & ((1 << person) - 1);
                    sum += aims[person] + crossing.extraAmong(person, before);
                }
            }
            return sum;
        }

        int weigh(Crossing crossing, int set, boolean fog) {
            return crossing.burden(fullWeight(crossing, set), crossing.lightOf(set), boat, fog);
        }

        boolean canBoard(Crossing crossing, int set, boolean fog) {
            return areHere(crossing, set) && Integer.bitCount(set) <= crossing.seats
                    && weigh(crossing, set, fog) <= crossing.load;
        }

        void grow(Crossing crossing, int set) {
            for (int person = 0; person < crossing.people; person++) {
                if ((set >> person & 1) == 1 && aims[person] > 0) {
                    aims[person] = Math.min(AIM_MOST, aims[person] + crossing.grows[person]);
                }
            }
        }

        /** A set that CAN BOARD crosses: whether it is over. */
        boolean carry(Crossing crossing, int set, boolean fog) {
            grow(crossing, set);
            boolean arrives = weigh(crossing, set, fog) <= crossing.load;
            if (arrives) {
                far ^= set;
                boat = 1 - boat;
            } else {
                shipped++;
            }
            hour++;
            return arrives;
        }
    }

    /** All that an IMAGE keeps. */
    private static final class Scene {
        private static final int NOTE_TRIPS = 64;

        Crossing crossing;
        final River river = new River();
        int force = NONE;
        int x;
        int noteCount;
        boolean made;
        private final int[] notes = new int[NOTES_MOST];

        Scene(Crossing crossing) {
            this.crossing = crossing;
        }

        void begin(Crossing told) {
            crossing = told;
            river.begin(told);
            noteCount = 0;
        }

        void copyFrom(Scene other) {
            crossing = other.crossing;
            river.copyFrom(other.river);
            force = other.force;
            x = other.x;
            noteCount = other.noteCount;
            System.arraycopy(other.notes, 0, notes, 0, NOTES_MOST);
        }

        boolean isFog() {
            return crossing.isFog(river.hour);
        }

        void addNote(int n, int person, int side) {
            if (noteCount < NOTES_MOST) {
                notes[noteCount] = (person * 2 + side) * NOTE_TRIPS + n;
                noteCount++;
            }
        }

        int lastNoted() {
            int last = NONE;
            for (int k = 0; k < noteCount; k++) {
                last = Math.max(last, notes[k] % NOTE_TRIPS);
            }
            return last;
        }

        /** Whether all NOTES of TRIP n are so, as it is behind that TRIP. */
        boolean agrees(int n, River then) {
            for (int k = 0; k < noteCount; k++) {
                int told = notes[k] / NOTE_TRIPS;
                if (notes[k] % NOTE_TRIPS == n && then.sideOf(told / 2) != told % 2) {
                    return false;
                }
            }
            return true;
        }
    }

    /** Makes TRIPS. */
    private static final class Pilot {
        private final long[] words = new long[Rule.WORDS];
        private final long[] stack = new long[Rule.STACK];
        private Crossing crossing;
        private River river;
        private Rule rule;
        private boolean fog;
        private int aboard;
        private int full;
        private int light;

        /** One TRIP, of no RULE if it is null: who was aboard. */
        int sail(Crossing told, River stream, Rule inForce, boolean drawnFog) {
            crossing = told;
            river = stream;
            rule = inForce;
            fog = drawnFog || told.isFog(stream.hour);
            aboard = 0;
            full = 0;
            light = 0;
            for (int k = 0; k < PEOPLE_MOST; k++) {
                int next = nextAboard();
                if (next == NONE) {
                    break;
                }
                full = fullWith(next);
                light += crossing.lights[next];
                aboard |= 1 << next;
            }
            if (aboard == 0 && !river.canBoard(crossing, 0, fog)) {
                river.hour++;
            } else {
                river.carry(crossing, aboard, fog);
            }
            return aboard;
        }

        private int fullWith(int person) {
            return full + river.aims[person] + crossing.extraAmong(person, aboard);
        }

        private int nextAboard() {
            int best = NONE;
            if (Integer.bitCount(aboard) >= crossing.seats || (rule == null && river.boat == 1)) {
                return best;
            }
            int waiting = river.here(crossing) & ~aboard;
            int weight = crossing.burden(full, light, river.boat, fog);
            tellAll(weight, Integer.bitCount(waiting));
            long bestSum = 0;
            for (int person = 0; person < crossing.people; person++) {
                if ((waiting >> person & 1) == 1) {
                    int lighter = light + crossing.lights[person];
                    int with = crossing.burden(fullWith(person), lighter, river.boat, fog);
                    long sum = with <= crossing.load ? sumOf(person, with - weight) : 0;
                    if (sum > bestSum) {
                        best = person;
                        bestSum = sum;
                    }
                }
            }
            return best;
        }

        private void tellAll(int weight, int waiting) {
            words[Rule.W_SIDE] = river.boat;
            words[Rule.W_HOUR] = river.hour;
            words[Rule.W_WEIGHT] = weight;
            words[Rule.W_ROOM] = crossing.load - weight;
            words[Rule.W_ABOARD] = Integer.bitCount(aboard);
            words[Rule.W_WAITS] = waiting;
            words[Rule.W_FOG] = fog ? 1 : 0;
        }

        private long sumOf(int person, int more) {
            if (rule == null) {
                return 1;
            }
            words[Rule.W_PERSON] = person;
            words[Rule.W_AIM] = river.aims[person];
            words[Rule.W_GROWS] = crossing.grows[person];
            words[Rule.W_LIGHT] = crossing.lights[person];
            words[Rule.W_MORE] = more;
            return rule.sumFor(words, stack);
        }
    }

    /** What is asked of how it stands now, without TRIPS. */
    private static final class Puzzles {
        private static final int FAR_ABOVE = 1000000;

        final int[] rowBest = new int[PEOPLE_MOST];
        int rowLeast;
        private final int[] rowTried = new int[PEOPLE_MOST];
        private final River midstream = new River();
        private final int[] steps = new int[2 * SETS];
        private final int[] queue = new int[2 * SETS];
        private final boolean[] fits = new boolean[2 * SETS];
        private Crossing crossing;
        private River river;
        private boolean fog;
        private int everybody;
        private int here;

        void begin(Scene now) {
            crossing = now.crossing;
            river = now.river;
            fog = now.isFog();
            everybody = crossing.everybody();
            here = river.here(crossing);
            midstream.copyFrom(river);
            midstream.grow(crossing, everybody);
        }

        /** CAN BOARD and would not turn back; AIMS only grow, so it is enough to look at mid stream. */
        private boolean isSafe(int set) {
            return midstream.canBoard(crossing, set, fog);
        }

        int largestSafeSet() {
            int best = NONE;
            int size = -1;
            for (int set = 0; set <= everybody; set++) {
                if (Integer.bitCount(set) > size && isSafe(set)) {
                    best = set;
                    size = Integer.bitCount(set);
                }
            }
            return best;
        }

        int neverSafe() {
            int some = 0;
            for (int set = 0; set <= everybody; set++) {
                if ((set & ~some) != 0 && isSafe(set)) {
                    some |= set;
                }
            }
            return here & ~some;
        }

        int leastThrown(int set) {
            int may = crossing.load + crossing.lightOf(set) - (fog ? crossing.fog : 0);
            if (may < 0) {
                return NOT_SO;
            }
            int mayFull = river.boat == 1 ? 2 * may + 1 : may;
            int need = midstream.fullWeight(crossing, set) - mayFull;
            int least = need <= 0 ? 0 : leastFrom(0, set, need, 0, 0);
            return least < FAR_ABOVE ? least : NOT_SO;
        }

        /**
         * Each one's AIM stays, or is thrown whole, or in part down to 1 at least: of what is thrown in
         * part, the first (spilt by the limit of growth) lighten nothing, and each further one by one.
         */
        private int leastFrom(int person, int set, int need, int inPart, int thrown) {
            if (person >= crossing.people) {
                int rest = Math.max(0, need);
                return rest <= inPart ? thrown + rest : FAR_ABOVE;
            }
            int least = leastFrom(person + 1, set, need, inPart, thrown);
            int aim = river.aims[person];
            if ((set >> person & 1) == 0 || aim == 0) {
                return least;
            }
            int grown = midstream.aims[person];
            least = Math.min(least, leastFrom(person + 1, set, need - grown, inPart, thrown + aim));
            int spilt = aim + crossing.grows[person] - grown;
            int part = aim - 1 - spilt;
            if (part > 0) {
                least = Math.min(least, leastFrom(person + 1, set, need, inPart + part, thrown + spilt));
            }
            return least;
        }

        /** Goes from the end back, so that each state knows how many CROSSINGS are left; NONE: no way. */
        int fewestCrossings() {
            fillFits();
            Arrays.fill(steps, NONE);
            steps[everybody] = 0;
            steps[SETS + everybody] = 0;
            queue[0] = everybody;
            queue[1] = SETS + everybody;
            int size = 2;
            for (int k = 0; k < size && k < 2 * SETS; k++) {
                int landed = queue[k] / SETS;
                int far = queue[k] % SETS;
                int there = landed == 1 ? far : everybody & ~far;
                int from = (1 - landed) * SETS;
                for (int set = 0; set <= everybody; set++) {
                    int state = from + (far ^ set);
                    if ((set & ~there) == 0 && fits[from + set] && steps[state] == NONE && size < 2 * SETS) {
                        steps[state] = steps[queue[k]] + 1;
                        queue[size] = state;
                        size++;
                    }
                }
            }
            return steps[river.boat * SETS + river.far];
        }

        /** The least set that leaves one CROSSING less; fewestCrossings has been asked before. */
        int firstSetOf(int crossings) {
            for (int set = 0; crossings > 0 && set <= everybody; set++) {
                if ((set & ~here) == 0 && fits[river.boat * SETS + set]
                        && steps[(1 - river.boat) * SETS + (river.far ^ set)] == crossings - 1) {
                    return set;
                }
            }
            return 0;
        }

        private void fillFits() {
            for (int set = 0; set <= everybody; set++) {
                int full = river.fullWeight(crossing, set);
                int light = crossing.lightOf(set);
                boolean seated = Integer.bitCount(set) <= crossing.seats;
                fits[set] = seated && crossing.burden(full, light, 0, fog) <= crossing.load;
                fits[SETS + set] = seated && crossing.burden(full, light, 1, fog) <= crossing.load;
            }
        }

        /** Puts the best row and its sum into the fields: how long it is. */
        int findRow() {
            rowLeast = FAR_ABOVE;
            int length = Integer.bitCount(here);
            tryRow(0, length, here, 0);
            return length;
        }

        private void tryRow(int place, int length, int left, int sum) {
            // Rows come the first first, so a later one must be less to be taken.
            if (sum >= rowLeast) {
                return;
            }
            if (place >= length || place >= PEOPLE_MOST) {
                rowLeast = sum;
                System.arraycopy(rowTried, 0, rowBest, 0, PEOPLE_MOST);
                return;
            }
            for (int person = 0; person < crossing.people; person++) {
                if ((left >> person & 1) == 1) {
                    rowTried[place] = person;
                    int more = place == 0 ? 0 : crossing.extra(rowTried[place - 1], person);
                    tryRow(place + 1, length, left & ~(1 << person), sum + more);
                }
            }
        }

        int fareOf(int set, int much, int person) {
            int aims = 0;
            for (int other = 0; other < crossing.people; other++) {
                aims += (set >> other & 1) == 1 ? river.aims[other] : 0;
            }
            boolean alike = aims == 0;
            int whole = Math.max(1, alike ? Integer.bitCount(set) : aims);
            int share = much * (alike ? 1 : river.aims[person]);
            int left = much;
            int ahead = 0;
            for (int other = 0; other < crossing.people; other++) {
                if ((set >> other & 1) == 1) {
                    int its = much * (alike ? 1 : river.aims[other]);
                    left -= its / whole;
                    int lostMore = its % whole - share % whole;
                    ahead += lostMore > 0 || (lostMore == 0 && other < person) ? 1 : 0;
                }
            }
            return share / whole + (ahead < left ? 1 : 0);
        }

        int weightWithout(int person) {
            return river.weigh(crossing, here & ~(1 << person), fog);
        }

        int bestToStay() {
            int best = NONE;
            int least = FAR_ABOVE;
            for (int person = 0; person < crossing.people; person++) {
                if ((here >> person & 1) == 1 && weightWithout(person) < least) {
                    best = person;
                    least = weightWithout(person);
                }
            }
            return best;
        }
    }

    /** What is asked of TRIPS that were not made: all of them on a river of its own. */
    private static final class Futures {
        private static final int HOURS = 100;
        private static final int WAYS = 4;

        final Pilot pilot = new Pilot();
        int bestSoothed;
        int mostOver;
        int bestParted;
        int mostAlike;
        int overInFog;
        int shippedInFog;
        private final River trial = new River();
        private final int[] has = new int[2 * WAYS];
        private final int[] overBy = new int[PEOPLE_MOST];

        River after(Scene now, Rule rule, int n) {
            trial.copyFrom(now.river);
            sailOn(now.crossing, rule, n);
            return trial;
        }

        private void sailOn(Crossing crossing, Rule rule, int n) {
            for (int k = 0; k < n; k++) {
                pilot.sail(crossing, trial, rule, false);
            }
        }

        int hourAllOver(Scene now, Rule rule) {
            trial.copyFrom(now.river);
            for (int k = 0; k < HOURS; k++) {
                if (trial.allOver(now.crossing)) {
                    return trial.hour;
                }
                pilot.sail(now.crossing, trial, rule, false);
            }
            return NOT_SO;
        }

        int hourAboard(Scene now, Rule rule, int person) {
            trial.copyFrom(now.river);
            for (int k = 0; k < HOURS; k++) {
                int hour = trial.hour;
                int aboard = pilot.sail(now.crossing, trial, rule, false);
                if ((aboard >> person & 1) == 1) {
                    return hour;
                }
            }
            return NOT_SO;
        }

        /** Ways, as bits, of which neither would have more by doing otherwise. */
        int steadyWays(Scene now, Rule rule, int one, int other, int n) {
            for (int way = 0; way < WAYS; way++) {
                trial.copyFrom(now.river);
                trial.aims[one] >>= way / 2;
                trial.aims[other] >>= way % 2;
                sailOn(now.crossing, rule, n);
                has[way] = 3 * trial.sideOf(one) - way / 2;
                has[WAYS + way] = 3 * trial.sideOf(other) - way % 2;
            }
            int ways = 0;
            for (int way = 0; way < WAYS; way++) {
                if (has[way] >= has[way ^ 2] && has[WAYS + way] >= has[WAYS + (way ^ 1)]) {
                    ways |= 1 << way;
                }
            }
            return ways;
        }

        /** Puts whose AIM were best 0 (NONE: nobody's) and how many are on SIDE 1 then into the fields. */
        void findSoothed(Scene now, Rule rule, int n) {
            bestSoothed = NONE;
            mostOver = -1;
            for (int person = NONE; person < now.crossing.people; person++) {
                trial.copyFrom(now.river);
                if (person >= 0) {
                    trial.aims[person] = 0;
                }
                sailOn(now.crossing, rule, n);
                int over = Integer.bitCount(trial.far);
                if (over > mostOver) {
                    bestSoothed = person;
                    mostOver = over;
                }
            }
        }

        /** As bits, of which bit 0 is no RULE, and bit k + 1 is RULE k. */
        int rulesThatAreSo(Scene now, Rule[] rules, int ruleCount) {
            int so = isSo(now, null) ? 1 : 0;
            for (int k = 0; k < ruleCount && k < rules.length; k++) {
                if (isSo(now, rules[k])) {
                    so |= 2 << k;
                }
            }
            return so;
        }

        private boolean isSo(Scene now, Rule rule) {
            int last = now.lastNoted();
            trial.begin(now.crossing);
            // TRIP 0 is the first of all, so even a NOTE of n 0 has one TRIP ahead of it.
            for (int n = 0; n <= last; n++) {
                pilot.sail(now.crossing, trial, rule, false);
                if (!now.agrees(n, trial)) {
                    return false;
                }
            }
            return true;
        }

        /** Puts the PERSON by whose SIDE the RULES that are so part best into the fields. */
        void part(Scene now, Rule[] rules, int so, int n) {
            Arrays.fill(overBy, 0);
            for (int k = 0; k <= rules.length; k++) {
                if ((so >> k & 1) == 1) {
                    trial.begin(now.crossing);
                    // Behind TRIP n there were n + 1, since the first of all is TRIP 0.
                    sailOn(now.crossing, k == 0 ? null : rules[k - 1], n + 1);
                    for (int person = 0; person < now.crossing.people; person++) {
                        overBy[person] += trial.sideOf(person);
                    }
                }
            }
            int all = Integer.bitCount(so);
            bestParted = NONE;
            mostAlike = all + 1;
            for (int person = 0; person < now.crossing.people; person++) {
                int alike = Math.max(overBy[person], all - overBy[person]);
                if (alike < mostAlike) {
                    bestParted = person;
                    mostAlike = alike;
                }
            }
        }

        void drawFogs(Scene now, Rule rule, int m, int n, int p) {
            long x = now.x;
            overInFog = 0;
            shippedInFog = 0;
            for (int time = 0; time < m; time++) {
                trial.copyFrom(now.river);
                for (int k = 0; k < n; k++) {
                    x = (x * 1103515245L + 12345L) & 2147483647L;
                    boolean drawn = x / 65536 % PERCENT < p;
                    pilot.sail(now.crossing, trial, rule, drawn);
                }
                overInFog += Integer.bitCount(trial.far);
                shippedInFog += trial.shipped - now.river.shipped;
            }
        }
    }
}
