/**
 * A town under one pane: cells that bear or crack, people who hold them up with poles, hour by hour.
 *
 * Every row is made in a constructor and used again: no call makes an object.
 */
public final class OnePane {
    public static final int NONE = -1;
    public static final long NOTHING = -1000000000000000L;

    private static final int TAPE_ROOM = 1600;
    private static final int FED_BYTES = 20;
    private static final int MOST_STATEMENTS = 80;
    private static final int MOST_SIDE = 6;
    private static final int LEAST_SIDE = 2;
    private static final int MOST_CELLS = 36;
    private static final int MOST_PEOPLE = 10;
    private static final int MOST_SETS = 1024;
    private static final int MOST_LIFTED = 990;
    private static final int MOST_OPEN = 6;
    private static final int MOST_KEPT = 40;
    private static final int MOST_UNDONE = 20;
    private static final int MOST_SOUNDS = 12;
    private static final int SOUND_BYTES = 4;
    private static final int SOUND_SHIFT = 500;
    private static final int NAME_LETTERS = 6;
    private static final int NUMBER_DIGITS = 4;
    private static final int LAST_HOUR = 999;
    private static final int MOST_TIRED = 99;
    private static final int MOST_ADDED = 999;
    private static final int MOST_AHEAD = 60;
    private static final int MOST_PLANNED = 30;
    private static final int MOST_PASSED = 100;
    private static final int MOST_STRONGER = 99;
    private static final int FAR_NUMBER = 1000000;
    private static final int HUNDRED = 100;
    private static final int SMALL_NUMBER = 99;
    private static final int IMAGE_ROOM = 80;
    private static final int KINDS_REFUSED = 6;

    private static final int FAULT_TEXT = 1;
    private static final int FAULT_NUMBER = 2;
    private static final int FAULT_NAME = 3;
    private static final int FAULT_DEPTH = 4;
    private static final int FAULT_MANY = 5;

    private static final int TOKEN_END = 0;
    private static final int TOKEN_WORD = 1;
    private static final int TOKEN_NUMBER = 2;
    private static final int TOKEN_SIGN = 3;
    private static final int TOKEN_LONG_WORD = 4;
    private static final int TOKEN_LONG_NUMBER = 5;
    /** A token that can't be: behind a fault, or without the blank that it needs. */
    private static final int TOKEN_BROKEN = 6;

    private static final int IN_ADDS = 0;
    private static final int IN_HOLDS = 1;
    private static final int IN_QUESTION = 2;

    /** The own words, in the order of the numbers below, and behind them the words that begin a question. */
    private static final String WORDS = "pane by tough heavy pole at lifts adds holds fades stone hail hour cracks weight tired near number column row far or and not all min max first last often total most least ";
    private static final int WORD_COUNT = 33;
    private static final int OWN_WORDS = 27;
    private static final int W_PANE = 0;
    private static final int W_BY = 1;
    private static final int W_TOUGH = 2;
    private static final int W_HEAVY = 3;
    private static final int W_POLE = 4;
    private static final int W_AT = 5;
    private static final int W_LIFTS = 6;
    private static final int W_ADDS = 7;
    private static final int W_HOLDS = 8;
    private static final int W_FADES = 9;
    private static final int W_STONE = 10;
    private static final int W_HAIL = 11;
    private static final int W_HOUR = 12;
    private static final int W_CRACKS = 13;
    private static final int W_WEIGHT = 14;
    private static final int W_TIRED = 15;
    private static final int W_NEAR = 16;
    private static final int W_NUMBER = 17;
    private static final int W_COLUMN = 18;
    private static final int W_ROW = 19;
    private static final int W_FAR = 20;
    private static final int W_OR = 21;
    private static final int W_AND = 22;
    private static final int W_NOT = 23;
    private static final int W_ALL = 24;
    private static final int W_MIN = 25;
    private static final int W_MAX = 26;
    private static final int W_FIRST = 27;
    private static final int W_LAST = 28;
    private static final int W_OFTEN = 29;
    private static final int W_TOTAL = 30;
    private static final int W_MOST = 31;
    private static final int W_LEAST = 32;

    /** What a letter at each place of a name is worth, so that a whole name is one number. */
    private static final int[] LETTER_WORTH = {14348907, 531441, 19683, 729, 27, 1};
    private static final int LETTER_RANGE = 27;
    private static final int BEFORE_A = 96;

    private final Tape tape = new Tape(TAPE_ROOM);
    private final Tape written = new Tape(IMAGE_ROOM);
    private final Program question = new Program();
    /** What the latest pane told; the next one is read into the draft, so that all stays if it has a fault. */
    private Plan plan = new Plan();
    private Plan draft = new Plan();
    private final Reader reader = new Reader();
    private final Grammar grammar = new Grammar(reader, question);
    private final Statements statements = new Statements(reader, grammar, draft);
    private final Town town = new Town();
    private final Town ahead = new Town();
    private final Past past = new Past();
    private final Sets sets = new Sets();
    private final Reckoner reckoner = new Reckoner(plan, town);
    private final int[] refused = new int[KINDS_REFUSED];
    private int draws = 1;
    private int latestFault = 0;
    private int latestPlace = NONE;

    public OnePane() {
    }

    // ---- the tape, the pane

    public int feed(int a, int b, int c, int d, int e) {
        if (tape.length + FED_BYTES > TAPE_ROOM) {
            return refusal(0);
        }
        tape.addNumber(a);
        tape.addNumber(b);
        tape.addNumber(c);
        tape.addNumber(d);
        tape.addNumber(e);
        return tape.length;
    }

    public boolean end(int n) {
        if (n < 0 || n > tape.length) {
            return denial(0);
        }
        tape.length = n;
        return true;
    }

    public int pane() {
        int count = statements.readInto(draft, tape);
        tape.length = 0;
        rememberFault();
        if (latestFault != 0) {
            return refusal(1);
        }
        Plan former = plan;
        plan = draft;
        draft = former;
        town.begin(plan);
        past.count = 0;
        sets.sounds = 0;
        return count;
    }

    public int fault(int what) {
        switch (what) {
            case 0: return latestFault;
            case 1: return latestPlace;
            default: return NONE;
        }
    }

    public int has(int what) {
        switch (what) {
            case 0: return plan.columns;
            case 1: return plan.rows;
            case 2: return plan.people;
            case 3: return town.hour;
            case 4: return Long.bitCount(town.cracked);
            case 5: return Integer.bitCount(holdersNow());
            case 6: return Integer.bitCount(town.resting);
            case 7: return town.keptCount;
            case 8: return sets.sounds;
            case 9: return past.count;
            default: return NONE;
        }
    }

    public int letter(int person, int k) {
        if (!plan.hasPerson(person) || k < 0 || k >= NAME_LETTERS) {
            return NONE;
        }
        return plan.name[person] / LETTER_WORTH[k] % LETTER_RANGE;
    }

    public int cell(int column, int row, int what) {
        if (!plan.hasCell(column, row)) {
            return NONE;
        }
        int place = plan.cellAt(column, row);
        switch (what) {
            case 0: return plan.weight[place];
            case 1: return town.isCracked(place) ? 1 : 0;
            case 2:
                balanceNow();
                return reckoner.load[place];
            case 3: return town.standing(plan, place);
            default: return NONE;
        }
    }

    public long slack(int column, int row) {
        if (!plan.hasCell(column, row)) {
            return NOTHING;
        }
        balanceNow();
        return reckoner.slack[plan.cellAt(column, row)];
    }

    public int person(int person, int what) {
        if (!plan.hasPerson(person)) {
            return NONE;
        }
        switch (what) {
            case 0: return town.column[person];
            case 1: return town.row[person];
            case 2: return plan.strength[person];
            case 3: return town.tired[person];
            case 4: return holdersNow() >> person & 1;
            case 5: return town.resting >> person & 1;
            default: return NONE;
        }
    }

    public int lifts(int person, int column, int row) {
        if (!plan.hasPerson(person) || !plan.hasCell(column, row)) {
            return NONE;
        }
        reckoner.look(plan, town, 0);
        return reckoner.lift[person * MOST_CELLS + plan.cellAt(column, row)];
    }

    public int kept(int k, int what) {
        if (k < 0 || k >= town.keptCount) {
            return NONE;
        }
        int entry = town.kept[k];
        switch (what) {
            case 0: return entry >> 6;
            case 1: return entry & 7;
            case 2: return entry >> 3 & 7;
            default: return NONE;
        }
    }

    // ---- ahead

    public int later(int n, int what) {
        if (!isAhead(n, 0, MOST_AHEAD) || what < 0 || what > 2) {
            return NONE;
        }
        lookAhead(0);
        for (int i = 0; i < n; i++) {
            reckoner.passHour(NONE);
        }
        switch (what) {
            case 0: return Long.bitCount(ahead.cracked);
            case 1: return reckoner.holders();
            default: return ahead.tiredTogether(plan.people);
        }
    }

    public int next() {
        int most = Math.min(MOST_AHEAD, LAST_HOUR - town.hour);
        lookAhead(0);
        for (int i = 1; i <= most; i++) {
            if (reckoner.passHour(NONE) != 0) {
                return i;
            }
        }
        return NONE;
    }

    public int lasts(int n) {
        if (!isAhead(n, 1, MOST_PLANNED)) {
            return NONE;
        }
        for (int stronger = 0; stronger <= MOST_STRONGER; stronger++) {
            if (staysWhole(n, stronger)) {
                return stronger;
            }
        }
        return NONE;
    }

    // ---- who holds, who stands where

    public int free() {
        return reckoner.freeOf(balanceNow());
    }

    public int needed() {
        if (!plan.isTold()) {
            return NONE;
        }
        balanceNow();
        return sets.fewest(reckoner);
    }

    public int stand(int person, int what) {
        if (!plan.hasPerson(person) || (town.resting >> person & 1) != 0) {
            return NONE;
        }
        int others = holdersNow() & ~(1 << person);
        reckoner.balance(others);
        return tellFound(reckoner.bestPlace(person), what);
    }

    public int weak(int what) {
        if (what == 2) {
            return NONE;
        }
        balanceNow();
        return tellFound(reckoner.weakest(), what);
    }

    public int mends(int n, int what) {
        if (!isAhead(n, 1, MOST_PLANNED)) {
            return NONE;
        }
        int best = NONE;
        for (int place = 0; place < plan.cells(); place++) {
            if (town.isCracked(place)) {
                int found = packed(place, crackedWithMended(place, n));
                best = best == NONE ? found : Math.min(best, found);
            }
        }
        return tellFound(best, what);
    }

    // ---- sounds

    public int sound() {
        boolean taken = plan.isTold() && sets.takeSounds(plan, tape);
        tape.length = 0;
        return taken ? sets.sounds : refusal(1);
    }

    public int who(int what) {
        if (!plan.isTold()) {
            return NONE;
        }
        balanceNow();
        sets.keepSounded(reckoner);
        switch (what) {
            case 0: return sets.howMany();
            case 1: return sets.inAll();
            case 2: return sets.inSome();
            default: return NONE;
        }
    }

    public int knock(int what) {
        balanceNow();
        sets.keepSounded(reckoner);
        return tellFound(sets.bestKnock(reckoner), what);
    }

    // ---- acts

    public boolean rest(int person, int on) {
        if (!plan.hasPerson(person) || on < 0 || on > 1 || (town.resting >> person & 1) == on) {
            return denial(2);
        }
        past.push(town);
        town.resting ^= 1 << person;
        return true;
    }

    public boolean go(int person, int column, int row) {
        if (!plan.hasPerson(person) || !plan.hasCell(column, row)
            || town.standing(plan, plan.cellAt(column, row)) != NONE) {
            return denial(2);
        }
        past.push(town);
        town.column[person] = column;
        town.row[person] = row;
        return true;
    }

    public boolean mend(int column, int row) {
        if (!plan.hasCell(column, row) || !town.isCracked(plan.cellAt(column, row))) {
            return denial(2);
        }
        past.push(town);
        town.cracked ^= 1L << plan.cellAt(column, row);
        return true;
    }

    public int hours(int n) {
        if (!plan.isTold() || n < 1 || n > MOST_PASSED) {
            return refusal(3);
        }
        past.push(town);
        reckoner.look(plan, town, 0);
        int cracked = 0;
        for (int i = 0; i < n; i++) {
            int hour = town.hour;
            long cracking = reckoner.passHour(NONE);
            town.keep(plan, hour, cracking);
            cracked += Long.bitCount(cracking);
        }
        return cracked;
    }

    public int chance(int n) {
        if (!plan.isTold() || n < 1 || n > MOST_PASSED) {
            return refusal(3);
        }
        past.push(town);
        reckoner.look(plan, town, 0);
        int hailed = 0;
        for (int i = 0; i < n; i++) {
            int struck = NONE;
            if (draw(HUNDRED) < plan.hail) {
                struck = draw(plan.cells());
                hailed++;
            }
            int hour = town.hour;
            town.keep(plan, hour, reckoner.passHour(struck));
        }
        return hailed;
    }

    public boolean undo() {
        return past.pop(town) || denial(4);
    }

    public boolean seed(int seed) {
        if (seed < 0) {
            return denial(5);
        }
        draws = seed;
        return true;
    }

    // ---- questions

    public long ask() {
        if (!plan.isTold()) {
            tape.length = 0;
            return NOTHING;
        }
        int kind = grammar.readQuestion(question, tape);
        tape.length = 0;
        rememberFault();
        if (latestFault != 0) {
            return NOTHING;
        }
        int holding = holdersNow();
        switch (kind) {
            case W_FIRST: return firstFor(holding);
            case W_LAST: return lastFor(holding);
            case W_OFTEN: return howOften(holding);
            case W_TOTAL: return total(holding);
            case W_MOST: return most(holding);
            default: return least(holding);
        }
    }

    // ---- images, refusals

    public int image() {
        written.length = 0;
        written.addByte(town.hour >> 8);
        written.addByte(town.hour & 255);
        for (int place = 0; place < plan.cells(); place++) {
            written.addByte(town.isCracked(place) ? 1 : 0);
        }
        for (int person = 0; person < plan.people; person++) {
            written.addByte(town.column[person]);
            written.addByte(town.row[person]);
            written.addByte(town.tired[person]);
            written.addByte(town.resting >> person & 1);
        }
        written.addByte(written.checkOf(written.length));
        return written.length;
    }

    public int octet(int k) {
        return written.byteAt(k);
    }

    public boolean on() {
        boolean told = plan.isTold() && ahead.readImage(plan, tape);
        tape.length = 0;
        if (!told) {
            return denial(5);
        }
        town.takeLife(ahead);
        town.keptCount = 0;
        past.count = 0;
        return true;
    }

    public int status(int what) {
        return what >= 0 && what < KINDS_REFUSED ? refused[what] : NONE;
    }

    // ---- what several calls share

    /** Counts a refusal and answers NONE, so that a call can end with it. */
    private int refusal(int kind) {
        refused[kind]++;
        return NONE;
    }

    /** The same for the calls that answer true or false. */
    private boolean denial(int kind) {
        refused[kind]++;
        return false;
    }

    private void rememberFault() {
        latestFault = reader.fault;
        latestPlace = reader.faultPlace;
    }

    private int holdersNow() {
        reckoner.look(plan, town, 0);
        return reckoner.holders();
    }

    private int balanceNow() {
        int holding = holdersNow();
        reckoner.balance(holding);
        return holding;
    }

    private boolean isAhead(int n, int low, int high) {
        return plan.isTold() && n >= low && n <= high && n <= LAST_HOUR - town.hour;
    }

    private void lookAhead(int stronger) {
        ahead.takeLife(town);
        reckoner.look(plan, ahead, stronger);
    }

    private boolean staysWhole(int n, int stronger) {
        lookAhead(stronger);
        for (int i = 0; i < n; i++) {
            if (reckoner.passHour(NONE) != 0) {
                return false;
            }
        }
        return true;
    }

    private int crackedWithMended(int place, int n) {
        lookAhead(0);
        ahead.cracked &= ~(1L << place);
        for (int i = 0; i < n; i++) {
            reckoner.passHour(NONE);
        }
        return Long.bitCount(ahead.cracked);
    }

    /** A cell and a count as one number: the least such number is the least count, of like ones the first cell. */
    private static int packed(int place, int count) {
        return count << 6 | place;
    }

    private int tellFound(int found, int what) {
        if (found == NONE || plan.columns <= 0) {
            return NONE;
        }
        switch (what) {
            case 0: return (found & 63) % plan.columns;
            case 1: return (found & 63) / plan.columns;
            case 2: return found >> 6;
            default: return NONE;
        }
    }

    private int draw(int range) {
        draws = (int) ((1103515245L * draws + 12345L) & 0x7fffffffL);
        return range > 0 ? (draws >> 6) % range : 0;
    }

    private int answerOf(int person, int holding) {
        reckoner.showAsked(person, holding);
        return reckoner.abacus.run(question);
    }

    private int firstFor(int holding) {
        for (int person = 0; person < plan.people; person++) {
            if (answerOf(person, holding) != 0) {
                return person;
            }
        }
        return NONE;
    }

    private int lastFor(int holding) {
        for (int person = plan.people - 1; person >= 0; person--) {
            if (answerOf(person, holding) != 0) {
                return person;
            }
        }
        return NONE;
    }

    private int howOften(int holding) {
        int count = 0;
        for (int person = 0; person < plan.people; person++) {
            if (answerOf(person, holding) != 0) {
                count++;
            }
        }
        return count;
    }

    private long total(int holding) {
        long together = 0;
        for (int person = 0; person < plan.people; person++) {
            together += answerOf(person, holding);
        }
        return together;
    }

    private int most(int holding) {
        int best = 0;
        for (int person = 0; person < plan.people; person++) {
            int answer = answerOf(person, holding);
            best = person == 0 ? answer : Math.max(best, answer);
        }
        return best;
    }

    private int least(int holding) {
        int best = 0;
        for (int person = 0; person < plan.people; person++) {
            int answer = answerOf(person, holding);
            best = person == 0 ? answer : Math.min(best, answer);
        }
        return best;
    }

    /** Bytes in a row, with room for so many. */
    private static final class Tape {
        final byte[] bytes;
        int length = 0;

        Tape(int room) {
            bytes = new byte[room];
        }

        void addByte(int value) {
            if (length < bytes.length) {
                bytes[length] = (byte) value;
                length++;
            }
        }

        void addNumber(int number) {
            addByte(number >> 24);
            addByte(number >> 16);
            addByte(number >> 8);
            addByte(number);
        }

        int byteAt(int k) {
            return k >= 0 && k < length && k < bytes.length ? bytes[k] & 255 : NONE;
        }

        int pairAt(int k) {
            return byteAt(k) << 8 | byteAt(k + 1);
        }

        /** The last byte of an image whose first bytes are the first of this tape. */
        int checkOf(int count) {
            int check = 127;
            for (int k = 0; k < count; k++) {
                check = (3 * check + byteAt(k)) % 251;
            }
            return check;
        }
    }

    /** The words, numbers and signs of a text one by one, and the first fault along it. */
    private static final class Reader {
        final int[] table = new int[WORD_COUNT];
        final int[] kinds = new int[TAPE_ROOM + 1];
        final int[] places = new int[TAPE_ROOM + 1];
        /** Of a word its letters, else the number or the sign. */
        final int[] values = new int[TAPE_ROOM + 1];
        /** Which of the known words it is; NONE of all others. */
        final int[] words = new int[TAPE_ROOM + 1];
        int count = 0;
        int at = 0;
        int fault = 0;
        int faultPlace = NONE;

        Reader() {
            int word = 0;
            int letters = 0;
            for (int i = 0; i < WORDS.length(); i++) {
                char sign = WORDS.charAt(i);
                if (sign == ' ') {
                    word++;
                    letters = 0;
                } else if (word < WORD_COUNT && letters < NAME_LETTERS) {
                    table[word] += (sign - BEFORE_A) * LETTER_WORTH[letters];
                    letters++;
                }
            }
        }

        /** Cuts the whole text first, so that those who read it need no look at bytes. */
        void open(Tape tape) {
            fault = 0;
            faultPlace = NONE;
            at = 0;
            count = 0;
            int place = 0;
            for (int i = 0; i < TAPE_ROOM && place < tape.length; i++) {
                int first = tape.byteAt(place);
                if (isLetter(first)) {
                    place += cutWord(tape, place);
                } else if (isDigit(first)) {
                    place += cutNumber(tape, place);
                } else {
                    if (first != 10 && first != 32) {
                        addToken(TOKEN_SIGN, place, first, NONE);
                    }
                    place++;
                }
            }
            addToken(TOKEN_END, place, NONE, NONE);
            count--;
        }

        private void addToken(int kind, int place, int value, int word) {
            if (count <= TAPE_ROOM) {
                kinds[count] = kind;
                places[count] = place;
                values[count] = value;
                words[count] = word;
                count++;
            }
        }

        private int cutWord(Tape tape, int place) {
            int size = 0;
            int letters = 0;
            for (int i = place; i < tape.length && isLetter(tape.byteAt(i)); i++) {
                if (size < NAME_LETTERS) {
                    letters += (tape.byteAt(i) - BEFORE_A) * LETTER_WORTH[size];
                }
                size++;
            }
            if (isDigit(tape.byteAt(place - 1))) {
                addToken(TOKEN_BROKEN, place, NONE, NONE);
            } else if (size > NAME_LETTERS) {
                addToken(TOKEN_LONG_WORD, place, letters, NONE);
            } else {
                addToken(TOKEN_WORD, place, letters, knownWord(letters));
            }
            return size;
        }

        private int cutNumber(Tape tape, int place) {
            int size = 0;
            int number = 0;
            for (int i = place; i < tape.length && isDigit(tape.byteAt(i)); i++) {
                if (size < NUMBER_DIGITS) {
                    number = number * 10 + tape.byteAt(i) - '0';
                }
                size++;
            }
            if (isLetter(tape.byteAt(place - 1))) {
                addToken(TOKEN_BROKEN, place, NONE, NONE);
            } else {
                addToken(size > NUMBER_DIGITS ? TOKEN_LONG_NUMBER : TOKEN_NUMBER, place, number, NONE);
            }
            return size;
        }

        private int knownWord(int letters) {
            for (int i = 0; i < WORD_COUNT; i++) {
                if (table[i] == letters) {
                    return i;
                }
            }
            return NONE;
        }

        private static boolean isLetter(int sign) {
            return sign >= 'a' && sign <= 'z';
        }

        private static boolean isDigit(int sign) {
            return sign >= '0' && sign <= '9';
        }

        /** Behind a fault no token fits anywhere, so that all who read come to their end. */
        int kindHere() {
            return fault == 0 ? kinds[at] : TOKEN_BROKEN;
        }

        int wordHere() {
            return fault == 0 && kinds[at] == TOKEN_WORD ? words[at] : NONE;
        }

        int signHere() {
            return fault == 0 && kinds[at] == TOKEN_SIGN ? values[at] : NONE;
        }

        int placeHere() {
            return places[at];
        }

        boolean hasMore() {
            return fault == 0 && kinds[at] != TOKEN_END;
        }

        void step() {
            if (at < count) {
                at++;
            }
        }

        /** The first fault counts. */
        void refuse(int kind, int place) {
            if (fault == 0) {
                fault = kind;
                faultPlace = place;
            }
        }

        void takeWord(int word) {
            if (wordHere() == word) {
                step();
            } else {
                refuse(FAULT_TEXT, places[at]);
            }
        }

        void takeSign(int sign) {
            if (signHere() == sign) {
                step();
            } else {
                refuse(FAULT_TEXT, places[at]);
            }
        }

        /** The number that stands here; low, with a fault, when none does or it can't be. */
        int takeNumber(int low, int high) {
            int kind = kindHere();
            int number = values[at];
            if (kind == TOKEN_LONG_NUMBER) {
                refuse(FAULT_TEXT, places[at] + NUMBER_DIGITS);
            } else if (kind != TOKEN_NUMBER) {
                refuse(FAULT_TEXT, places[at]);
            } else if (number < low || number > high) {
                refuse(FAULT_NUMBER, places[at]);
            } else {
                step();
                return number;
            }
            return low;
        }
    }

    /** A sum or test as it is reckoned: numbers, and words and signs as their complements, operands first. */
    private static final class Program {
        final int[] code = new int[TAPE_ROOM];
        int length = 0;

        void addNumber(int number) {
            if (length < code.length) {
                code[length] = number;
                length++;
            }
        }

        void addStep(int wordOrSign) {
            addNumber(~wordOrSign);
        }

        void setStep(int word) {
            length = 0;
            addStep(word);
        }

        boolean hasStep(int word) {
            for (int i = 0; i < length; i++) {
                if (code[i] == ~word) {
                    return true;
                }
            }
            return false;
        }
    }

    /** Reads sums, tests and questions. What is open at once is carried along, and never goes beyond its limit. */
    private static final class Grammar {
        final Reader reader;
        Program program;
        int realm = IN_QUESTION;

        Grammar(Reader reader, Program program) {
            this.reader = reader;
            this.program = program;
        }

        void readSum(Program into, int where) {
            program = into;
            realm = where;
            into.length = 0;
            sum(0);
        }

        void readTest(Program into, int where) {
            program = into;
            realm = where;
            into.length = 0;
            test(0);
        }

        /** The word with which the question begins. */
        int readQuestion(Program into, Tape tape) {
            reader.open(tape);
            int kind = reader.wordHere();
            if (kind == W_FIRST || kind == W_LAST || kind == W_OFTEN) {
                reader.step();
                readTest(into, IN_QUESTION);
            } else if (kind == W_TOTAL || kind == W_MOST || kind == W_LEAST) {
                reader.step();
                readSum(into, IN_QUESTION);
            } else {
                reader.refuse(FAULT_TEXT, reader.placeHere());
            }
            if (reader.hasMore()) {
                reader.refuse(FAULT_TEXT, reader.placeHere());
            }
            return kind;
        }

        private void test(int open) {
            both(open);
            for (int i = 0; i < TAPE_ROOM && reader.wordHere() == W_OR; i++) {
                reader.step();
                both(open);
                program.addStep(W_OR);
            }
        }

        private void both(int open) {
            fact(open);
            for (int i = 0; i < TAPE_ROOM && reader.wordHere() == W_AND; i++) {
                reader.step();
                fact(open);
                program.addStep(W_AND);
            }
        }

        private void fact(int open) {
            if (reader.wordHere() == W_NOT) {
                if (opens(open)) {
                    fact(open + 1);
                    program.addStep(W_NOT);
                }
            } else if (reader.signHere() == '[') {
                if (opens(open)) {
                    test(open + 1);
                    reader.takeSign(']');
                }
            } else if (reader.wordHere() == W_ALL) {
                reader.step();
                program.addStep(W_ALL);
            } else {
                comparison(open);
            }
        }

        private void comparison(int open) {
            sum(open);
            int sign = reader.signHere();
            if (sign == '<' || sign == '>' || sign == '=') {
                reader.step();
                sum(open);
                program.addStep(sign);
            } else {
                reader.refuse(FAULT_TEXT, reader.placeHere());
            }
        }

        private void sum(int open) {
            product(open);
            for (int i = 0; i < TAPE_ROOM && (reader.signHere() == '+' || reader.signHere() == '-'); i++) {
                int sign = reader.signHere();
                reader.step();
                product(open);
                program.addStep(sign);
            }
        }

        private void product(int open) {
            part(open);
            for (int i = 0; i < TAPE_ROOM && (reader.signHere() == '*' || reader.signHere() == '/'); i++) {
                int sign = reader.signHere();
                reader.step();
                part(open);
                program.addStep(sign);
            }
        }

        private void part(int open) {
            int word = reader.wordHere();
            int kind = reader.kindHere();
            if (kind == TOKEN_NUMBER || kind == TOKEN_LONG_NUMBER) {
                program.addNumber(reader.takeNumber(0, 9999));
            } else if (reader.signHere() == '(') {
                if (opens(open)) {
                    sum(open + 1);
                    reader.takeSign(')');
                }
            } else if (word == W_MIN || word == W_MAX) {
                reader.step();
                pair(open);
                program.addStep(word);
            } else if (word == W_FAR && realm == IN_QUESTION) {
                if (opens(open)) {
                    part(open + 1);
                    program.addStep(W_FAR);
                }
            } else if (isValue(word)) {
                reader.step();
                program.addStep(word);
            } else {
                reader.refuse(FAULT_TEXT, reader.placeHere());
            }
        }

        private void pair(int open) {
            if (reader.signHere() != '(') {
                reader.refuse(FAULT_TEXT, reader.placeHere());
            } else if (opens(open)) {
                sum(open + 1);
                reader.takeSign(',');
                sum(open + 1);
                reader.takeSign(')');
            }
        }

        private boolean opens(int open) {
            if (open >= MOST_OPEN) {
                reader.refuse(FAULT_DEPTH, reader.placeHere());
                return false;
            }
            reader.step();
            return true;
        }

        private boolean isValue(int word) {
            switch (word) {
                case W_HOUR:
                case W_CRACKS:
                    return true;
                case W_WEIGHT:
                    return realm == IN_ADDS;
                case W_LIFTS:
                case W_TIRED:
                case W_NEAR:
                    return realm != IN_ADDS;
                case W_NUMBER:
                case W_COLUMN:
                case W_ROW:
                case W_HOLDS:
                    return realm == IN_QUESTION;
                default:
                    return false;
            }
        }
    }

    /** Reads the statements of a pane into a plan. */
    private static final class Statements {
        final Reader reader;
        final Grammar grammar;
        Plan plan;

        Statements(Reader reader, Grammar grammar, Plan plan) {
            this.reader = reader;
            this.grammar = grammar;
            this.plan = plan;
        }

        /** How many statements there are, if the reader has found no fault. */
        int readInto(Plan into, Tape tape) {
            plan = into;
            into.clear();
            reader.open(tape);
            int count = 0;
            for (; count < MOST_STATEMENTS && reader.hasMore(); count++) {
                if (count == 0) {
                    readPane();
                } else {
                    readStatement();
                }
                reader.takeSign(';');
            }
            if (count == 0) {
                reader.refuse(FAULT_TEXT, reader.placeHere());
            }
            if (reader.hasMore()) {
                reader.refuse(FAULT_MANY, reader.placeHere());
            }
            return count;
        }

        private void readPane() {
            reader.takeWord(W_PANE);
            int columns = reader.takeNumber(LEAST_SIDE, MOST_SIDE);
            reader.takeWord(W_BY);
            int rows = reader.takeNumber(LEAST_SIDE, MOST_SIDE);
            plan.setSides(columns, rows);
            reader.takeWord(W_TOUGH);
            plan.tough = reader.takeNumber(0, SMALL_NUMBER);
        }

        private void readStatement() {
            switch (reader.wordHere()) {
                case W_HEAVY:
                    readHeavy();
                    break;
                case W_POLE:
                    readPole();
                    break;
                case W_ADDS:
                    readAdds();
                    break;
                case W_HOLDS:
                    readHolds();
                    break;
                case W_FADES:
                    reader.step();
                    plan.fades = reader.takeNumber(0, SMALL_NUMBER);
                    break;
                case W_STONE:
                    reader.step();
                    plan.stone = reader.takeNumber(0, SMALL_NUMBER);
                    break;
                case W_HAIL:
                    reader.step();
                    plan.hail = reader.takeNumber(0, HUNDRED);
                    break;
                default:
                    reader.refuse(FAULT_TEXT, reader.placeHere());
            }
        }

        private void readHeavy() {
            reader.step();
            int column = reader.takeNumber(0, plan.columns - 1);
            int row = reader.takeNumber(0, plan.rows - 1);
            int weight = reader.takeNumber(0, SMALL_NUMBER);
            plan.weight[plan.cellAt(column, row)] = weight;
        }

        private void readPole() {
            if (plan.people >= MOST_PEOPLE) {
                reader.refuse(FAULT_MANY, reader.placeHere());
                return;
            }
            reader.step();
            int name = takeName();
            reader.takeWord(W_AT);
            int column = reader.takeNumber(0, plan.columns - 1);
            int rowPlace = reader.placeHere();
            int row = reader.takeNumber(0, plan.rows - 1);
            if (plan.isHome(column, row)) {
                reader.refuse(FAULT_NUMBER, rowPlace);
            }
            reader.takeWord(W_LIFTS);
            int strength = reader.takeNumber(0, SMALL_NUMBER);
            plan.addPerson(name, column, row, strength);
        }

        private int takeName() {
            int kind = reader.kindHere();
            int letters = reader.values[reader.at];
            int word = reader.wordHere();
            if (kind == TOKEN_LONG_WORD) {
                reader.refuse(FAULT_TEXT, reader.placeHere() + NAME_LETTERS);
            } else if (kind != TOKEN_WORD || word >= 0 && word < OWN_WORDS) {
                reader.refuse(FAULT_TEXT, reader.placeHere());
            } else if (plan.isNamed(letters)) {
                reader.refuse(FAULT_NAME, reader.placeHere());
            } else {
                reader.step();
            }
            return letters;
        }

        private void readAdds() {
            if (plan.toldAdds) {
                reader.refuse(FAULT_MANY, reader.placeHere());
                return;
            }
            plan.toldAdds = true;
            reader.step();
            grammar.readSum(plan.adds, IN_ADDS);
            plan.addsByHour = plan.adds.hasStep(W_HOUR);
        }

        private void readHolds() {
            if (plan.toldHolds) {
                reader.refuse(FAULT_MANY, reader.placeHere());
                return;
            }
            plan.toldHolds = true;
            reader.step();
            grammar.readTest(plan.holds, IN_HOLDS);
        }
    }

    /** What the text of a pane tells. Without a pane it has no columns, rows and people. */
    private static final class Plan {
        final int[] weight = new int[MOST_CELLS];
        final int[] name = new int[MOST_PEOPLE];
        final int[] homeColumn = new int[MOST_PEOPLE];
        final int[] homeRow = new int[MOST_PEOPLE];
        final int[] strength = new int[MOST_PEOPLE];
        final Program adds = new Program();
        final Program holds = new Program();
        boolean toldAdds = false;
        boolean toldHolds = false;
        boolean addsByHour = false;
        int columns = 0;
        int rows = 0;
        int people = 0;
        int tough = 0;
        int fades = 0;
        int stone = 0;
        int hail = 0;

        void clear() {
            for (int place = 0; place < MOST_CELLS; place++) {
                weight[place] = 1;
            }
            adds.setStep(W_WEIGHT);
            holds.setStep(W_ALL);
            toldAdds = false;
            toldHolds = false;
            addsByHour = false;
            columns = 0;
            rows = 0;
            people = 0;
            tough = 0;
            fades = 3;
            stone = 20;
            hail = 0;
        }

        void setSides(int newColumns, int newRows) {
            columns = newColumns;
            rows = newRows;
        }

        boolean isTold() {
            return columns > 0;
        }

        int cells() {
            return columns * rows;
        }

        int cellAt(int column, int row) {
            return row * columns + column;
        }

        boolean hasCell(int column, int row) {
            return column >= 0 && column < columns && row >= 0 && row < rows;
        }

        boolean hasPerson(int person) {
            return person >= 0 && person < people;
        }

        boolean isNamed(int letters) {
            for (int person = 0; person < people; person++) {
                if (name[person] == letters) {
                    return true;
                }
            }
            return false;
        }

        boolean isHome(int column, int row) {
            for (int person = 0; person < people; person++) {
                if (homeColumn[person] == column && homeRow[person] == row) {
                    return true;
                }
            }
            return false;
        }

        void addPerson(int letters, int column, int row, int strong) {
            if (people < MOST_PEOPLE) {
                name[people] = letters;
                homeColumn[people] = column;
                homeRow[people] = row;
                strength[people] = strong;
                people++;
            }
        }
    }

    /** How it stands with cells and people at one time, and what is kept up to it. */
    private static final class Town {
        final int[] column = new int[MOST_PEOPLE];
        final int[] row = new int[MOST_PEOPLE];
        final int[] tired = new int[MOST_PEOPLE];
        /** Each an hour, a row and a column in one number, the oldest first. */
        final int[] kept = new int[MOST_KEPT];
        int keptCount = 0;
        int hour = 0;
        long cracked = 0;
        int resting = 0;

        void begin(Plan plan) {
            hour = 0;
            cracked = 0;
            resting = 0;
            keptCount = 0;
            for (int person = 0; person < plan.people; person++) {
                column[person] = plan.homeColumn[person];
                row[person] = plan.homeRow[person];
                tired[person] = 0;
            }
        }

        /** All but what is kept, which hours ahead have no use for. */
        void takeLife(Town other) {
            hour = other.hour;
            cracked = other.cracked;
            resting = other.resting;
            for (int person = 0; person < MOST_PEOPLE; person++) {
                column[person] = other.column[person];
                row[person] = other.row[person];
                tired[person] = other.tired[person];
            }
        }

        void takeAll(Town other) {
            takeLife(other);
            keptCount = other.keptCount;
            System.arraycopy(other.kept, 0, kept, 0, MOST_KEPT);
        }

        boolean isCracked(int place) {
            return (cracked >> place & 1) != 0;
        }

        int standing(Plan plan, int place) {
            for (int person = 0; person < plan.people; person++) {
                if (plan.cellAt(column[person], row[person]) == place) {
                    return person;
                }
            }
            return NONE;
        }

        int tiredTogether(int people) {
            int together = 0;
            for (int person = 0; person < people; person++) {
                together += tired[person];
            }
            return together;
        }

        int between(int person, int toColumn, int toRow) {
            return Math.abs(column[person] - toColumn) + Math.abs(row[person] - toRow);
        }

        void keep(Plan plan, int atHour, long cracking) {
            for (int r = 0; r < plan.rows; r++) {
                for (int c = 0; c < plan.columns; c++) {
                    if ((cracking >> plan.cellAt(c, r) & 1) != 0) {
                        keepOne(atHour << 6 | r << 3 | c);
                    }
                }
            }
        }

        private void keepOne(int entry) {
            if (keptCount < MOST_KEPT) {
                kept[keptCount] = entry;
                keptCount++;
            } else {
                System.arraycopy(kept, 1, kept, 0, MOST_KEPT - 1);
                kept[MOST_KEPT - 1] = entry;
            }
        }

        /** False when the tape is no image of the plan; then what this town tells is of no use. */
        boolean readImage(Plan plan, Tape tape) {
            int first = 2 + plan.cells();
            int last = first + 4 * plan.people;
            if (tape.length != last + 1 || tape.byteAt(last) != tape.checkOf(last)) {
                return false;
            }
            hour = tape.pairAt(0);
            cracked = 0;
            resting = 0;
            boolean fits = hour <= LAST_HOUR;
            for (int place = 0; place < plan.cells(); place++) {
                int told = tape.byteAt(2 + place);
                fits = fits && told <= 1;
                cracked |= (long) (told & 1) << place;
            }
            for (int person = 0; person < plan.people; person++) {
                fits = fits && readPerson(plan, tape, person, first + 4 * person);
            }
            return fits;
        }

        private boolean readPerson(Plan plan, Tape tape, int person, int from) {
            column[person] = tape.byteAt(from);
            row[person] = tape.byteAt(from + 1);
            tired[person] = tape.byteAt(from + 2);
            int rests = tape.byteAt(from + 3);
            resting |= (rests & 1) << person;
            for (int other = 0; other < person; other++) {
                if (between(other, column[person], row[person]) == 0) {
                    return false;
                }
            }
            return plan.hasCell(column[person], row[person]) && tired[person] <= MOST_TIRED && rests <= 1;
        }
    }

    /** The towns ahead of the last acts, in a ring. */
    private static final class Past {
        final Town[] towns = new Town[MOST_UNDONE];
        int top = 0;
        int count = 0;

        Past() {
            for (int i = 0; i < MOST_UNDONE; i++) {
                towns[i] = new Town();
            }
        }

        void push(Town town) {
            towns[top].takeAll(town);
            top = (top + 1) % MOST_UNDONE;
            count = Math.min(count + 1, MOST_UNDONE);
        }

        boolean pop(Town into) {
            if (count == 0) {
                return false;
            }
            top = (top + MOST_UNDONE - 1) % MOST_UNDONE;
            count--;
            into.takeAll(towns[top]);
            return true;
        }
    }

    /** Reckons programs on a stack, with a value for each word. */
    private static final class Abacus {
        final int[] values = new int[WORD_COUNT];
        /** 24 wait at the most: five ahead of the first bracket, three at each of six, and the last one. */
        final int[] stack = new int[40];
        /** How far each of the people stands from the one of whom it is asked. */
        final int[] far = new int[MOST_PEOPLE];
        int people = 0;

        Abacus() {
            values[W_ALL] = 1;
        }

        int run(Program program) {
            int height = 0;
            for (int i = 0; i < program.length; i++) {
                int code = program.code[i];
                int step = ~code;
                if (code >= 0 && height < stack.length) {
                    stack[height] = code;
                    height++;
                } else if (takesTwo(step) && height > 1) {
                    height--;
                    stack[height - 1] = joined(step, stack[height - 1], stack[height]);
                } else if (step == W_NOT && height > 0) {
                    stack[height - 1] = 1 - stack[height - 1];
                } else if (step == W_FAR && height > 0) {
                    stack[height - 1] = farTo(stack[height - 1]);
                } else if (step >= 0 && step < WORD_COUNT && height < stack.length) {
                    stack[height] = values[step];
                    height++;
                }
            }
            return stack[0];
        }

        private static boolean takesTwo(int step) {
            return step >= WORD_COUNT || step == W_OR || step == W_AND || step == W_MIN || step == W_MAX;
        }

        private static int joined(int step, int left, int right) {
            switch (step) {
                case W_OR: return left | right;
                case W_AND: return left & right;
                case W_MIN: return Math.min(left, right);
                case W_MAX: return Math.max(left, right);
                case '<': return left < right ? 1 : 0;
                case '>': return left > right ? 1 : 0;
                case '=': return left == right ? 1 : 0;
                case '+': return limited((long) left + right);
                case '-': return limited((long) left - right);
                case '*': return limited((long) left * right);
                case '/': return right == 0 ? 0 : Math.floorDiv(left, right);
                default: return 0;
            }
        }

        private static int limited(long value) {
            if (value > FAR_NUMBER) {
                return FAR_NUMBER;
            }
            return value < -FAR_NUMBER ? -FAR_NUMBER : (int) value;
        }

        private int farTo(int other) {
            return other >= 0 && other < people ? far[other] : 0;
        }
    }

    /** Who holds, what he lifts, what cells bear, in the town that was looked at last. */
    private static final class Reckoner {
        final Abacus abacus = new Abacus();
        final int[] lift = new int[MOST_PEOPLE * MOST_CELLS];
        final int[] near = new int[MOST_PEOPLE];
        final int[] lifted = new int[MOST_CELLS];
        final int[] load = new int[MOST_CELLS];
        final int[] slack = new int[MOST_CELLS];
        Plan plan;
        Town town;
        int stronger = 0;
        /** The set of people whose lifting stands in lifted: hours on end it stays the same one. */
        int liftedBy = NONE;
        /** The hour and the cracks whose loads stand in load, for the same reason. */
        int loadedHour = NONE;
        long loadedCracks = 0;
        /** Of the place that was tried last: how many cells crack, and the least slack. */
        int triedCount = 0;
        int triedLeast = 0;

        Reckoner(Plan plan, Town town) {
            this.plan = plan;
            this.town = town;
        }

        /** To be called again when people have moved, but not from hour to hour. */
        void look(Plan newPlan, Town newTown, int newStronger) {
            plan = newPlan;
            town = newTown;
            stronger = newStronger;
            liftedBy = NONE;
            loadedHour = NONE;
            for (int person = 0; person < plan.people; person++) {
                near[person] = countNear(person);
                measureLift(person);
            }
        }

        private int countNear(int person) {
            int count = 0;
            for (int other = 0; other < plan.people; other++) {
                if (town.between(person, town.column[other], town.row[other]) == 1) {
                    count++;
                }
            }
            return count;
        }

        private void measureLift(int person) {
            for (int row = 0; row < plan.rows; row++) {
                for (int column = 0; column < plan.columns; column++) {
                    lift[person * MOST_CELLS + plan.cellAt(column, row)] =
                        liftOver(person, town.between(person, column, row));
                }
            }
        }

        private int liftOver(int person, int steps) {
            return Math.max(0, plan.strength[person] + stronger - plan.fades * steps);
        }

        private void showTime() {
            abacus.values[W_HOUR] = town.hour;
            abacus.values[W_CRACKS] = Long.bitCount(town.cracked);
        }

        private void showPerson(int person) {
            abacus.values[W_LIFTS] = plan.strength[person] + stronger;
            abacus.values[W_TIRED] = town.tired[person];
            abacus.values[W_NEAR] = near[person];
        }

        /** A question may ask more of a person than the test of holds does. */
        void showAsked(int person, int holding) {
            showPerson(person);
            abacus.values[W_NUMBER] = person;
            abacus.values[W_COLUMN] = town.column[person];
            abacus.values[W_ROW] = town.row[person];
            abacus.values[W_HOLDS] = holding >> person & 1;
            abacus.people = plan.people;
            for (int other = 0; other < plan.people; other++) {
                abacus.far[other] = town.between(person, town.column[other], town.row[other]);
            }
        }

        int holders() {
            int holding = 0;
            showTime();
            for (int person = 0; person < plan.people; person++) {
                if ((town.resting >> person & 1) == 0) {
                    showPerson(person);
                    holding |= (abacus.run(plan.holds) & 1) << person;
                }
            }
            return holding;
        }

        /** Loads and slacks of all cells, if these people hold. */
        void balance(int holding) {
            if (!hasLoads()) {
                measureLoads();
            }
            measureLifted(holding);
            for (int place = 0; place < plan.cells(); place++) {
                slack[place] = lifted[place] + plan.tough - load[place];
            }
        }

        private boolean hasLoads() {
            boolean timeFits = loadedHour == town.hour || loadedHour != NONE && !plan.addsByHour;
            return timeFits && loadedCracks == town.cracked;
        }

        private void measureLoads() {
            loadedHour = town.hour;
            loadedCracks = town.cracked;
            for (int place = 0; place < plan.cells(); place++) {
                load[place] = plan.weight[place];
            }
            showTime();
            int summedWeight = NONE;
            int sum = 0;
            for (int row = 0; row < plan.rows && town.cracked != 0; row++) {
                for (int column = 0; column < plan.columns; column++) {
                    int place = plan.cellAt(column, row);
                    if (town.isCracked(place)) {
                        if (plan.weight[place] != summedWeight) {
                            summedWeight = plan.weight[place];
                            abacus.values[W_WEIGHT] = summedWeight;
                            sum = abacus.run(plan.adds);
                        }
                        loadNeighbours(column, row, sum);
                    }
                }
            }
        }

        private void loadNeighbours(int column, int row, int sum) {
            int more = Math.max(0, Math.min(MOST_ADDED, sum));
            addLoad(column - 1, row, more);
            addLoad(column + 1, row, more);
            addLoad(column, row - 1, more);
            addLoad(column, row + 1, more);
        }

        private void addLoad(int column, int row, int more) {
            if (plan.hasCell(column, row)) {
                load[plan.cellAt(column, row)] += more;
            }
        }

        private void measureLifted(int holding) {
            if (holding == liftedBy) {
                return;
            }
            liftedBy = holding;
            for (int place = 0; place < plan.cells(); place++) {
                lifted[place] = 0;
            }
            for (int person = 0; person < plan.people; person++) {
                if ((holding >> person & 1) != 0) {
                    for (int place = 0; place < plan.cells(); place++) {
                        lifted[place] += lift[person * MOST_CELLS + place];
                    }
                }
            }
        }

        /** One hour of the town, in which hail strikes a cell or none: what cracks, as bits. */
        long passHour(int struck) {
            int holding = holders();
            balance(holding);
            if (struck >= 0 && struck < MOST_CELLS) {
                slack[struck] -= plan.stone;
            }
            long cracking = cracking();
            town.cracked |= cracking;
            tire(holding);
            town.hour = Math.min(town.hour + 1, LAST_HOUR);
            return cracking;
        }

        private long cracking() {
            long bits = 0;
            for (int place = 0; place < plan.cells(); place++) {
                if (slack[place] < 0 && !town.isCracked(place)) {
                    bits |= 1L << place;
                }
            }
            return bits;
        }

        private void tire(int holding) {
            for (int person = 0; person < plan.people; person++) {
                if ((holding >> person & 1) != 0) {
                    town.tired[person] = Math.min(town.tired[person] + 1, MOST_TIRED);
                } else {
                    town.tired[person] = Math.max(town.tired[person] - 1, 0);
                }
            }
        }

        /** Of these who hold, by whom the slacks are balanced, those whom no cell needs. */
        int freeOf(int holding) {
            int bits = 0;
            for (int person = 0; person < plan.people; person++) {
                if ((holding >> person & 1) != 0 && !isMissed(person)) {
                    bits |= 1 << person;
                }
            }
            return bits;
        }

        private boolean isMissed(int person) {
            for (int place = 0; place < plan.cells(); place++) {
                if (!town.isCracked(place) && slack[place] >= 0
                    && slack[place] < lift[person * MOST_CELLS + place]) {
                    return true;
                }
            }
            return false;
        }

        int weakest() {
            int best = NONE;
            for (int place = 0; place < plan.cells(); place++) {
                if (!town.isCracked(place) && (best == NONE || slack[place] < slack[best])) {
                    best = place;
                }
            }
            return best;
        }

        /** Where one should stand and how many crack then, when the slacks are balanced by the others alone. */
        int bestPlace(int person) {
            int best = NONE;
            int bestLeast = 0;
            for (int row = 0; row < plan.rows; row++) {
                for (int column = 0; column < plan.columns; column++) {
                    int place = plan.cellAt(column, row);
                    int stands = town.standing(plan, place);
                    if (stands == NONE || stands == person) {
                        tryPlace(person, column, row);
                        if (best == NONE || triedCount < best >> 6
                            || triedCount == best >> 6 && triedLeast > bestLeast) {
                            best = packed(place, triedCount);
                            bestLeast = triedLeast;
                        }
                    }
                }
            }
            return best;
        }

        private void tryPlace(int person, int column, int row) {
            triedCount = 0;
            triedLeast = FAR_NUMBER;
            for (int r = 0; r < plan.rows; r++) {
                for (int c = 0; c < plan.columns; c++) {
                    int place = plan.cellAt(c, r);
                    if (!town.isCracked(place)) {
                        int steps = Math.abs(column - c) + Math.abs(row - r);
                        int tried = slack[place] + liftOver(person, steps);
                        triedCount += tried < 0 ? 1 : 0;
                        triedLeast = Math.min(triedLeast, tried);
                    }
                }
            }
        }
    }

    /** All sets of people: which of them are left, and what each lifts of a cell. */
    private static final class Sets {
        final boolean[] left = new boolean[MOST_SETS];
        final int[] lifted = new int[MOST_SETS];
        final int[] often = new int[MOST_LIFTED + 1];
        final int[] soundCell = new int[MOST_SOUNDS];
        final int[] soundSlack = new int[MOST_SOUNDS];
        int sounds = 0;
        int size = 0;

        boolean takeSounds(Plan plan, Tape tape) {
            int count = tape.length / SOUND_BYTES;
            if (count < 1 || count > MOST_SOUNDS || tape.length != count * SOUND_BYTES) {
                return false;
            }
            for (int i = 0; i < count; i++) {
                if (!plan.hasCell(tape.byteAt(i * SOUND_BYTES), tape.byteAt(i * SOUND_BYTES + 1))) {
                    return false;
                }
            }
            for (int i = 0; i < count; i++) {
                int from = i * SOUND_BYTES;
                soundCell[i] = plan.cellAt(tape.byteAt(from), tape.byteAt(from + 1));
                soundSlack[i] = tape.pairAt(from + 2) - SOUND_SHIFT;
            }
            sounds = count;
            return true;
        }

        private void keepAwake(Reckoner reckoner) {
            size = Math.min(MOST_SETS, 1 << reckoner.plan.people);
            for (int set = 0; set < size; set++) {
                left[set] = (set & reckoner.town.resting) == 0;
            }
        }

        private void measureLifted(Reckoner reckoner, int place) {
            lifted[0] = 0;
            for (int person = 0; person < reckoner.plan.people; person++) {
                int alone = 1 << person;
                int more = reckoner.lift[person * MOST_CELLS + place];
                for (int set = 0; set < alone && alone + set < MOST_SETS; set++) {
                    lifted[alone + set] = lifted[set] + more;
                }
            }
        }

        /** The sets of which all sounds are true. */
        void keepSounded(Reckoner reckoner) {
            keepAwake(reckoner);
            for (int i = 0; i < sounds; i++) {
                int place = soundCell[i];
                int due = soundSlack[i] - reckoner.plan.tough + reckoner.load[place];
                measureLifted(reckoner, place);
                for (int set = 0; set < size; set++) {
                    left[set] = left[set] && lifted[set] == due;
                }
            }
        }

        int howMany() {
            int count = 0;
            for (int set = 0; set < size; set++) {
                if (left[set]) {
                    count++;
                }
            }
            return count;
        }

        int inAll() {
            int bits = NONE;
            for (int set = 0; set < size; set++) {
                if (left[set]) {
                    bits &= set;
                }
            }
            return bits == NONE ? 0 : bits;
        }

        int inSome() {
            int bits = 0;
            for (int set = 0; set < size; set++) {
                if (left[set]) {
                    bits |= set;
                }
            }
            return bits;
        }

        /** The set with the fewest people, of like ones the least bits, by which no cell cracks. */
        int fewest(Reckoner reckoner) {
            keepAwake(reckoner);
            for (int place = 0; place < reckoner.plan.cells(); place++) {
                int due = reckoner.load[place] - reckoner.plan.tough;
                if (due > 0 && !reckoner.town.isCracked(place)) {
                    measureLifted(reckoner, place);
                    for (int set = 0; set < size; set++) {
                        left[set] = left[set] && lifted[set] >= due;
                    }
                }
            }
            int best = NONE;
            for (int set = 0; set < size; set++) {
                if (left[set] && (best == NONE || Integer.bitCount(set) < Integer.bitCount(best))) {
                    best = set;
                }
            }
            return best;
        }

        /** The cell to knock at, and how many of the sets left are left at the most. */
        int bestKnock(Reckoner reckoner) {
            if (howMany() == 0) {
                return NONE;
            }
            int best = NONE;
            for (int place = 0; place < reckoner.plan.cells(); place++) {
                if (!reckoner.town.isCracked(place)) {
                    int found = packed(place, mostAlike(reckoner, place));
                    best = best == NONE ? found : Math.min(best, found);
                }
            }
            return best;
        }

        private int mostAlike(Reckoner reckoner, int place) {
            for (int i = 0; i <= MOST_LIFTED; i++) {
                often[i] = 0;
            }
            measureLifted(reckoner, place);
            int most = 0;
            for (int set = 0; set < size; set++) {
                int sum = lifted[set];
                if (left[set] && sum >= 0 && sum <= MOST_LIFTED) {
                    often[sum]++;
                    most = Math.max(most, often[sum]);
                }
            }
            return most;
        }
    }
}
