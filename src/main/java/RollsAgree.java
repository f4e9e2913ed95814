import java.util.Arrays;

/** Films that can be developed only when all who are on them remember the day alike. */
public final class RollsAgree {
    public static final int NONE = -1;

    private static final int BAD_NUMBER = -1;
    private static final int NO_SUCH = -2;
    private static final int CANNOT_BE = -3;
    private static final int NO_ROOM = -5;
    private static final int BAD_TEXT = -6;

    private static final int MOST_PEOPLE = 6;
    private static final int DAYS = 4;
    private static final int MOST_FIRM = 9;
    private static final int MOST_AGE = 99;
    private static final int MOST_MARKS = 255;
    private static final int MOST_MARK = 3;
    private static final int MOST_ROLLS = 8;
    private static final int MOST_TOLD = 8;
    private static final int MOST_LAWS = 6;
    private static final int IMAGES = 2;
    private static final int TAPE_ROOM = 400;
    private static final int FEED = 20;
    private static final int MOST_ROWS = 4096;

    private static final int WEEK = 0;
    private static final int RATE = 1;
    private static final int MOOD = 2;
    private static final int TERMS = 3;
    private static final int LAST_WEEK = 999;

    /** What accord tells of a roll on which nobody lives: it agrees on no mark. */
    private static final int NOBODY = 100;

    /** Lies beyond all values that a sum can have, so it can stand among them. */
    private static final int BROKEN = -2000000000;

    private static final int MILLION = 1000000;

    private final World world;
    private final World[] images;
    private final Reader reader;
    private final Judge judge;
    private final Deeds deeds;
    private final Orders runner;
    private final Paper paper;
    private final Search search;
    private final Rows rows;
    private final Outlook outlook;
    private final int[] tape;
    private final int[] refusals;
    private int kept;
    private int tapeLength;
    private int faultPlace;
    private int grains;
    private int stoppedAt;
    private int refusedBy;

    public RollsAgree() {
        Sums sums = new Sums();
        world = new World();
        images = new World[IMAGES];
        for (int k = 0; k < IMAGES; k++) {
            images[k] = new World();
        }
        reader = new Reader();
        judge = new Judge(world, sums);
        deeds = new Deeds(world, judge);
        runner = new Orders(world, deeds, sums);
        paper = new Paper(world, judge);
        search = new Search(world, paper);
        rows = new Rows(world, paper);
        outlook = new Outlook(world, judge);
        tape = new int[TAPE_ROOM];
        refusals = new int[-BAD_TEXT];
        faultPlace = NONE;
        stoppedAt = NONE;
    }

    public int person(int firm, int age, int marks) {
        if (!World.canBePerson(firm, age, marks)) {
            return settled(BAD_NUMBER);
        }
        if (world.people >= MOST_PEOPLE) {
            return settled(NO_ROOM);
        }
        deeds.forgetAll();
        return settled(world.addPerson(firm, age, marks));
    }

    public int of(int person, int what) {
        if (!world.hasPerson(person)) {
            return NONE;
        }
        switch (what) {
            case 0:
                return world.firm[person];
            case 1:
                return world.age[person];
            case 2:
                return world.lives(person) ? 1 : 0;
            default:
                return what < 3 ? NONE : world.markOf(person, what - 3);
        }
    }

    public int roll(int day, int on) {
        if (!isDay(day) || on <= 0 || on >= 1 << world.people) {
            return settled(BAD_NUMBER);
        }
        if (world.rolls >= MOST_ROLLS) {
            return settled(NO_ROOM);
        }
        deeds.forgetAll();
        return settled(world.addRoll(day, on));
    }

    public int at(int roll, int what) {
        if (!world.hasRoll(roll)) {
            return NONE;
        }
        switch (what) {
            case 0:
                return world.rollDay[roll];
            case 1:
                return world.rollOn[roll];
            case 2:
                return world.isDone(roll) ? 1 : 0;
            case 3:
                return world.accord(roll) != NONE ? 1 : 0;
            default:
                return NONE;
        }
    }

    public int terms(int what, int value) {
        if (what < 0 || what >= TERMS || value < 0 || value > mostOfTerm(what)) {
            return settled(BAD_NUMBER);
        }
        deeds.forgetAll();
        int before = world.terms[what];
        world.terms[what] = value;
        return settled(before);
    }

    public int feed(int a, int b, int c, int d, int e) {
        if (tapeLength + FEED > TAPE_ROOM) {
            return NONE;
        }
        putFour(a);
        putFour(b);
        putFour(c);
        putFour(d);
        putFour(e);
        return tapeLength;
    }

    public int end(int n) {
        if (n < 0 || n > tapeLength) {
            return NONE;
        }
        tapeLength = n;
        return n;
    }

    public int row() {
        if (tapeLength == 0) {
            return settled(BAD_TEXT);
        }
        int came = 0;
        grains = 0;
        for (int i = 0; i < tapeLength; i += 3) {
            if (cameFromRow(i)) {
                came++;
            } else {
                grains++;
            }
        }
        tapeLength = 0;
        deeds.forgetAll();
        return settled(came);
    }

    public int grain() {
        return grains;
    }

    public int law() {
        int length = takenTape();
        if (world.lawCount >= MOST_LAWS) {
            return settled(NO_ROOM);
        }
        boolean isLaw = reader.read(tape, length, false);
        faultPlace = reader.fault;
        return settled(isLaw ? world.addLaw(reader.text.copy()) : BAD_TEXT);
    }

    public int orders() {
        boolean areOrders = reader.read(tape, takenTape(), true);
        faultPlace = reader.fault;
        stoppedAt = NONE;
        if (!areOrders) {
            return settled(BAD_TEXT);
        }
        int answer = runner.run(reader.text);
        stoppedAt = runner.stop;
        return settled(answer);
    }

    public int fault() {
        return faultPlace;
    }

    public int stopped() {
        return stoppedAt;
    }

    public int force(int law) {
        if (law != NONE && !world.hasLaw(law)) {
            return settled(NO_SUCH);
        }
        int before = world.force;
        world.force = law;
        // Not by settled(): that no law was in force is no refusal.
        refusedBy = 0;
        return before;
    }

    public int asks(int person, int other, int day, int what) {
        if (!world.hasPerson(person) || !world.hasPerson(other) || person == other || !isDay(day)) {
            return NONE;
        }
        switch (what) {
            case 0:
                return judge.takenBy(person, other, day);
            case 1:
                return judge.swayOf(person, other, day);
            case 2:
                return judge.isBarred(person, other, day) ? 1 : 0;
            default:
                return NONE;
        }
    }

    public int talk(int one, int other, int day) {
        return settled(deeds.holdTalk(one, other, day));
    }

    public int develop(int roll) {
        return settled(deeds.developRoll(roll));
    }

    public int bury(int person) {
        return settled(deeds.buryPerson(person));
    }

    public int pass() {
        return settled(deeds.passWeek());
    }

    public int undo() {
        return settled(deeds.undoLatest());
    }

    public int soonest(int roll, int i) {
        return world.hasRoll(roll) ? search.shortestWay(roll, i) : NONE;
    }

    public int ends(int roll) {
        return world.hasRoll(roll) ? search.endMarks(roll) : NONE;
    }

    public int house(int roll, int what) {
        if (!world.hasRoll(roll) || what < 0 || what > 1) {
            return NONE;
        }
        int company = search.smallestCompany(roll);
        return company == NONE || what == 1 ? company : Integer.bitCount(company);
    }

    public int givings(int what) {
        if (what == 0) {
            return outlook.countGivings();
        }
        if (what < 0 || !world.hasPerson((what - 1) / DAYS)) {
            return NONE;
        }
        return outlook.markGiven((what - 1) / DAYS, (what - 1) % DAYS);
    }

    public int told(int one, int other, int day) {
        if (!isDay(day) || one == other) {
            return settled(BAD_NUMBER);
        }
        if (!world.hasPerson(one) || !world.hasPerson(other)) {
            return settled(NO_SUCH);
        }
        return settled(world.told >= MOST_TOLD ? NO_ROOM : world.addTold(one, other, day));
    }

    public int forget() {
        int before = world.told;
        world.told = 0;
        return before;
    }

    public int were(int day, int i, int person) {
        if (!isDay(day)) {
            return NONE;
        }
        rows.gather(day);
        return i == NONE ? rows.count : rows.markIn(i, person);
    }

    public int ask(int day, int what) {
        if (!isDay(day) || what < 0 || what > 1) {
            return NONE;
        }
        rows.gather(day);
        int best = rows.bestToAsk();
        return best == NONE || what == 0 ? best : rows.mostAlike(best);
    }

    public int chatter(int day, int person) {
        if (!isDay(day) || person != NONE && !world.hasPerson(person)) {
            return NONE;
        }
        int rounds = paper.chatterRounds(day);
        return rounds == NONE || person == NONE ? rounds : world.markInRow(paper.lastRow, person);
    }

    public int chance(int roll, int n) {
        return world.hasRoll(roll) && n >= 0 && n <= 99 ? outlook.chanceOf(roll, n) : NONE;
    }

    public int years(int seed, int n) {
        if (seed < 0 || seed > MILLION || n < 1 || n > 100) {
            return settled(BAD_NUMBER);
        }
        return settled(world.people == 0 ? CANNOT_BE : outlook.drawYears(seed, n));
    }

    public int drawn(int person, int day) {
        return outlook.markDrawn(person, day);
    }

    public int image(int k) {
        if (k < 0 || k >= IMAGES) {
            return settled(BAD_NUMBER);
        }
        images[k].copyFrom(world);
        kept |= 1 << k;
        return settled(0);
    }

    public int back(int k) {
        if (k < 0 || k >= IMAGES) {
            return settled(BAD_NUMBER);
        }
        if ((kept >> k & 1) == 0) {
            return settled(NO_SUCH);
        }
        world.copyFrom(images[k]);
        deeds.forgetAll();
        return settled(0);
    }

    public int count(int what) {
        switch (what) {
            case 0:
                return world.people;
            case 1:
                return Integer.bitCount(world.living);
            case 2:
                return world.rolls;
            case 3:
                return Integer.bitCount(world.done);
            case 4:
                return world.told;
            case 5:
                return world.lawCount;
            case 6:
                return deeds.size;
            case 7:
                return tapeLength;
            case 8:
                return refusedWith(BAD_NUMBER);
            case 9:
                return refusedWith(NO_SUCH);
            case 10:
                return refusedWith(CANNOT_BE);
            case 11:
                return refusedWith(NO_ROOM);
            case 12:
                return refusedWith(BAD_TEXT);
            case 13:
                return world.force;
            default:
                return what >= 14 && what < 14 + TERMS ? world.terms[what - 14] : NONE;
        }
    }

    public int status() {
        return refusedBy;
    }

    /** Every call that can be refused ends here, so that none is left out of status and counts. */
    private int settled(int answer) {
        refusedBy = Math.min(answer, 0);
        if (answer < 0 && answer >= BAD_TEXT) {
            refusals[-answer - 1]++;
        }
        return answer;
    }

    private int refusedWith(int reason) {
        return reason < 0 && reason >= BAD_TEXT ? refusals[-reason - 1] : 0;
    }

    private void putFour(int number) {
        for (int shift = 24; shift >= 0 && tapeLength < TAPE_ROOM; shift -= 8) {
            tape[tapeLength] = number >>> shift & 255;
            tapeLength++;
        }
    }

    /** Whoever reads the tape leaves it empty; its bytes stay readable till the next feed. */
    private int takenTape() {
        int length = tapeLength;
        tapeLength = 0;
        return length;
    }

    private boolean cameFromRow(int i) {
        if (i < 0 || i + 2 >= tapeLength || world.people >= MOST_PEOPLE
                || !World.canBePerson(tape[i], tape[i + 1], tape[i + 2])) {
            return false;
        }
        world.addPerson(tape[i], tape[i + 1], tape[i + 2]);
        return true;
    }

    private static boolean isDay(int day) {
        return day >= 0 && day < DAYS;
    }

    private static int mostOfTerm(int what) {
        if (what == WEEK) {
            return LAST_WEEK;
        }
        return what == RATE ? 10 : 9;
    }

    /** All that an image keeps. A row is a day's marks of all people as one number to the base 4. */
    private static final class World {
        int people;
        int living;
        final int[] firm;
        final int[] age;
        final int[] marks;
        int rolls;
        int done;
        final int[] rollDay;
        final int[] rollOn;
        int told;
        final int[] toldOne;
        final int[] toldOther;
        final int[] toldDay;
        final int[] terms;
        int lawCount;
        int force;
        final Text[] laws;

        World() {
            firm = new int[MOST_PEOPLE];
            age = new int[MOST_PEOPLE];
            marks = new int[MOST_PEOPLE * DAYS];
            rollDay = new int[MOST_ROLLS];
            rollOn = new int[MOST_ROLLS];
            toldOne = new int[MOST_TOLD];
            toldOther = new int[MOST_TOLD];
            toldDay = new int[MOST_TOLD];
            terms = new int[TERMS];
            terms[RATE] = 2;
            laws = new Text[MOST_LAWS];
            force = NONE;
        }

        void copyFrom(World that) {
            people = that.people;
            living = that.living;
            rolls = that.rolls;
            done = that.done;
            told = that.told;
            lawCount = that.lawCount;
            force = that.force;
            System.arraycopy(that.firm, 0, firm, 0, MOST_PEOPLE);
            System.arraycopy(that.age, 0, age, 0, MOST_PEOPLE);
            System.arraycopy(that.marks, 0, marks, 0, MOST_PEOPLE * DAYS);
            System.arraycopy(that.rollDay, 0, rollDay, 0, MOST_ROLLS);
            System.arraycopy(that.rollOn, 0, rollOn, 0, MOST_ROLLS);
            System.arraycopy(that.toldOne, 0, toldOne, 0, MOST_TOLD);
            System.arraycopy(that.toldOther, 0, toldOther, 0, MOST_TOLD);
            System.arraycopy(that.toldDay, 0, toldDay, 0, MOST_TOLD);
            System.arraycopy(that.terms, 0, terms, 0, TERMS);
            for (int i = 0; i < MOST_LAWS; i++) {
                laws[i] = that.laws[i];
            }
        }

        static boolean canBePerson(int firm, int age, int marks) {
            return firm >= 0 && firm <= MOST_FIRM && age >= 0 && age <= MOST_AGE
                    && marks >= 0 && marks <= MOST_MARKS;
        }

        int addPerson(int newFirm, int newAge, int newMarks) {
            if (people >= MOST_PEOPLE) {
                return NO_ROOM;
            }
            int person = people;
            firm[person] = newFirm;
            age[person] = newAge;
            for (int day = 0; day < DAYS; day++) {
                marks[person * DAYS + day] = newMarks >> 2 * (DAYS - 1 - day) & 3;
            }
            living |= 1 << person;
            people++;
            return person;
        }

        int addRoll(int day, int on) {
            if (rolls >= MOST_ROLLS) {
                return NO_ROOM;
            }
            rollDay[rolls] = day;
            rollOn[rolls] = on;
            rolls++;
            return rolls - 1;
        }

        int addTold(int one, int other, int day) {
            if (told >= MOST_TOLD) {
                return NO_ROOM;
            }
            toldOne[told] = one;
            toldOther[told] = other;
            toldDay[told] = day;
            told++;
            return told;
        }

        int addLaw(Text law) {
            if (lawCount >= MOST_LAWS) {
                return NO_ROOM;
            }
            laws[lawCount] = law;
            lawCount++;
            return lawCount - 1;
        }

        boolean hasPerson(int person) {
            return person >= 0 && person < people;
        }

        boolean hasRoll(int roll) {
            return roll >= 0 && roll < rolls;
        }

        boolean hasLaw(int law) {
            return law >= 0 && law < lawCount;
        }

        boolean lives(int person) {
            return hasPerson(person) && (living >> person & 1) == 1;
        }

        boolean isDone(int roll) {
            return hasRoll(roll) && (done >> roll & 1) == 1;
        }

        /** Null if no law is in force. */
        Text lawInForce() {
            return hasLaw(force) ? laws[force] : null;
        }

        int markOf(int person, int day) {
            return hasPerson(person) && isDay(day) ? marks[person * DAYS + day] : NONE;
        }

        void setMark(int person, int day, int mark) {
            if (hasPerson(person) && isDay(day)) {
                marks[person * DAYS + day] = mark;
            }
        }

        /** Person 0 has the highest digit, so that rows in order are numbers in order. */
        int shiftOf(int person) {
            return 2 * (people - 1 - person);
        }

        int markInRow(int row, int person) {
            return hasPerson(person) ? row >> shiftOf(person) & 3 : NONE;
        }

        int rowOf(int day) {
            int row = 0;
            for (int person = 0; person < people; person++) {
                row = row * 4 + markOf(person, day);
            }
            return row;
        }

        /** The one mark that those people have in the row; NONE if they have several. */
        int accordInRow(int row, int who) {
            int mark = NOBODY;
            for (int person = 0; person < people; person++) {
                if ((who >> person & 1) == 1) {
                    int own = row >> shiftOf(person) & 3;
                    if (mark != NOBODY && mark != own) {
                        return NONE;
                    }
                    mark = own;
                }
            }
            return mark;
        }

        int accord(int roll) {
            return hasRoll(roll) ? accordInRow(rowOf(rollDay[roll]), rollOn[roll] & living) : NONE;
        }
    }

    /** A text as it was read: a head of each clause, and its sums and tests as code for Sums. */
    private static final class Text {
        static final int MOST_CLAUSES = 12;
        /** What a head holds: the kind, how often, where the code of each part starts. */
        static final int KIND = 0;
        static final int TIMES = 1;
        static final int FIRST = 2;
        static final int SECOND = 3;
        static final int THIRD = 4;
        static final int TEST = 5;
        static final int HEAD = 6;
        /** Signs of the texts are codes, too: these lie below them all. */
        static final int END = 0;
        static final int NUMBER = 1;
        static final int WORD = 2;
        static final int NOT = 3;
        static final int AND = 4;
        static final int OR = 5;

        final int[] heads;
        final int[] code;
        int clauses;
        int length;

        Text(int room) {
            heads = new int[MOST_CLAUSES * HEAD];
            code = new int[Math.max(room, 0)];
        }

        Text copy() {
            Text that = new Text(length);
            System.arraycopy(heads, 0, that.heads, 0, heads.length);
            System.arraycopy(code, 0, that.code, 0, that.code.length);
            that.clauses = clauses;
            that.length = length;
            return that;
        }

        void clear() {
            clauses = 0;
            length = 0;
        }

        void addClause(int kind) {
            if (clauses < MOST_CLAUSES) {
                for (int what = 0; what < HEAD; what++) {
                    heads[clauses * HEAD + what] = NONE;
                }
                heads[clauses * HEAD + KIND] = kind;
                heads[clauses * HEAD + TIMES] = 1;
                clauses++;
            }
        }

        int head(int clause, int what) {
            return clause >= 0 && clause < clauses && what >= 0 && what < HEAD
                    ? heads[clause * HEAD + what] : NONE;
        }

        void setLatestHead(int what, int value) {
            if (clauses > 0 && what >= 0 && what < HEAD) {
                heads[(clauses - 1) * HEAD + what] = value;
            }
        }

        /** Where it was put, so that a jump can be landed later. */
        int put(int what, int value) {
            if (length + 1 < code.length) {
                code[length] = what;
                code[length + 1] = value;
                length += 2;
            }
            return length - 2;
        }

        void land(int jump) {
            if (jump >= 0 && jump + 1 < length) {
                code[jump + 1] = length;
            }
        }
    }

    /** Reads a text of either language; each method answers whether it could go on. */
    private static final class Reader {
        private static final int MOST_PARTS = 50;
        private static final int MOST_BRACKETS = 8;
        private static final int MOST_NUMBER = 1000;
        private static final int MOST_TIMES = 20;
        /** Each byte puts two numbers at most, and each clause four ends. */
        private static final int CODE_ROOM = 2 * (TAPE_ROOM + 4 * Text.MOST_CLAUSES);
        /** Far above all numbers that can be, far below where ten times it wraps around. */
        private static final int TOO_HIGH = 1000000;

        private static final String WORDS =
                "takes sways bars talk develop bury pass with of times if not and or person other mark its firm age day week mood done latest living agrees";
        /** A token is the byte of a sign, or one of these and which word, or what number, it is. */
        private static final int AT_END = 256;
        private static final int STRANGE_WORD = 257;
        private static final int WORD = 300;
        private static final int NUMBER = 1000;

        private static final int TAKES = WORD;
        private static final int BARS = WORD + 2;
        private static final int TALK = WORD + 3;
        private static final int PASS = WORD + 6;
        private static final int WITH = WORD + 7;
        private static final int OF = WORD + 8;
        private static final int TIMES = WORD + 9;
        private static final int IF = WORD + 10;
        private static final int NOT = WORD + 11;
        private static final int AND = WORD + 12;
        private static final int OR = WORD + 13;
        private static final int PERSON = WORD + 14;
        private static final int MARK = WORD + 16;
        private static final int WEEK_WORD = WORD + 21;
        private static final int MOOD_WORD = WORD + 22;
        private static final int DONE = WORD + 23;
        private static final int LIVING = WORD + 25;
        private static final int AGREES = WORD + 26;

        final Text text;
        int fault;
        private final int[] tokens;
        private final int[] places;
        private int count;
        private int next;
        private int parts;
        private boolean ordering;

        Reader() {
            text = new Text(CODE_ROOM);
            tokens = new int[TAPE_ROOM + 1];
            places = new int[TAPE_ROOM + 1];
            fault = NONE;
        }

        boolean read(int[] bytes, int length, boolean areOrders) {
            ordering = areOrders;
            parts = 0;
            next = 0;
            fault = NONE;
            text.clear();
            split(bytes, Math.min(length, Math.min(bytes.length, TAPE_ROOM)));
            for (int clause = 0; clause < Text.MOST_CLAUSES; clause++) {
                if (!(ordering ? orderClause() : lawClause())) {
                    return false;
                }
                if (token() == AT_END) {
                    return true;
                }
                if (!passed(';')) {
                    return false;
                }
            }
            return wrong();
        }

        private void split(int[] bytes, int length) {
            count = 0;
            int i = 0;
            while (i < length) {
                int end = i + 1;
                if (isLetter(bytes[i])) {
                    while (end < length && isLetter(bytes[end])) {
                        end++;
                    }
                    add(wordAt(bytes, i, end), i);
                } else if (isDigit(bytes[i])) {
                    while (end < length && isDigit(bytes[end])) {
                        end++;
                    }
                    add(numberAt(bytes, i, end), i);
                } else if (bytes[i] != ' ') {
                    add(bytes[i], i);
                }
                i = end;
            }
            add(AT_END, length);
        }

        private void add(int token, int place) {
            if (count < tokens.length) {
                tokens[count] = token;
                places[count] = place;
                count++;
            }
        }

        private static int numberAt(int[] bytes, int start, int end) {
            int number = 0;
            for (int i = start; i < end; i++) {
                number = Math.min(number * 10 + bytes[i] - '0', TOO_HIGH);
            }
            return NUMBER + number;
        }

        private static int wordAt(int[] bytes, int start, int end) {
            int word = WORD;
            int first = 0;
            for (int i = 0; i <= WORDS.length(); i++) {
                if (i == WORDS.length() || WORDS.charAt(i) == ' ') {
                    if (i - first == end - start && isSameWord(bytes, start, first, i)) {
                        return word;
                    }
                    word++;
                    first = i + 1;
                }
            }
            return STRANGE_WORD;
        }

        private static boolean isSameWord(int[] bytes, int start, int first, int end) {
            for (int i = first; i < end; i++) {
                if (WORDS.charAt(i) != bytes[start + i - first]) {
                    return false;
                }
            }
            return true;
        }

        private static boolean isLetter(int sign) {
            return sign >= 'a' && sign <= 'z';
        }

        private static boolean isDigit(int sign) {
            return sign >= '0' && sign <= '9';
        }

        private int token() {
            return next < count ? tokens[next] : AT_END;
        }

        private boolean wrong() {
            fault = next < count ? places[next] : NONE;
            return false;
        }

        private boolean passed(int wanted) {
            if (token() != wanted) {
                return wrong();
            }
            next++;
            return true;
        }

        private boolean lawClause() {
            int kind = token();
            if (kind < TAKES || kind > BARS) {
                return wrong();
            }
            next++;
            text.addClause(kind - TAKES);
            return (kind == BARS || wholeSum(Text.FIRST)) && condition();
        }

        private boolean orderClause() {
            int kind = token();
            if (kind < TALK || kind > PASS) {
                return wrong();
            }
            next++;
            text.addClause(kind - TALK);
            if (kind != PASS && !wholeSum(Text.FIRST)) {
                return false;
            }
            if (kind == TALK && !(passed(WITH) && wholeSum(Text.SECOND) && passed(OF) && wholeSum(Text.THIRD))) {
                return false;
            }
            return repetition() && condition();
        }

        private boolean repetition() {
            if (token() != TIMES) {
                return true;
            }
            next++;
            int times = token() - NUMBER;
            if (times < 1 || times > MOST_TIMES) {
                return wrong();
            }
            next++;
            text.setLatestHead(Text.TIMES, times);
            return true;
        }

        private boolean condition() {
            if (token() != IF) {
                return true;
            }
            next++;
            text.setLatestHead(Text.TEST, text.length);
            if (!test(0)) {
                return false;
            }
            text.put(Text.END, 0);
            return true;
        }

        private boolean wholeSum(int place) {
            text.setLatestHead(place, text.length);
            if (!sum(0)) {
                return false;
            }
            text.put(Text.END, 0);
            return true;
        }

        private boolean test(int depth) {
            if (!both(depth)) {
                return false;
            }
            for (int i = 0; i < TAPE_ROOM && token() == OR; i++) {
                next++;
                int jump = text.put(Text.OR, 0);
                if (!both(depth)) {
                    return false;
                }
                text.land(jump);
            }
            return true;
        }

        private boolean both(int depth) {
            if (!plain(depth)) {
                return false;
            }
            for (int i = 0; i < TAPE_ROOM && token() == AND; i++) {
                next++;
                int jump = text.put(Text.AND, 0);
                if (!plain(depth)) {
                    return false;
                }
                text.land(jump);
            }
            return true;
        }

        private boolean plain(int depth) {
            // Counted, not called: a tape has room for a hundred in a row.
            boolean turned = false;
            for (int i = 0; i < TAPE_ROOM && token() == NOT; i++) {
                turned = !turned;
                next++;
            }
            if (token() == '(') {
                if (depth >= MOST_BRACKETS) {
                    return wrong();
                }
                next++;
                if (!test(depth + 1) || !passed(')')) {
                    return false;
                }
            } else {
                if (!sum(depth)) {
                    return false;
                }
                int compared = token();
                if (compared != '<' && compared != '>' && compared != '=') {
                    return wrong();
                }
                next++;
                if (!sum(depth)) {
                    return false;
                }
                text.put(compared, 0);
            }
            if (turned) {
                text.put(Text.NOT, 0);
            }
            return true;
        }

        private boolean sum(int depth) {
            if (!term(depth)) {
                return false;
            }
            for (int i = 0; i < TAPE_ROOM && (token() == '+' || token() == '-'); i++) {
                int joined = token();
                next++;
                if (!term(depth)) {
                    return false;
                }
                text.put(joined, 0);
            }
            return true;
        }

        private boolean term(int depth) {
            if (!part(depth)) {
                return false;
            }
            for (int i = 0; i < TAPE_ROOM && (token() == '*' || token() == '/' || token() == '%'); i++) {
                int joined = token();
                next++;
                if (!part(depth)) {
                    return false;
                }
                text.put(joined, 0);
            }
            return true;
        }

        private boolean part(int depth) {
            if (token() == '[') {
                if (depth >= MOST_BRACKETS) {
                    return wrong();
                }
                next++;
                return sum(depth + 1) && passed(']');
            }
            if (parts >= MOST_PARTS) {
                return wrong();
            }
            parts++;
            int found = token();
            if (found >= NUMBER && found <= NUMBER + MOST_NUMBER) {
                next++;
                text.put(Text.NUMBER, found - NUMBER);
                return true;
            }
            if (ordering) {
                return orderWord(found);
            }
            if (found < PERSON || found > MOOD_WORD) {
                return wrong();
            }
            next++;
            text.put(Text.WORD, found - PERSON);
            return true;
        }

        private boolean orderWord(int word) {
            boolean isNumbered = word == AGREES || word == MARK;
            if (!isNumbered && word != WEEK_WORD && (word < DONE || word > LIVING)) {
                return wrong();
            }
            next++;
            if (!isNumbered) {
                text.put(Text.WORD, word == WEEK_WORD ? Orders.WEEK_NOW : Orders.DONE + word - DONE);
                return true;
            }
            int number = token() - NUMBER;
            if (number < 0 || number >= (word == AGREES ? MOST_ROLLS : MOST_PEOPLE * DAYS)) {
                return wrong();
            }
            next++;
            text.put(Text.WORD, (word == AGREES ? Orders.AGREES : Orders.MARKS) + number);
            return true;
        }
    }

    /** Works out the sums and tests of texts. */
    private static final class Sums {
        private static final int FARTHEST = 1000000000;
        /** More than all parts that a text can have. */
        private static final int STACK_ROOM = 64;

        private final int[] stack;

        Sums() {
            stack = new int[STACK_ROOM];
        }

        /** One broken part breaks the whole, because what can't matter is jumped over. */
        int value(Text text, int start, int[] words) {
            int[] code = text.code;
            int height = 0;
            if (start < 0) {
                return BROKEN;
            }
            for (int i = start; i + 1 < code.length && code[i] != Text.END; i += 2) {
                int what = code[i];
                int detail = code[i + 1];
                if (what == Text.NUMBER || what == Text.WORD) {
                    if (height >= STACK_ROOM || detail < 0 || what == Text.WORD && detail >= words.length) {
                        return BROKEN;
                    }
                    stack[height] = what == Text.NUMBER ? detail : words[detail];
                    height++;
                } else if (height < 1) {
                    return BROKEN;
                } else if (what == Text.NOT) {
                    stack[height - 1] = 1 - stack[height - 1];
                } else if (what == Text.AND || what == Text.OR) {
                    boolean isSettled = (stack[height - 1] == 0) == (what == Text.AND);
                    if (isSettled) {
                        i = Math.max(i, detail - 2);
                    } else {
                        height--;
                    }
                } else if (height < 2) {
                    return BROKEN;
                } else {
                    height--;
                    stack[height - 1] = joined(what, stack[height - 1], stack[height]);
                    if (stack[height - 1] == BROKEN) {
                        return BROKEN;
                    }
                }
            }
            return height == 1 ? stack[0] : BROKEN;
        }

        private static int joined(int sign, long a, long b) {
            long result;
            switch (sign) {
                case '+':
                    result = a + b;
                    break;
                case '-':
                    result = a - b;
                    break;
                case '*':
                    result = a * b;
                    break;
                case '/':
                    result = b == 0 ? BROKEN : a / b;
                    break;
                case '%':
                    result = b == 0 ? BROKEN : a % b;
                    break;
                case '<':
                    result = a < b ? 1 : 0;
                    break;
                case '>':
                    result = a > b ? 1 : 0;
                    break;
                case '=':
                    result = a == b ? 1 : 0;
                    break;
                default:
                    result = BROKEN;
                    break;
            }
            return result > FARTHEST || result < -FARTHEST ? BROKEN : (int) result;
        }

        static boolean isSo(int value) {
            return value != BROKEN && value != 0;
        }
    }

    /** Asks the law in force what a talk does. Two marks are one number: four times the own and the other's. */
    private static final class Judge {
        private static final int TAKES = 0;
        private static final int BARS = 2;
        private static final int WORDS = 9;

        private final World world;
        private final Sums sums;
        private final int[] words;
        /** What was heard of the latest one asked. */
        private int takes;
        private int sways;
        private boolean bars;

        Judge(World world, Sums sums) {
            this.world = world;
            this.sums = sums;
            words = new int[WORDS];
        }

        /** Both marks behind a talk; NONE if one is barred. Whether they live is not asked. */
        int outcome(int one, int other, int day, int marks, int week) {
            hear(one, other, day, marks, week);
            if (bars) {
                return NONE;
            }
            int oneTakes = takes;
            int oneSways = sways;
            hear(other, one, day, marks % 4 * 4 + marks / 4, week);
            if (bars) {
                return NONE;
            }
            boolean oneYields = sways > oneSways || sways == oneSways && other > one;
            // One for both: of two just one yields, because their numbers are never alike.
            int prevailing = oneYields ? marks % 4 : marks / 4;
            return (oneTakes != NONE ? oneTakes : prevailing) * 4 + (takes != NONE ? takes : prevailing);
        }

        int takenBy(int person, int other, int day) {
            hearNow(other, person, day);
            int otherSways = sways;
            hearNow(person, other, day);
            if (takes != NONE) {
                return takes;
            }
            boolean yields = otherSways > sways || otherSways == sways && other > person;
            return world.markOf(yields ? other : person, day);
        }

        int swayOf(int person, int other, int day) {
            hearNow(person, other, day);
            return sways;
        }

        boolean isBarred(int person, int other, int day) {
            hearNow(person, other, day);
            return bars;
        }

        private void hearNow(int person, int other, int day) {
            int marks = world.markOf(person, day) * 4 + world.markOf(other, day);
            hear(person, other, day, marks, world.terms[WEEK]);
        }

        private void hear(int person, int other, int day, int marks, int week) {
            takes = NONE;
            bars = false;
            sways = world.hasPerson(person) ? world.firm[person] : 0;
            Text law = world.lawInForce();
            if (law == null || !world.hasPerson(person)) {
                return;
            }
            setWords(person, other, day, marks, week);
            for (int clause = 0; clause < law.clauses; clause++) {
                int test = law.head(clause, Text.TEST);
                if (test != NONE && !Sums.isSo(sums.value(law, test, words))) {
                    continue;
                }
                int kind = law.head(clause, Text.KIND);
                if (kind == BARS) {
                    bars = true;
                    continue;
                }
                int value = sums.value(law, law.head(clause, Text.FIRST), words);
                if (value != BROKEN && kind == TAKES) {
                    takes = Math.max(0, Math.min(value, MOST_MARK));
                } else if (value != BROKEN) {
                    sways = Math.max(0, Math.min(value, MOST_FIRM));
                }
            }
        }

        private void setWords(int person, int other, int day, int marks, int week) {
            words[0] = person;
            words[1] = other;
            words[2] = marks / 4;
            words[3] = marks % 4;
            words[4] = world.firm[person];
            words[5] = world.age[person];
            words[6] = day;
            words[7] = week;
            words[8] = world.terms[MOOD];
        }
    }

    /** What changes the world and can be undone. */
    private static final class Deeds {
        static final int TALK = 0;
        static final int DEVELOP = 1;
        static final int BURY = 2;
        private static final int PASS = 3;
        private static final int MOST_KEPT = 16;

        private final World world;
        private final Judge judge;
        int size;
        private final int[] log;
        private final World worldBefore;
        private final int[] logBefore;
        private int sizeBefore;

        Deeds(World world, Judge judge) {
            this.world = world;
            this.judge = judge;
            log = new int[MOST_KEPT];
            worldBefore = new World();
            logBefore = new int[MOST_KEPT];
        }

        int holdTalk(int one, int other, int day) {
            if (!isDay(day) || one == other) {
                return BAD_NUMBER;
            }
            if (!world.hasPerson(one) || !world.hasPerson(other)) {
                return NO_SUCH;
            }
            if (!world.lives(one) || !world.lives(other)) {
                return CANNOT_BE;
            }
            int marks = world.markOf(one, day) * 4 + world.markOf(other, day);
            int then = judge.outcome(one, other, day, marks, world.terms[WEEK]);
            if (then == NONE) {
                return CANNOT_BE;
            }
            keep(TALK, ((day * 8 + one) * 8 + other) * 16 + marks);
            world.setMark(one, day, then / 4);
            world.setMark(other, day, then % 4);
            return changed(marks, then);
        }

        int developRoll(int roll) {
            if (!world.hasRoll(roll)) {
                return NO_SUCH;
            }
            int mark = world.accord(roll);
            if (mark == NONE || world.isDone(roll)) {
                return CANNOT_BE;
            }
            keep(DEVELOP, roll);
            world.done |= 1 << roll;
            return mark;
        }

        int buryPerson(int person) {
            if (!world.hasPerson(person)) {
                return NO_SUCH;
            }
            if (!world.lives(person)) {
                return CANNOT_BE;
            }
            keep(BURY, person);
            world.living &= ~(1 << person);
            return Integer.bitCount(world.living);
        }

        int passWeek() {
            if (world.terms[WEEK] >= LAST_WEEK) {
                return CANNOT_BE;
            }
            keep(PASS, 0);
            world.terms[WEEK]++;
            return world.terms[WEEK];
        }

        int undoLatest() {
            if (size <= 0 || size > MOST_KEPT) {
                return CANNOT_BE;
            }
            size--;
            int deed = log[size] % 4;
            int detail = log[size] / 4;
            if (deed == TALK) {
                int day = detail >> 10 & 3;
                world.setMark(detail >> 7 & 7, day, detail >> 2 & 3);
                world.setMark(detail >> 4 & 7, day, detail & 3);
            } else if (deed == DEVELOP) {
                world.done &= ~(1 << detail);
            } else if (deed == BURY) {
                world.living |= 1 << detail;
            } else {
                world.terms[WEEK]--;
            }
            return deed;
        }

        void forgetAll() {
            size = 0;
        }

        /** Kept whole, the log too: orders may push out of it what must come back. */
        void markPlace() {
            worldBefore.copyFrom(world);
            System.arraycopy(log, 0, logBefore, 0, MOST_KEPT);
            sizeBefore = size;
        }

        void returnToPlace() {
            world.copyFrom(worldBefore);
            System.arraycopy(logBefore, 0, log, 0, MOST_KEPT);
            size = sizeBefore;
        }

        static int changed(int marks, int then) {
            return (marks / 4 != then / 4 ? 1 : 0) + (marks % 4 != then % 4 ? 1 : 0);
        }

        private void keep(int deed, int detail) {
            if (size >= MOST_KEPT) {
                System.arraycopy(log, 1, log, 0, MOST_KEPT - 1);
                size = MOST_KEPT - 1;
            }
            log[size] = detail * 4 + deed;
            size++;
        }
    }

    /** Runs orders wholly or not at all. */
    private static final class Orders {
        static final int WEEK_NOW = 0;
        static final int DONE = 1;
        private static final int LATEST = 2;
        private static final int LIVING = 3;
        static final int AGREES = 4;
        static final int MARKS = AGREES + MOST_ROLLS;
        private static final int WORDS = MARKS + MOST_PEOPLE * DAYS;

        private final World world;
        private final Deeds deeds;
        private final Sums sums;
        private final int[] words;
        private int ran;
        private int latest;
        int stop;

        Orders(World world, Deeds deeds, Sums sums) {
            this.world = world;
            this.deeds = deeds;
            this.sums = sums;
            words = new int[WORDS];
            stop = NONE;
        }

        int run(Text text) {
            deeds.markPlace();
            ran = 0;
            latest = NONE;
            stop = NONE;
            for (int clause = 0; clause < text.clauses && stop == NONE; clause++) {
                int times = text.head(clause, Text.TIMES);
                for (int time = 0; time < times && stop == NONE; time++) {
                    if (!couldRun(text, clause)) {
                        stop = clause;
                    }
                }
            }
            if (stop != NONE) {
                deeds.returnToPlace();
                return CANNOT_BE;
            }
            return ran;
        }

        private boolean couldRun(Text text, int clause) {
            setWords();
            int test = text.head(clause, Text.TEST);
            if (test != NONE && !Sums.isSo(sums.value(text, test, words))) {
                return true;
            }
            int deed = text.head(clause, Text.KIND);
            int first = sumOf(text, clause, Text.FIRST);
            int second = sumOf(text, clause, Text.SECOND);
            int third = sumOf(text, clause, Text.THIRD);
            if (first == BROKEN || second == BROKEN || third == BROKEN) {
                return false;
            }
            int answer;
            if (deed == Deeds.TALK) {
                answer = deeds.holdTalk(first, second, third);
                latest = answer;
            } else if (deed == Deeds.DEVELOP) {
                answer = deeds.developRoll(first);
            } else if (deed == Deeds.BURY) {
                answer = deeds.buryPerson(first);
            } else {
                answer = deeds.passWeek();
            }
            ran++;
            return answer >= 0;
        }

        private int sumOf(Text text, int clause, int place) {
            int start = text.head(clause, place);
            return start == NONE ? 0 : sums.value(text, start, words);
        }

        private void setWords() {
            words[WEEK_NOW] = world.terms[WEEK];
            words[DONE] = ran;
            words[LATEST] = latest;
            words[LIVING] = Integer.bitCount(world.living);
            for (int roll = 0; roll < MOST_ROLLS; roll++) {
                int agreed = world.accord(roll) == NONE ? 0 : 1;
                words[AGREES + roll] = world.hasRoll(roll) ? agreed : NONE;
            }
            for (int i = 0; i < MOST_PEOPLE * DAYS; i++) {
                words[MARKS + i] = world.markOf(i / DAYS, i % DAYS);
            }
        }
    }

    /** Talks of one day on paper. What a talk does is asked once of each two and their marks. */
    private static final class Paper {
        private static final int MOST_ROUNDS = 50;
        private static final int NOT_ASKED = -2;

        private final World world;
        private final Judge judge;
        private final int[] outcomes;
        private int day;
        int lastRow;

        Paper(World world, Judge judge) {
            this.world = world;
            this.judge = judge;
            outcomes = new int[MOST_PEOPLE * MOST_PEOPLE * 16];
        }

        void open(int ofDay) {
            day = ofDay;
            Arrays.fill(outcomes, NOT_ASKED);
        }

        /** The row behind a talk of two; NONE if one is barred. */
        int rowAfter(int row, int low, int high) {
            if (!world.hasPerson(low) || !world.hasPerson(high)) {
                return NONE;
            }
            int lowShift = world.shiftOf(low);
            int highShift = world.shiftOf(high);
            int marks = (row >> lowShift & 3) * 4 + (row >> highShift & 3);
            int place = (low * MOST_PEOPLE + high) * 16 + marks;
            if (outcomes[place] == NOT_ASKED) {
                outcomes[place] = judge.outcome(low, high, day, marks, world.terms[WEEK]);
            }
            int then = outcomes[place];
            if (then == NONE) {
                return NONE;
            }
            return row & ~(3 << lowShift | 3 << highShift) | then / 4 << lowShift | then % 4 << highShift;
        }

        /** Leaves the row where it ended in lastRow. */
        int chatterRounds(int ofDay) {
            open(ofDay);
            lastRow = world.rowOf(ofDay);
            for (int round = 1; round <= MOST_ROUNDS; round++) {
                if (!hasRoundChanged()) {
                    return round;
                }
            }
            return NONE;
        }

        private boolean hasRoundChanged() {
            boolean isChanged = false;
            for (int low = 0; low < world.people; low++) {
                for (int high = low + 1; high < world.people; high++) {
                    if (world.lives(low) && world.lives(high)) {
                        int then = rowAfter(lastRow, low, high);
                        if (then != NONE && then != lastRow) {
                            isChanged = true;
                            lastRow = then;
                        }
                    }
                }
            }
            return isChanged;
        }
    }

    /** Goes through all rows that talks can reach, nearest first. */
    private static final class Search {
        private final World world;
        private final Paper paper;
        private final int[] queue;
        private final int[] seen;
        private final int[] cameFrom;
        private int reached;
        private int stamp;
        private int start;
        private int who;

        Search(World world, Paper paper) {
            this.world = world;
            this.paper = paper;
            queue = new int[MOST_ROWS];
            seen = new int[MOST_ROWS];
            cameFrom = new int[MOST_ROWS];
        }

        int shortestWay(int roll, int i) {
            open(roll);
            int end = walk(world.living, true);
            if (end == NONE) {
                return NONE;
            }
            int talks = 0;
            for (int row = end; row != start && talks < MOST_ROWS; row = cameFrom[row] >> 6) {
                talks++;
            }
            if (i == NONE) {
                return talks;
            }
            if (i < 0 || i >= talks) {
                return NONE;
            }
            int row = end;
            for (int k = talks - 1; k > i; k--) {
                row = cameFrom[row] >> 6;
            }
            return (cameFrom[row] >> 3 & 7) * 10 + (cameFrom[row] & 7);
        }

        int endMarks(int roll) {
            open(roll);
            walk(world.living, false);
            int marks = 0;
            for (int i = 0; i < reached; i++) {
                int mark = world.accordInRow(queue[i], who);
                if (mark != NONE && mark != NOBODY) {
                    marks |= 1 << mark;
                }
            }
            return marks;
        }

        int smallestCompany(int roll) {
            open(roll);
            // All of them first: what they can't do no smaller company can.
            if (walk(world.living, true) == NONE) {
                return NONE;
            }
            for (int size = 0; size <= MOST_PEOPLE; size++) {
                for (int company = 0; company < 1 << MOST_PEOPLE; company++) {
                    if (Integer.bitCount(company) == size && (company & ~world.living) == 0
                            && world.accordInRow(start, who & ~company) != NONE
                            && walk(company, true) != NONE) {
                        return company;
                    }
                }
            }
            return NONE;
        }

        private void open(int roll) {
            if (world.hasRoll(roll)) {
                paper.open(world.rollDay[roll]);
                start = world.rowOf(world.rollDay[roll]);
                who = world.rollOn[roll] & world.living;
            }
        }

        /**
         * The first row in which the roll agrees, if wanted. Rows stand in the queue in the order
         * of the lowest ways to them, as twos are tried by their numbers: so it has the lowest way.
         */
        private int walk(int company, boolean isEndWanted) {
            stamp++;
            reached = 1;
            queue[0] = start;
            seen[start] = stamp;
            for (int next = 0; next < reached && next < MOST_ROWS; next++) {
                int row = queue[next];
                if (isEndWanted && world.accordInRow(row, who) != NONE) {
                    return row;
                }
                for (int low = 0; low < world.people; low++) {
                    for (int high = low + 1; high < world.people; high++) {
                        if ((company >> low & company >> high & 1) == 1) {
                            int then = paper.rowAfter(row, low, high);
                            if (then >= 0 && then < MOST_ROWS && seen[then] != stamp && reached < MOST_ROWS) {
                                seen[then] = stamp;
                                cameFrom[then] = row << 6 | low << 3 | high;
                                queue[reached] = then;
                                reached++;
                            }
                        }
                    }
                }
            }
            return NONE;
        }
    }

    /** The rows that can have been ahead of what was told. */
    private static final class Rows {
        private final World world;
        private final Paper paper;
        private final int[] found;
        private final int[] tally;
        int count;

        Rows(World world, Paper paper) {
            this.world = world;
            this.paper = paper;
            found = new int[MOST_ROWS];
            tally = new int[MOST_MARK + 1];
        }

        void gather(int day) {
            paper.open(day);
            count = 0;
            int now = world.rowOf(day);
            int fixed = digitsOfSilent(day);
            int all = Math.min(1 << 2 * world.people, MOST_ROWS);
            for (int row = 0; row < all; row++) {
                // Those of whom no talk was told had what they have: most rows end here.
                if (((row ^ now) & fixed) == 0 && rowBehindTold(row, day) == now) {
                    found[count] = row;
                    count++;
                }
            }
        }

        int markIn(int i, int person) {
            return i >= 0 && i < count ? world.markInRow(found[i], person) : NONE;
        }

        int bestToAsk() {
            int best = NONE;
            int fewest = 0;
            for (int person = 0; person < world.people && count > 0; person++) {
                int most = mostAlike(person);
                if (best == NONE || most < fewest) {
                    best = person;
                    fewest = most;
                }
            }
            return best;
        }

        int mostAlike(int person) {
            Arrays.fill(tally, 0);
            int most = 0;
            for (int i = 0; i < count; i++) {
                int mark = world.markInRow(found[i], person);
                if (mark >= 0 && mark < tally.length) {
                    tally[mark]++;
                    most = Math.max(most, tally[mark]);
                }
            }
            return most;
        }

        private int digitsOfSilent(int day) {
            int digits = (1 << 2 * world.people) - 1;
            for (int i = 0; i < world.told; i++) {
                if (world.toldDay[i] == day) {
                    digits &= ~(3 << world.shiftOf(world.toldOne[i]));
                    digits &= ~(3 << world.shiftOf(world.toldOther[i]));
                }
            }
            return digits;
        }

        private int rowBehindTold(int first, int day) {
            int row = first;
            for (int i = 0; i < world.told; i++) {
                if (world.toldDay[i] == day) {
                    int then = paper.rowAfter(row, world.toldOne[i], world.toldOther[i]);
                    row = then == NONE ? row : then;
                }
            }
            return row;
        }
    }

    /** What is reckoned of all days at once, or by chance and draws. */
    private static final class Outlook {
        private final World world;
        private final Judge judge;
        private final int[] marks;
        private int people;
        private int seed;

        Outlook(World world, Judge judge) {
            this.world = world;
            this.judge = judge;
            marks = new int[MOST_PEOPLE * DAYS];
        }

        int countGivings() {
            int givings = 0;
            for (int person = 0; person < world.people; person++) {
                for (int day = 0; day < DAYS; day++) {
                    givings += markGiven(person, day) != world.markOf(person, day) ? 1 : 0;
                }
            }
            return givings;
        }

        int markGiven(int person, int day) {
            int own = world.markOf(person, day);
            if (!world.lives(person)) {
                return own;
            }
            int heap = heapOf(person, day);
            int best = own;
            int most = 0;
            for (int mark = 0; mark <= MOST_MARK; mark++) {
                int many = 0;
                for (int one = 0; one < world.people; one++) {
                    many += (heap >> one & 1) == 1 && world.markOf(one, day) == mark ? 1 : 0;
                }
                if (many > most) {
                    most = many;
                    best = mark;
                }
            }
            return best;
        }

        private int heapOf(int person, int day) {
            int heap = 1 << person;
            // Each round but the last brings in one more at least.
            for (int round = 0; round < MOST_PEOPLE; round++) {
                for (int roll = 0; roll < world.rolls; roll++) {
                    int who = world.rollOn[roll] & world.living;
                    if (world.rollDay[roll] == day && !world.isDone(roll) && (who & heap) != 0) {
                        heap |= who;
                    }
                }
            }
            return heap;
        }

        int chanceOf(int roll, int n) {
            if (!world.hasRoll(roll)) {
                return NONE;
            }
            long toLive = MILLION;
            for (int week = 0; week < n; week++) {
                toLive = toLive * (10 - world.terms[RATE]) / 10;
            }
            int on = world.rollOn[roll] & world.living;
            int row = world.rowOf(world.rollDay[roll]);
            long all = 0;
            for (int set = 0; set < 1 << MOST_PEOPLE; set++) {
                if ((set & ~on) == 0 && world.accordInRow(row, set) != NONE) {
                    all += chanceOfSet(on, set, toLive);
                }
            }
            return (int) all;
        }

        private static long chanceOfSet(int on, int set, long toLive) {
            long chance = MILLION;
            for (int person = 0; person < MOST_PEOPLE; person++) {
                if ((on >> person & 1) == 1) {
                    chance = chance * ((set >> person & 1) == 1 ? toLive : MILLION - toLive) / MILLION;
                }
            }
            return chance;
        }

        int drawYears(int firstSeed, int n) {
            people = world.people;
            System.arraycopy(world.marks, 0, marks, 0, marks.length);
            seed = firstSeed;
            int changes = 0;
            int week = world.terms[WEEK];
            for (int i = 0; i < n && week < LAST_WEEK; i++) {
                int day = draw(DAYS);
                int one = draw(people);
                int other = draw(people);
                if (one != other && world.lives(one) && world.lives(other)) {
                    changes += talkOnPaper(one, other, day, week);
                }
                week++;
            }
            return changes;
        }

        int markDrawn(int person, int day) {
            return person >= 0 && person < people && isDay(day) ? marks[person * DAYS + day] : NONE;
        }

        private int draw(int many) {
            seed = (int) ((seed * 1103L + 12345L) % 1000003L);
            return many > 0 ? seed % many : 0;
        }

        private int talkOnPaper(int one, int other, int day, int week) {
            int before = markDrawn(one, day) * 4 + markDrawn(other, day);
            int then = judge.outcome(one, other, day, before, week);
            if (then == NONE) {
                return 0;
            }
            marks[one * DAYS + day] = then / 4;
            marks[other * DAYS + day] = then % 4;
            return Deeds.changed(before, then);
        }
    }
}
