import java.util.NoSuchElementException;

/** A calendar of smells: an abbey that finds its days by what is mixed in the cellar. */
public final class SmellAbbey {
    public static final int NONE = -1;

    private static final int NONE_SUCH = -2;
    private static final int TOLD_APART = -3;

    private static final int STUFFS = 0;
    private static final int DAYS = 1;
    private static final int ROOMS = 2;
    private static final int MONKS = 3;

    private static final int MOST_STUFFS = 6;
    private static final int MOST_DAYS = 8;
    private static final int MOST_ROOMS = 6;
    private static final int MOST_MONKS = 5;
    private static final int MOST_MIXES = 24;
    private static final int MOST_BYTES = 700;
    private static final int MOST_KNOTS = 64;
    private static final int MOST_OPEN = 8;
    private static final int MOST_NOTES = 24;
    private static final int MOST_UNDONE = 20;
    private static final int MOST_DATE = 9999;
    private static final int MOST_STORE = 9999;
    private static final int MOST_LASTING = 200;
    private static final int MOST_MORE = 99;
    private static final int TIMES_DRAWN = 10;
    private static final int CHANCE_WIND = 9;
    private static final int ENDLESS = 1000000;

    private static final int AIR = 0;
    private static final int KEEN = 1;
    private static final int WORTH = 2;
    private static final long ERROR = 1L << 63;

    private static final int COLD_CALL = 0;
    private static final int WIND_CALL = 1;
    private static final int BUY_CALL = 2;
    private static final int ROOM_CALL = 3;

    private final byte[] tape = new byte[MOST_BYTES];
    private final Reader reader = new Reader();
    private final Notes notes = new Notes();
    private final Undoing undoing = new Undoing();
    private final State now = new State();
    private final State image = new State();
    private final State trial = new State();
    private final Numbers numbers = new Numbers();
    private final int[] feastThinkers = new int[MOST_STUFFS * MOST_STUFFS];
    private final int[] otherMix = new int[MOST_STUFFS];
    private final int[] marks = new int[MOST_DAYS];
    private Told told = new Told();
    private int taped;
    private boolean imaged;

    public SmellAbbey() {
        now.begin(told);
    }

    public int feed(int a, int b, int c, int d, int e) {
        if (taped + 20 > MOST_BYTES) {
            return NONE;
        }
        tapeNumber(a);
        tapeNumber(b);
        tapeNumber(c);
        tapeNumber(d);
        tapeNumber(e);
        return taped;
    }

    private void tapeNumber(int number) {
        for (int shift = 24; shift >= 0; shift -= 8) {
            tape[taped] = (byte) (number >> shift);
            taped++;
        }
    }

    public int text(int n) {
        if (n < 0 || n > taped) {
            return NONE_SUCH;
        }
        taped = 0;
        int lines = 0;
        reader.open(tape, n);
        while (lines < n && reader.hasMore()) {
            if (reader.readLine() == NONE) {
                return NONE;
            }
            lines++;
        }
        told = reader.exchange(told);
        now.begin(told);
        notes.clear();
        undoing.clear();
        imaged = false;
        return lines;
    }

    public int fault(int what) {
        switch (what) {
            case 0:
                return reader.fault;
            case 1:
                return reader.place;
            default:
                return NONE;
        }
    }

    public int named(int what, int letters) {
        return what < STUFFS || what > MONKS ? NONE : told.numberOf(what, letters);
    }

    public int monk(int monk, int what) throws IndexOutOfBoundsException, NoSuchElementException {
        if (!has(MONKS, monk)) {
            throw new IndexOutOfBoundsException("no such monk");
        }
        switch (what) {
            case 0:
                return now.room[monk];
            case 1:
                return told.nose[monk];
            case 2:
                return now.colds[monk];
            case 3:
                return now.smelled[monk];
            case 4:
                return now.thought[monk];
            default:
                throw new NoSuchElementException("no such what");
        }
    }

    public int stuff(int stuff, int what) {
        if (!has(STUFFS, stuff)) {
            return NONE;
        }
        switch (what) {
            case 0:
                return now.store[stuff];
            case 1:
                return now.worthOf(told, stuff);
            case 2:
                return now.wind[stuff];
            default:
                return NONE;
        }
    }

    public int mix(int day, int stuff) {
        return has(DAYS, day) && has(STUFFS, stuff) ? told.mix[day][stuff] : NONE;
    }

    public int feast(int day) {
        if (!has(DAYS, day)) {
            return NONE;
        }
        return told.feast[day] ? 1 : 0;
    }

    public int air(int room, int stuff) {
        return has(ROOMS, room) && has(STUFFS, stuff) ? now.air[room][stuff] : NONE;
    }

    public int mark(int monk, int day) {
        if (!has(MONKS, monk) || !has(DAYS, day)) {
            return NONE;
        }
        return now.markOf(told, monk, day, keenNow(monk));
    }

    public long law(int what, int one, int stuff) {
        switch (what) {
            case AIR:
                return has(ROOMS, one) && has(STUFFS, stuff) ? now.airLaw(told, one, stuff, 0) : ERROR;
            case KEEN:
                return has(MONKS, one) ? now.keenLaw(told, one, now.room[one]) : ERROR;
            case WORTH:
                return has(STUFFS, stuff) ? now.worthLaw(told, stuff) : ERROR;
            default:
                return ERROR;
        }
    }

    public boolean cold(int monk, int stuff, boolean is) {
        if (!has(MONKS, monk) || !has(STUFFS, stuff)) {
            return false;
        }
        int before = now.colds[monk];
        int after = is ? before | 1 << stuff : before & ~(1 << stuff);
        if (after == before) {
            return false;
        }
        undoing.add(COLD_CALL, monk, before);
        now.colds[monk] = after;
        return true;
    }

    public boolean wind(int stuff, int much) {
        if (!has(STUFFS, stuff) || much < 0 || much > 99 || now.wind[stuff] == much) {
            return false;
        }
        undoing.add(WIND_CALL, stuff, now.wind[stuff]);
        now.wind[stuff] = much;
        return true;
    }

    public int buy(int stuff, int much) {
        if (!has(STUFFS, stuff) || much < 1 || much > 999 || now.store[stuff] + much > MOST_STORE) {
            return NONE;
        }
        undoing.add(BUY_CALL, stuff, now.store[stuff]);
        now.store[stuff] += much;
        return now.store[stuff];
    }

    public boolean goes(int monk, int room) {
        if (!has(MONKS, monk) || !has(ROOMS, room) || now.room[monk] == room) {
            return false;
        }
        undoing.add(ROOM_CALL, monk, now.room[monk]);
        now.room[monk] = room;
        return true;
    }

    public int go(int n) {
        if (n < 0 || n > 99 || now.date + n > MOST_DATE) {
            return NONE;
        }
        for (int i = 0; i < n; i++) {
            now.goThroughMorning(told);
        }
        if (n > 0) {
            undoing.clear();
        }
        return now.date;
    }

    public int mixedUp(int monk) {
        if (!has(MONKS, monk)) {
            return NONE;
        }
        markDays(monk, now.room[monk]);
        return alikePairs();
    }

    public int pair(int monk, int k) {
        if (!has(MONKS, monk) || k < 0) {
            return NONE;
        }
        markDays(monk, now.room[monk]);
        int left = k;
        for (int first = 0; first < told.many[DAYS]; first++) {
            for (int second = first + 1; second < told.many[DAYS]; second++) {
                if (marks[first] == marks[second]) {
                    if (left == 0) {
                        return 10 * first + second;
                    }
                    left--;
                }
            }
        }
        return NONE_SUCH;
    }

    public int mending(int monk, int one, int other, int what) {
        if (!has(MONKS, monk) || !has(DAYS, one) || !has(DAYS, other) || one == other || what < 0 || what > 1) {
            return NONE;
        }
        int keen = keenNow(monk);
        if (now.markOf(told, monk, one, keen) != now.markOf(told, monk, other, keen)) {
            return TOLD_APART;
        }
        int later = Math.max(one, other);
        int best = NONE_SUCH;
        int least = MOST_MORE + 1;
        for (int stuff = 0; stuff < told.many[STUFFS]; stuff++) {
            int more = moreThatIsSmelled(monk, later, stuff, keen);
            if (more < least) {
                least = more;
                best = stuff;
            }
        }
        return what == 0 || best == NONE_SUCH ? best : least;
    }

    /** How much more of a stuff makes it smelled on a day; beyond MOST_MORE if it is smelled already or never. */
    private int moreThatIsSmelled(int monk, int day, int stuff, int keen) {
        int part = now.part[now.room[monk]];
        int mixed = told.mix[day][stuff];
        boolean hasCold = (now.colds[monk] >> stuff & 1) == 1;
        if (hasCold || mixed * part / 100 >= keen) {
            return MOST_MORE + 1;
        }
        for (int more = 1; more <= MOST_MORE; more++) {
            if ((mixed + more) * part / 100 >= keen) {
                return more;
            }
        }
        return MOST_MORE + 1;
    }

    public int placeTo(int monk, int what) {
        if (!has(MONKS, monk) || what < 0 || what > 1) {
            return NONE;
        }
        int best = 0;
        int most = NONE;
        for (int room = 0; room < told.many[ROOMS]; room++) {
            markDays(monk, room);
            int unlike = unlikeMarks();
            if (unlike > most) {
                most = unlike;
                best = room;
            }
        }
        return what == 0 ? best : most;
    }

    public int lasts(int what) {
        if (what < 0 || what > 1) {
            return NONE;
        }
        trial.copy(now);
        for (int mornings = 0; mornings < MOST_LASTING; mornings++) {
            int shortOf = trial.firstShort(told);
            if (shortOf != NONE) {
                return what == 0 ? mornings : shortOf;
            }
            trial.takeOut(told);
            trial.date++;
        }
        return what == 0 ? MOST_LASTING : NONE_SUCH;
    }

    public int needs(int stuff, int n) {
        if (!has(STUFFS, stuff) || n < 0 || n > 99) {
            return NONE;
        }
        int needed = 0;
        for (int i = 0; i < n; i++) {
            needed += told.mixedOn(now.date + i, stuff);
        }
        return Math.max(0, needed - now.store[stuff]);
    }

    public int dearest(int what) {
        if (what < 0 || what > 1 || told.many[DAYS] == 0) {
            return NONE;
        }
        int best = 0;
        int most = NONE;
        for (int day = 0; day < told.many[DAYS]; day++) {
            int cost = 0;
            for (int stuff = 0; stuff < told.many[STUFFS]; stuff++) {
                cost += told.mix[day][stuff] * now.worthOf(told, stuff);
            }
            if (cost > most) {
                most = cost;
                best = day;
            }
        }
        return what == 0 ? best : most;
    }

    public int inPlace(int stuff, int other) {
        if (!has(STUFFS, stuff) || !has(STUFFS, other) || stuff == other) {
            return NONE;
        }
        int clear = 0;
        for (int monk = 0; monk < told.many[MONKS]; monk++) {
            markDaysInPlace(monk, stuff, other);
            if (alikePairs() == 0) {
                clear++;
            }
        }
        return clear;
    }

    private void markDaysInPlace(int monk, int stuff, int other) {
        int keen = keenNow(monk);
        int part = now.part[now.room[monk]];
        for (int day = 0; day < told.many[DAYS]; day++) {
            System.arraycopy(told.mix[day], 0, otherMix, 0, MOST_STUFFS);
            otherMix[other] = otherMix[stuff];
            otherMix[stuff] = 0;
            marks[day] = told.smelt(otherMix, part, keen, now.colds[monk]);
        }
    }

    public int letter(int day, int monk, int n) {
        if (!has(DAYS, day) || !has(MONKS, monk) || n < 0 || n > 10) {
            return NONE;
        }
        int keen = keenNow(monk);
        int smelled = told.smelt(told.mix[day], 100 - 10 * n, keen, 0);
        for (int like = 0; like < told.many[DAYS]; like++) {
            if (told.smelt(told.mix[like], 100, keen, 0) == smelled) {
                return like;
            }
        }
        return NONE_SUCH;
    }

    public int firstWrong(int n) {
        if (n < 1 || n > 99) {
            return NONE;
        }
        trial.copy(now);
        for (int morning = 1; morning <= n; morning++) {
            trial.goThroughMorning(told);
            if (trial.wrong > now.wrong) {
                return morning;
            }
        }
        return NONE_SUCH;
    }

    public int rests(int much) {
        if (!canBurn(much)) {
            return NONE;
        }
        countFeastThinkers(much);
        int rests = 0;
        for (int first = 0; first < told.many[STUFFS]; first++) {
            for (int second = 0; second < told.many[STUFFS]; second++) {
                if (isRest(first, second)) {
                    rests++;
                }
            }
        }
        return rests;
    }

    public int rest(int much, int k) {
        if (!canBurn(much) || k < 0) {
            return NONE;
        }
        countFeastThinkers(much);
        int left = k;
        for (int first = 0; first < told.many[STUFFS]; first++) {
            for (int second = 0; second < told.many[STUFFS]; second++) {
                if (isRest(first, second)) {
                    if (left == 0) {
                        return 10 * first + second;
                    }
                    left--;
                }
            }
        }
        return NONE_SUCH;
    }

    private boolean canBurn(int much) {
        return much >= 1 && much <= 99 && told.many[STUFFS] > 0 && told.many[DAYS] > 0;
    }

    private void countFeastThinkers(int much) {
        for (int first = 0; first < told.many[STUFFS]; first++) {
            for (int second = 0; second < told.many[STUFFS]; second++) {
                trial.copy(now);
                trial.wind[first] += much;
                trial.wind[second] += much;
                trial.goThroughMorning(told);
                feastThinkers[first * MOST_STUFFS + second] = trial.feastThinkers(told);
            }
        }
    }

    private boolean isRest(int first, int second) {
        int here = feastThinkers[first * MOST_STUFFS + second];
        for (int other = 0; other < told.many[STUFFS]; other++) {
            boolean firstGains = feastThinkers[other * MOST_STUFFS + second] > here;
            boolean secondGains = feastThinkers[first * MOST_STUFFS + other] < here;
            if (firstGains || secondGains) {
                return false;
            }
        }
        return true;
    }

    public int note(int mornings, int monk, int day, boolean is) {
        if (mornings < 1 || mornings > 40 || !has(MONKS, monk) || !has(DAYS, day)) {
            return NONE;
        }
        return notes.add(mornings, monk, day, is);
    }

    public int out(int note) {
        return notes.strike(note);
    }

    public boolean known(int n) {
        if (n < NONE || n > notes.size) {
            return false;
        }
        notes.knownBy = n;
        return true;
    }

    public int colds(int monk) {
        if (!has(MONKS, monk)) {
            return NONE;
        }
        notes.weigh();
        int possible = 0;
        for (int stuff = 0; stuff <= told.many[STUFFS]; stuff++) {
            trial.begin(told);
            if (stuff < told.many[STUFFS]) {
                trial.colds[monk] = 1 << stuff;
            }
            if (agreesWithNotes()) {
                possible |= 1 << stuff;
            }
        }
        return possible;
    }

    private boolean agreesWithNotes() {
        int last = notes.lastMorning();
        for (int morning = 1; morning <= last; morning++) {
            trial.goThroughMorning(told);
            if (!notes.allow(morning, trial.thought)) {
                return false;
            }
        }
        return true;
    }

    public int chance(int seed, int n, int often) {
        if (seed < 0 || n < 1 || n > 40 || often < 0 || often > 40 || told.many[STUFFS] == 0) {
            return NONE;
        }
        numbers.begin(seed);
        int times = 0;
        for (int i = 0; i < TIMES_DRAWN; i++) {
            trial.copy(now);
            for (int morning = 0; morning < n; morning++) {
                blowByChance();
                trial.goThroughMorning(told);
            }
            if (trial.right - now.right >= often) {
                times++;
            }
        }
        return times;
    }

    private void blowByChance() {
        int stuffs = told.many[STUFFS];
        if (numbers.draw() % 4 == 0 && stuffs > 0) {
            trial.wind[numbers.draw() % stuffs] = CHANCE_WIND;
        }
    }

    public int tried(int what, int i, int n) {
        boolean isMonk = what == 3 ? has(MONKS, i) : i == 0;
        if (what < 0 || what > 5 || !isMonk || n < 0 || n > 99) {
            return NONE;
        }
        trial.copy(now);
        changeTrial(what, i);
        for (int morning = 0; morning < n; morning++) {
            if (what == 1) {
                trial.clearAir();
            }
            trial.goThroughMorning(told);
        }
        return trial.right - now.right;
    }

    private void changeTrial(int what, int monk) {
        for (int i = 0; what == 2 && i < MOST_MONKS; i++) {
            trial.colds[i] = 0;
        }
        if (what == 3) {
            trial.absent = monk;
        }
        for (int i = 0; what == 4 && i < MOST_STUFFS; i++) {
            trial.store[i] = ENDLESS;
        }
        for (int i = 0; what == 5 && i < MOST_ROOMS; i++) {
            trial.part[i] = 100;
        }
    }

    public int undo() {
        return undoing.takeBack(now);
    }

    public int keep() {
        image.copy(now);
        imaged = true;
        return now.date;
    }

    public int back() {
        if (!imaged) {
            return NONE;
        }
        now.copy(image);
        undoing.clear();
        return now.date;
    }

    public int count(int what) {
        if (what >= 0 && what <= 3) {
            return told.many[what];
        }
        switch (what) {
            case 4:
                return told.mixes;
            case 5:
                return told.laws.knots;
            case 6:
                return now.date;
            case 7:
                return now.kept;
            case 8:
                return now.right;
            case 9:
                return now.wrong;
            case 10:
                return allStores();
            case 11:
                return notes.size;
            case 12:
                return notes.considered();
            case 13:
                return undoing.size;
            default:
                return NONE;
        }
    }

    private int allStores() {
        int sum = 0;
        for (int stuff = 0; stuff < told.many[STUFFS]; stuff++) {
            sum += now.store[stuff];
        }
        return sum;
    }

    private boolean has(int kind, int number) {
        return number >= 0 && number < told.many[kind];
    }

    private int keenNow(int monk) {
        return now.keenOf(told, monk, now.room[monk]);
    }

    private void markDays(int monk, int room) {
        int keen = now.keenOf(told, monk, room);
        for (int day = 0; day < told.many[DAYS]; day++) {
            marks[day] = told.smelt(told.mix[day], now.part[room], keen, now.colds[monk]);
        }
    }

    private int alikePairs() {
        int pairs = 0;
        for (int first = 0; first < told.many[DAYS]; first++) {
            for (int second = first + 1; second < told.many[DAYS]; second++) {
                if (marks[first] == marks[second]) {
                    pairs++;
                }
            }
        }
        return pairs;
    }

    private int unlikeMarks() {
        int unlike = 0;
        for (int day = 0; day < told.many[DAYS]; day++) {
            boolean isNew = true;
            for (int ahead = 0; ahead < day; ahead++) {
                isNew = isNew && marks[ahead] != marks[day];
            }
            if (isNew) {
                unlike++;
            }
        }
        return unlike;
    }

    /** The tokens of the language, by number; the words of the language come first, in the order of WORDS. */
    private static final class Token {
        static final String WORDS =
            "stuff day mix room monk linger seed law feast air keen worth or and not much part left wind date place nose ";
        static final int STUFF = 0;
        static final int DAY = 1;
        static final int MIX = 2;
        static final int ROOM = 3;
        static final int MONK = 4;
        static final int LINGER = 5;
        static final int SEED = 6;
        static final int LAW = 7;
        static final int FEAST = 8;
        static final int AIR_RULE = 9;
        static final int WORTH_RULE = 11;
        static final int OR = 12;
        static final int AND = 13;
        static final int NOT = 14;
        static final int MUCH = 15;
        static final int NOSE = 21;
        static final int WORD_COUNT = 22;
        static final int LESS = 22;
        static final int LESS_EQUAL = 23;
        static final int EQUAL = 24;
        static final int UNLIKE = 25;
        static final int MORE_EQUAL = 26;
        static final int MORE = 27;
        static final int PLUS = 28;
        static final int MINUS = 29;
        static final int TIMES = 30;
        static final int BY = 31;
        static final int OPEN = 32;
        static final int CLOSE = 33;
        static final int STOP = 34;
        static final int NAME = 35;
        static final int NUMBER = 36;
        static final int END = 37;
        static final int BAD = 38;

        static final int COMPARING = 4;

        private Token() {
        }

        /** How strongly a sign binds; 0 for what is no sign between values and not 'not'. */
        static int strength(int token) {
            switch (token) {
                case OR:
                    return 1;
                case AND:
                    return 2;
                case NOT:
                    return 3;
                case PLUS:
                case MINUS:
                    return 5;
                case TIMES:
                case BY:
                    return 6;
                default:
                    return token >= LESS && token <= MORE ? COMPARING : 0;
            }
        }
    }

    /** Cuts the text into tokens one by one, so that the fault met first is the first along the text. */
    private static final class Scanner {
        private static final int LONGEST = 6;
        private static final int FAR_TOO_MUCH = 1000000;

        private final int[] words = new int[Token.WORD_COUNT];
        private byte[] bytes = new byte[0];
        private int length;
        private int at;
        int token;
        int start;
        int letters;
        int number;

        Scanner() {
            int word = 0;
            int packed = 0;
            int many = 0;
            for (int i = 0; i < Token.WORDS.length() && word < words.length; i++) {
                char sign = Token.WORDS.charAt(i);
                if (sign == ' ') {
                    words[word] = packed << 5 * (LONGEST - many);
                    word++;
                    packed = 0;
                    many = 0;
                } else {
                    packed = packed << 5 | sign - 'a' + 1;
                    many++;
                }
            }
        }

        void open(byte[] tape, int tapeLength) {
            bytes = tape;
            length = Math.min(tapeLength, tape.length);
            at = 0;
            advance();
        }

        void advance() {
            while (at < length && (bytes[at] == 10 || bytes[at] == 32)) {
                at++;
            }
            start = at;
            if (at >= length) {
                token = Token.END;
            } else if (isLetter(bytes[at])) {
                readWord();
            } else if (isDigit(bytes[at])) {
                readNumber();
            } else {
                at++;
                token = signOf(bytes[start]);
            }
        }

        private static boolean isLetter(int sign) {
            return sign >= 'a' && sign <= 'z';
        }

        private static boolean isDigit(int sign) {
            return sign >= '0' && sign <= '9';
        }

        private void readWord() {
            int many = 0;
            int packed = 0;
            while (at < length && isLetter(bytes[at])) {
                packed = packed << 5 | bytes[at] - 'a' + 1;
                many++;
                at++;
            }
            if (many > LONGEST) {
                token = Token.BAD;
                return;
            }
            letters = packed << 5 * (LONGEST - many);
            token = Token.NAME;
            for (int word = 0; word < words.length; word++) {
                if (words[word] == letters) {
                    token = word;
                }
            }
        }

        private void readNumber() {
            number = 0;
            while (at < length && isDigit(bytes[at])) {
                number = Math.min(FAR_TOO_MUCH, number * 10 + bytes[at] - '0');
                at++;
            }
            token = Token.NUMBER;
        }

        private int signOf(int first) {
            switch (first) {
                case '<':
                    return takes('=') ? Token.LESS_EQUAL : takes('>') ? Token.UNLIKE : Token.LESS;
                case '>':
                    return takes('=') ? Token.MORE_EQUAL : Token.MORE;
                case '=':
                    return Token.EQUAL;
                case '+':
                    return Token.PLUS;
                case '-':
                    return Token.MINUS;
                case '*':
                    return Token.TIMES;
                case '/':
                    return Token.BY;
                case '(':
                    return Token.OPEN;
                case ')':
                    return Token.CLOSE;
                case ';':
                    return Token.STOP;
                default:
                    return Token.BAD;
            }
        }

        private boolean takes(int sign) {
            if (at < length && bytes[at] == sign) {
                at++;
                return true;
            }
            return false;
        }
    }

    /** Reads a text into what it tells; its methods answer NONE once a fault is found. */
    private static final class Reader {
        private static final int[] MOST = {MOST_STUFFS, MOST_DAYS, MOST_ROOMS, MOST_MONKS};
        private static final int WRONG_TOKEN = 1;
        private static final int TOO_MUCH = 2;
        private static final int TOLD_ALREADY = 3;
        private static final int NOT_TOLD = 4;

        private final Scanner scanner = new Scanner();
        private final int[] waiting = new int[MOST_KNOTS + MOST_OPEN];
        private final int[] strengths = new int[MOST_KNOTS + MOST_OPEN];
        private int waitingCount;
        private int opened;
        private boolean wantsValue;
        private Told told = new Told();
        int fault;
        int place = NONE;

        void open(byte[] bytes, int length) {
            told.clear();
            fault = 0;
            place = NONE;
            scanner.open(bytes, length);
        }

        /** Gives what was read for what was told earlier, which the next text is read into. */
        Told exchange(Told earlier) {
            Told read = told;
            told = earlier;
            return read;
        }

        boolean hasMore() {
            return scanner.token != Token.END;
        }

        private int wrong(int what) {
            fault = what;
            place = scanner.start;
            return NONE;
        }

        int readLine() {
            switch (scanner.token) {
                case Token.STUFF:
                    return stuffLine();
                case Token.DAY:
                    return dayLine();
                case Token.MIX:
                    return mixLine();
                case Token.ROOM:
                    return roomLine();
                case Token.MONK:
                    return monkLine();
                case Token.LINGER:
                    return lingerLine();
                case Token.SEED:
                    return seedLine();
                case Token.LAW:
                    return lawLine();
                default:
                    return wrong(WRONG_TOKEN);
            }
        }

        private int stuffLine() {
            int stuff = newName(STUFFS);
            int store = stuff == NONE ? NONE : readNumber(0, 999);
            if (store == NONE) {
                return NONE;
            }
            told.store[stuff] = store;
            return readStop();
        }

        private int dayLine() {
            int day = newName(DAYS);
            if (day == NONE) {
                return NONE;
            }
            if (scanner.token == Token.FEAST) {
                told.feast[day] = true;
                scanner.advance();
            }
            return readStop();
        }

        private int mixLine() {
            if (told.mixes >= MOST_MIXES) {
                return wrong(TOO_MUCH);
            }
            scanner.advance();
            int day = toldName(DAYS);
            if (day == NONE) {
                return NONE;
            }
            scanner.advance();
            int stuff = toldName(STUFFS);
            if (stuff == NONE) {
                return NONE;
            }
            if (told.mix[day][stuff] > 0) {
                return wrong(TOLD_ALREADY);
            }
            scanner.advance();
            int much = readNumber(1, 99);
            if (much == NONE) {
                return NONE;
            }
            told.mix[day][stuff] = much;
            told.mixes++;
            return readStop();
        }

        private int roomLine() {
            int room = newName(ROOMS);
            int part = room == NONE ? NONE : readNumber(0, 100);
            if (part == NONE) {
                return NONE;
            }
            told.part[room] = part;
            return readStop();
        }

        private int monkLine() {
            int monk = newName(MONKS);
            int room = monk == NONE ? NONE : toldName(ROOMS);
            if (room == NONE) {
                return NONE;
            }
            scanner.advance();
            int nose = readNumber(1, 99);
            if (nose == NONE) {
                return NONE;
            }
            told.room[monk] = room;
            told.nose[monk] = nose;
            return readStop();
        }

        private int lingerLine() {
            if (told.lingerTold) {
                return wrong(TOLD_ALREADY);
            }
            scanner.advance();
            told.lingerTold = true;
            told.linger = readNumber(0, 100);
            return told.linger == NONE ? NONE : readStop();
        }

        private int seedLine() {
            if (told.seedTold) {
                return wrong(TOLD_ALREADY);
            }
            scanner.advance();
            told.seedTold = true;
            return readNumber(0, 99999) == NONE ? NONE : readStop();
        }

        private int lawLine() {
            scanner.advance();
            if (scanner.token < Token.AIR_RULE || scanner.token > Token.WORTH_RULE) {
                return wrong(WRONG_TOKEN);
            }
            int rule = scanner.token - Token.AIR_RULE;
            if (told.laws.isTold(rule)) {
                return wrong(TOLD_ALREADY);
            }
            scanner.advance();
            told.laws.begin(rule);
            if (readFormula() == NONE) {
                return NONE;
            }
            told.laws.end(rule);
            return readStop();
        }

        /** At the word of a line: a new one of a kind, numbered as it comes. */
        private int newName(int kind) {
            int number = told.many[kind];
            if (number >= MOST[kind]) {
                return wrong(TOO_MUCH);
            }
            scanner.advance();
            if (scanner.token != Token.NAME) {
                return wrong(WRONG_TOKEN);
            }
            if (told.numberOf(kind, scanner.letters) != NONE) {
                return wrong(TOLD_ALREADY);
            }
            told.names[kind][number] = scanner.letters;
            told.many[kind]++;
            scanner.advance();
            return number;
        }

        /** Does not go on behind the name, as the line may still find a fault at it. */
        private int toldName(int kind) {
            if (scanner.token != Token.NAME) {
                return wrong(WRONG_TOKEN);
            }
            int number = told.numberOf(kind, scanner.letters);
            return number == NONE ? wrong(NOT_TOLD) : number;
        }

        private int readNumber(int least, int most) {
            if (scanner.token != Token.NUMBER) {
                return wrong(WRONG_TOKEN);
            }
            int number = scanner.number;
            if (number < least || number > most) {
                return wrong(TOO_MUCH);
            }
            scanner.advance();
            return number;
        }

        private int readStop() {
            if (scanner.token != Token.STOP) {
                return wrong(WRONG_TOKEN);
            }
            scanner.advance();
            return 0;
        }

        /** Puts signs behind their values as it reads, the weaker ones waiting, so that nothing calls itself. */
        private int readFormula() {
            waitingCount = 0;
            opened = 0;
            wantsValue = true;
            for (int i = 0; i < MOST_BYTES; i++) {
                if (!wantsValue && opened == 0 && scanner.token == Token.STOP) {
                    settle(1);
                    return 0;
                }
                int read = wantsValue ? readValue() : readSign();
                if (read == NONE) {
                    return NONE;
                }
                scanner.advance();
            }
            return wrong(WRONG_TOKEN);
        }

        private int readValue() {
            int token = scanner.token;
            boolean isNumber = token == Token.NUMBER;
            if (token == Token.OPEN) {
                if (opened >= MOST_OPEN) {
                    return wrong(TOO_MUCH);
                }
                opened++;
                return putOff(token);
            }
            if (token == Token.NOT && topStrength() <= Token.strength(Token.NOT)) {
                return told.laws.addKnot() ? putOff(token) : wrong(TOO_MUCH);
            }
            if (!isNumber && (token < Token.MUCH || token > Token.NOSE)) {
                return wrong(WRONG_TOKEN);
            }
            if (isNumber && scanner.number > 9999 || !told.laws.addKnot()) {
                return wrong(TOO_MUCH);
            }
            told.laws.append(token, scanner.number);
            wantsValue = false;
            return 0;
        }

        private int readSign() {
            int token = scanner.token;
            int strength = Token.strength(token);
            if (token == Token.CLOSE && opened > 0) {
                settle(1);
                waitingCount--;
                opened--;
                return 0;
            }
            if (strength == 0 || token == Token.NOT) {
                return wrong(WRONG_TOKEN);
            }
            settle(strength == Token.COMPARING ? strength + 1 : strength);
            if (strength == Token.COMPARING && topStrength() == strength) {
                return wrong(WRONG_TOKEN);
            }
            wantsValue = true;
            return told.laws.addKnot() ? putOff(token) : wrong(TOO_MUCH);
        }

        private int putOff(int token) {
            if (waitingCount >= waiting.length) {
                return wrong(TOO_MUCH);
            }
            waiting[waitingCount] = token;
            strengths[waitingCount] = Token.strength(token);
            waitingCount++;
            return 0;
        }

        /** 0 at the start of a formula and behind '('. */
        private int topStrength() {
            return waitingCount == 0 ? 0 : strengths[waitingCount - 1];
        }

        private void settle(int least) {
            while (waitingCount > 0 && topStrength() >= least) {
                waitingCount--;
                told.laws.append(waiting[waitingCount], 0);
            }
        }
    }

    /** The three laws, each a row of knots with every sign behind its values. */
    private static final class Laws {
        private static final long LIMIT = 1000000000000L;
        private static final int RULES = 3;

        private final int[] tokens = new int[MOST_KNOTS];
        private final int[] numbers = new int[MOST_KNOTS];
        private final int[] from = new int[RULES];
        private final int[] to = new int[RULES];
        private final boolean[] isTold = new boolean[RULES];
        private final long[] names = new long[Token.NOSE - Token.MUCH + 1];
        private final long[] values = new long[MOST_KNOTS];
        private int length;
        int knots;

        void clear() {
            length = 0;
            knots = 0;
            for (int rule = 0; rule < RULES; rule++) {
                isTold[rule] = false;
            }
        }

        boolean isTold(int rule) {
            return isTold[rule];
        }

        void begin(int rule) {
            isTold[rule] = true;
            from[rule] = length;
            to[rule] = length;
        }

        void end(int rule) {
            to[rule] = length;
        }

        boolean addKnot() {
            if (knots >= MOST_KNOTS) {
                return false;
            }
            knots++;
            return true;
        }

        void append(int token, int number) {
            if (length < MOST_KNOTS) {
                tokens[length] = token;
                numbers[length] = number;
                length++;
            }
        }

        void setNames(int much, int part, int left, int wind, int date, int place, int nose) {
            names[0] = much;
            names[1] = part;
            names[2] = left;
            names[3] = wind;
            names[4] = date;
            names[5] = place;
            names[6] = nose;
        }

        /** What a law's formula comes to by the names that were set last; ERROR also without such a law. */
        long workOut(int rule) {
            if (!isTold[rule]) {
                return ERROR;
            }
            int height = 0;
            for (int i = from[rule]; i < to[rule]; i++) {
                int token = tokens[i];
                if (token == Token.NUMBER) {
                    values[height] = numbers[i];
                    height++;
                } else if (token >= Token.MUCH && token <= Token.NOSE) {
                    values[height] = names[token - Token.MUCH];
                    height++;
                } else if (token == Token.NOT && height >= 1) {
                    values[height - 1] = values[height - 1] == 0 ? 1 : 0;
                } else if (height >= 2) {
                    height--;
                    long one = values[height - 1];
                    long other = values[height];
                    long value = token == Token.TIMES ? multiplied(one, other) : joined(token, one, other);
                    if (value > LIMIT || value < -LIMIT) {
                        return ERROR;
                    }
                    values[height - 1] = value;
                }
            }
            return height == 1 ? values[0] : ERROR;
        }

        private static long joined(int token, long one, long other) {
            switch (token) {
                case Token.OR:
                    return one != 0 || other != 0 ? 1 : 0;
                case Token.AND:
                    return one != 0 && other != 0 ? 1 : 0;
                case Token.LESS:
                    return one < other ? 1 : 0;
                case Token.LESS_EQUAL:
                    return one <= other ? 1 : 0;
                case Token.EQUAL:
                    return one == other ? 1 : 0;
                case Token.UNLIKE:
                    return one != other ? 1 : 0;
                case Token.MORE_EQUAL:
                    return one >= other ? 1 : 0;
                case Token.MORE:
                    return one > other ? 1 : 0;
                case Token.PLUS:
                    return one + other;
                case Token.MINUS:
                    return one - other;
                case Token.BY:
                    return other == 0 ? ERROR : one / other;
                default:
                    return ERROR;
            }
        }

        /** Looks ahead by a division, since the product itself may go beyond a long. */
        private static long multiplied(long one, long other) {
            long size = other < 0 ? -other : other;
            if (size > 0 && (one > LIMIT / size || one < -(LIMIT / size))) {
                return ERROR;
            }
            return one * other;
        }
    }

    /** What a text tells; no call but text() changes it. */
    private static final class Told {
        final int[] many = new int[MONKS + 1];
        final int[][] names = new int[MONKS + 1][MOST_DAYS];
        final int[] store = new int[MOST_STUFFS];
        final boolean[] feast = new boolean[MOST_DAYS];
        final int[][] mix = new int[MOST_DAYS][MOST_STUFFS];
        final int[] part = new int[MOST_ROOMS];
        final int[] room = new int[MOST_MONKS];
        final int[] nose = new int[MOST_MONKS];
        final Laws laws = new Laws();
        int mixes;
        int linger;
        boolean lingerTold;
        boolean seedTold;

        void clear() {
            for (int kind = 0; kind < many.length; kind++) {
                many[kind] = 0;
            }
            for (int day = 0; day < MOST_DAYS; day++) {
                feast[day] = false;
                for (int stuff = 0; stuff < MOST_STUFFS; stuff++) {
                    mix[day][stuff] = 0;
                }
            }
            laws.clear();
            mixes = 0;
            linger = 0;
            lingerTold = false;
            seedTold = false;
        }

        int numberOf(int kind, int letters) {
            for (int number = 0; number < many[kind]; number++) {
                if (names[kind][number] == letters) {
                    return number;
                }
            }
            return NONE;
        }

        /** The mix of a stuff on a date; nothing is mixed without days. */
        int mixedOn(int date, int stuff) {
            int days = many[DAYS];
            return days > 0 ? mix[date % days][stuff] : 0;
        }

        /** The stuffs of which so much of a hundred is keen at least, but those of a cold. */
        int smelt(int[] amounts, int ofHundred, int keen, int colds) {
            int bits = 0;
            for (int stuff = 0; stuff < many[STUFFS]; stuff++) {
                if (amounts[stuff] * ofHundred / 100 >= keen) {
                    bits |= 1 << stuff;
                }
            }
            return bits & ~colds;
        }
    }

    /** What mornings and calls change; a trial goes through mornings of its own, apart from what is now. */
    private static final class State {
        final int[] store = new int[MOST_STUFFS];
        final int[] wind = new int[MOST_STUFFS];
        final int[] part = new int[MOST_ROOMS];
        final int[][] air = new int[MOST_ROOMS][MOST_STUFFS];
        final int[] room = new int[MOST_MONKS];
        final int[] colds = new int[MOST_MONKS];
        final int[] smelled = new int[MOST_MONKS];
        final int[] thought = new int[MOST_MONKS];
        private final int[] much = new int[MOST_STUFFS];
        private final int[] votes = new int[MOST_DAYS];
        int date;
        int kept;
        int right;
        int wrong;
        int absent;

        void begin(Told told) {
            for (int stuff = 0; stuff < MOST_STUFFS; stuff++) {
                store[stuff] = told.store[stuff];
                wind[stuff] = 0;
            }
            for (int place = 0; place < MOST_ROOMS; place++) {
                part[place] = told.part[place];
            }
            for (int monk = 0; monk < MOST_MONKS; monk++) {
                room[monk] = told.room[monk];
                colds[monk] = 0;
                smelled[monk] = 0;
                thought[monk] = told.many[DAYS] - 1;
            }
            clearAir();
            date = 0;
            kept = NONE;
            right = 0;
            wrong = 0;
            absent = NONE;
        }

        void copy(State other) {
            System.arraycopy(other.store, 0, store, 0, MOST_STUFFS);
            System.arraycopy(other.wind, 0, wind, 0, MOST_STUFFS);
            System.arraycopy(other.part, 0, part, 0, MOST_ROOMS);
            for (int place = 0; place < MOST_ROOMS; place++) {
                System.arraycopy(other.air[place], 0, air[place], 0, MOST_STUFFS);
            }
            System.arraycopy(other.room, 0, room, 0, MOST_MONKS);
            System.arraycopy(other.colds, 0, colds, 0, MOST_MONKS);
            System.arraycopy(other.smelled, 0, smelled, 0, MOST_MONKS);
            System.arraycopy(other.thought, 0, thought, 0, MOST_MONKS);
            date = other.date;
            kept = other.kept;
            right = other.right;
            wrong = other.wrong;
            absent = other.absent;
        }

        void clearAir() {
            for (int place = 0; place < MOST_ROOMS; place++) {
                for (int stuff = 0; stuff < MOST_STUFFS; stuff++) {
                    air[place][stuff] = 0;
                }
            }
        }

        void goThroughMorning(Told told) {
            takeOut(told);
            drift(told);
            for (int monk = 0; monk < told.many[MONKS]; monk++) {
                smellAndThink(told, monk, keenOf(told, monk, room[monk]));
            }
            vote(told);
            for (int stuff = 0; stuff < MOST_STUFFS; stuff++) {
                wind[stuff] = 0;
            }
            date++;
        }

        /** The first stuff of which there is less in store than is to be mixed; NONE: there is none. */
        int firstShort(Told told) {
            for (int stuff = 0; stuff < told.many[STUFFS]; stuff++) {
                if (told.mixedOn(date, stuff) > store[stuff]) {
                    return stuff;
                }
            }
            return NONE;
        }

        void takeOut(Told told) {
            for (int stuff = 0; stuff < told.many[STUFFS]; stuff++) {
                much[stuff] = Math.min(told.mixedOn(date, stuff), store[stuff]);
                store[stuff] -= much[stuff];
            }
        }

        private void drift(Told told) {
            for (int place = 0; place < told.many[ROOMS]; place++) {
                for (int stuff = 0; stuff < told.many[STUFFS]; stuff++) {
                    long ruled = airLaw(told, place, stuff, much[stuff]);
                    int lingering = air[place][stuff] * told.linger / 100;
                    air[place][stuff] = ruled == ERROR
                        ? much[stuff] * part[place] / 100 + lingering + wind[stuff]
                        : within(ruled, 0, 9999);
                }
            }
        }

        private void smellAndThink(Told told, int monk, int keen) {
            smelled[monk] = told.smelt(air[room[monk]], 100, keen, colds[monk]);
            int days = told.many[DAYS];
            for (int step = 1; step <= days; step++) {
                int day = (thought[monk] + step) % days;
                if (markOf(told, monk, day, keen) == smelled[monk]) {
                    thought[monk] = day;
                    return;
                }
            }
            if (days > 0) {
                thought[monk] = (thought[monk] + 1) % days;
            }
        }

        private void vote(Told told) {
            int days = told.many[DAYS];
            if (days == 0) {
                return;
            }
            int today = date % days;
            kept = mostThought(told, today);
            if (kept == today) {
                right++;
            }
            if (told.feast[kept] != told.feast[today]) {
                wrong++;
            }
        }

        private int mostThought(Told told, int today) {
            for (int day = 0; day < MOST_DAYS; day++) {
                votes[day] = 0;
            }
            for (int monk = 0; monk < told.many[MONKS]; monk++) {
                if (monk != absent) {
                    votes[thought[monk]]++;
                }
            }
            int best = today;
            int most = 0;
            for (int day = 0; day < told.many[DAYS]; day++) {
                if (votes[day] > most) {
                    most = votes[day];
                    best = day;
                }
            }
            return best;
        }

        int feastThinkers(Told told) {
            int thinkers = 0;
            for (int monk = 0; monk < told.many[MONKS]; monk++) {
                int day = thought[monk];
                if (day >= 0 && told.feast[day]) {
                    thinkers++;
                }
            }
            return thinkers;
        }

        int markOf(Told told, int monk, int day, int keen) {
            return told.smelt(told.mix[day], part[room[monk]], keen, colds[monk]);
        }

        long airLaw(Told told, int place, int stuff, int mixed) {
            told.laws.setNames(mixed, part[place], air[place][stuff], wind[stuff], date, place, 0);
            return told.laws.workOut(AIR);
        }

        long keenLaw(Told told, int monk, int place) {
            told.laws.setNames(0, part[place], 0, 0, date, place, told.nose[monk]);
            return told.laws.workOut(KEEN);
        }

        long worthLaw(Told told, int stuff) {
            told.laws.setNames(store[stuff], 0, 0, 0, date, 0, 0);
            return told.laws.workOut(WORTH);
        }

        int keenOf(Told told, int monk, int place) {
            long ruled = keenLaw(told, monk, place);
            return ruled == ERROR ? told.nose[monk] : within(ruled, 1, 99);
        }

        int worthOf(Told told, int stuff) {
            long ruled = worthLaw(told, stuff);
            return ruled == ERROR ? 1 : within(ruled, 0, 999);
        }

        private static int within(long value, int least, int most) {
            return (int) Math.max(least, Math.min(most, value));
        }
    }

    /** The latest calls that can be undone, each with what was there ahead of it. */
    private static final class Undoing {
        private final int[] call = new int[MOST_UNDONE];
        private final int[] whose = new int[MOST_UNDONE];
        private final int[] before = new int[MOST_UNDONE];
        int size;

        void clear() {
            size = 0;
        }

        void add(int newCall, int newWhose, int newBefore) {
            if (size == MOST_UNDONE) {
                forgetOldest();
            }
            call[size] = newCall;
            whose[size] = newWhose;
            before[size] = newBefore;
            size++;
        }

        private void forgetOldest() {
            for (int i = 1; i < size; i++) {
                call[i - 1] = call[i];
                whose[i - 1] = whose[i];
                before[i - 1] = before[i];
            }
            size--;
        }

        int takeBack(State state) {
            if (size == 0) {
                return NONE;
            }
            size--;
            int one = whose[size];
            switch (call[size]) {
                case COLD_CALL:
                    state.colds[one] = before[size];
                    break;
                case WIND_CALL:
                    state.wind[one] = before[size];
                    break;
                case BUY_CALL:
                    state.store[one] = before[size];
                    break;
                default:
                    state.room[one] = before[size];
                    break;
            }
            return size;
        }
    }

    /** What was noted of thoughts, and which notes strike others. */
    private static final class Notes {
        private final int[] mornings = new int[MOST_NOTES];
        private final int[] monk = new int[MOST_NOTES];
        private final int[] day = new int[MOST_NOTES];
        private final boolean[] is = new boolean[MOST_NOTES];
        private final int[] strikes = new int[MOST_NOTES];
        private final boolean[] struck = new boolean[MOST_NOTES];
        int size;
        int knownBy = NONE;

        void clear() {
            size = 0;
            knownBy = NONE;
        }

        int add(int newMornings, int newMonk, int newDay, boolean newIs) {
            if (size >= MOST_NOTES) {
                return NONE;
            }
            mornings[size] = newMornings;
            monk[size] = newMonk;
            day[size] = newDay;
            is[size] = newIs;
            strikes[size] = NONE;
            size++;
            return size - 1;
        }

        int strike(int note) {
            if (note < 0 || note >= size || size >= MOST_NOTES) {
                return NONE;
            }
            strikes[size] = note;
            size++;
            return size - 1;
        }

        int considered() {
            return knownBy == NONE ? size : knownBy;
        }

        /** From the last one on, so that what strikes is known to be struck or not before it strikes. */
        void weigh() {
            for (int i = 0; i < MOST_NOTES; i++) {
                struck[i] = false;
            }
            for (int i = considered() - 1; i >= 0; i--) {
                if (!struck[i] && strikes[i] != NONE) {
                    struck[strikes[i]] = true;
                }
            }
        }

        private boolean counts(int note) {
            return !struck[note] && strikes[note] == NONE;
        }

        int lastMorning() {
            int last = 0;
            for (int i = 0; i < considered(); i++) {
                if (counts(i)) {
                    last = Math.max(last, mornings[i]);
                }
            }
            return last;
        }

        boolean allow(int morning, int[] thought) {
            for (int i = 0; i < considered(); i++) {
                if (counts(i) && mornings[i] == morning && (thought[monk[i]] == day[i]) != is[i]) {
                    return false;
                }
            }
            return true;
        }
    }

    /** The row of numbers by which winds come by chance. */
    private static final class Numbers {
        private long last;

        void begin(int seed) {
            last = seed;
        }

        int draw() {
            last = last * 1103515245L + 12345L & 0x7fffffffL;
            return (int) (last / 65536L);
        }
    }
}
