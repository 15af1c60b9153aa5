/**
 * Only if he says it: a caller's orders, the children who fall by them, and how likely they do.
 *
 * This class is the face alone: it looks at what it is asked, refuses what can't be, and leaves
 * the rest to the classes inside. They make all their rows once, so no call makes an object.
 */
public final class SimonSays {
    public static final int BAD = -1, STATE = -2, FULL = -3, NONE = -9;
    public static final int NO = -1000000;

    private static final int MOST_CHILDREN = 6;
    private static final int MOST_BYTES = 200;
    private static final int MOST_UNDONE = 12;
    private static final int MOST_FIGURES = 9;
    private static final int MOST_FIGURES_LEFT = 3;
    private static final int MOST_STREAK = 9;
    private static final int IMAGES = 2;
    private static final int COPIES_NONE = 9;
    private static final int TEN = 10;
    private static final int SAID = 1, BARE = 2, SHOWN = 3, QUICK = 4;

    private final Text text;
    private final Reader reader;
    private final Children told;
    private final Round round;
    private final History history;
    private final Image[] images;
    private final Row asked;
    private final Chances chances;
    private final Kinds kinds;

    public SimonSays() {
        text = new Text();
        reader = new Reader(text);
        told = new Children();
        round = new Round(told);
        history = new History();
        images = new Image[IMAGES];
        for (int image = 0; image < IMAGES; image++) {
            images[image] = new Image();
        }
        asked = new Row();
        chances = new Chances(told, round, asked);
        kinds = new Kinds(told, round);
    }

    // ---- the class

    public int type(long v, int n) {
        if (n < 1 || n > 8) {
            return BAD;
        }
        if (text.length() + n > MOST_BYTES) {
            return FULL;
        }
        for (int place = n - 1; place >= 0; place--) {
            text.append((int) (v >>> (8 * place)) & 255);
        }
        return text.length();
    }

    public int clear() {
        int had = text.length();
        text.drop();
        return had;
    }

    public int children() {
        int items = reader.readItems();
        if (items < 0) {
            return -10 - reader.fault();
        }
        told.takeOver(reader.found());
        round.startAnew();
        history.forget();
        for (int image = 0; image < IMAGES; image++) {
            images[image].forget();
        }
        text.drop();
        return items;
    }

    public int child(int k, int what) {
        if (!told.has(k)) {
            return BAD;
        }
        switch (what) {
            case 0: return told.slipOf(k);
            case 1: return told.lateOf(k);
            case 2: return told.copiedBy(k);
            case 3: return told.isLittle(k) ? 1 : 0;
            case 4: return round.isIn(k) ? 1 : 0;
            case 5: return round.isIn(k) ? round.leaderOf(k) : NONE;
            default: return BAD;
        }
    }

    public int now(int what) {
        switch (what) {
            case 0: return round.whoIsIn();
            case 1: return round.streak();
            case 2: return round.isFair() ? 1 : 0;
            case 3: return history.size();
            default: return BAD;
        }
    }

    // ---- orders

    public int errs(int k, int order) {
        if (!told.has(k) || !isOrder(order)) {
            return BAD;
        }
        if (!round.isIn(k)) {
            return STATE;
        }
        return told.errsOf(k, order, round.streak());
    }

    public int call(int order) {
        if (!isOrder(order)) {
            return BAD;
        }
        if (round.whoIsIn() == 0) {
            return STATE;
        }
        history.add(round.whoIsIn(), round.streak());
        return round.obey(order);
    }

    public int comesBack(int k) {
        if (!told.has(k)) {
            return BAD;
        }
        if (round.isIn(k)) {
            return STATE;
        }
        history.add(round.whoIsIn(), round.streak());
        round.letIn(k);
        return round.howManyIn();
    }

    public int undo() {
        if (history.size() == 0) {
            return STATE;
        }
        history.dropLatest();
        round.become(history.droppedIn(), history.droppedStreak());
        return history.size();
    }

    public int lot(int v) {
        int was = round.theLot();
        round.setLot(v);
        return was;
    }

    // ---- how likely

    public long falls(int order, int set, int what) {
        if (!isOrder(order) || !told.isSet(set) || !isHalf(what)) {
            return BAD;
        }
        return leastTerms(chances.setFalls(order, set), chances.lower(1), what);
    }

    public long many(int order, int n, int what) {
        if (!isOrder(order) || n < 0 || n > MOST_CHILDREN || !isHalf(what)) {
            return BAD;
        }
        return leastTerms(chances.numberFalls(order, n), chances.lower(1), what);
    }

    public long stays(int k, int row, int what) {
        if (!told.has(k) || !asked.read(row, MOST_FIGURES) || !isHalf(what)) {
            return BAD;
        }
        if (!round.isIn(k)) {
            return leastTerms(0, 1, what);
        }
        return leastTerms(chances.leaderStays(round.leaderOf(k)), powerOfTen(asked.length()), what);
    }

    public long left(int row, int what) {
        if (!asked.read(row, MOST_FIGURES_LEFT) || !isHalf(what)) {
            return BAD;
        }
        return leastTerms(chances.justOneStays(), chances.lower(asked.length()), what);
    }

    public int best(int n) {
        if (n < 0 || n > MOST_FIGURES_LEFT) {
            return BAD;
        }
        return chances.bestRow(n);
    }

    public int lure(int k, int c) {
        if (!told.has(k) || c < 0 || c > TEN) {
            return BAD;
        }
        return round.isIn(k) ? round.fewestSaidAhead(k, c) : NONE;
    }

    // ---- what it was

    public int could(int set) {
        return told.isSet(set) ? chances.ordersThatCould(set) : BAD;
    }

    public int likeliest(int set) {
        return told.isSet(set) ? chances.likeliestOrder(set) : BAD;
    }

    // ---- kinds, images

    public int rate(int kind, int k) {
        return told.has(k) ? kinds.rateAs(kind, k) : NO;
    }

    public int keep(int image) {
        if (!isImage(image)) {
            return BAD;
        }
        images[image].take(round);
        return round.howManyIn();
    }

    public int back(int image) {
        if (!isImage(image)) {
            return BAD;
        }
        if (!images[image].isKept()) {
            return STATE;
        }
        images[image].giveTo(round);
        history.forget();
        return round.howManyIn();
    }

    public int count(int what) {
        switch (what) {
            case 0: return told.size();
            case 1: return Integer.bitCount(told.littleOnes());
            case 2: return round.howManyIn();
            case 3: return text.length();
            default: return BAD;
        }
    }

    public long trace() {
        return kinds.theTrace();
    }

    private static boolean isOrder(int order) {
        return order >= SAID && order <= QUICK;
    }

    private static boolean isImage(int image) {
        return image >= 0 && image < IMAGES;
    }

    /** Whether it names the upper (0) or the lower (1) number of a fraction. */
    private static boolean isHalf(int what) {
        return what == 0 || what == 1;
    }

    private static int streakBehind(int order, int streak) {
        return order == SAID || order == QUICK ? Math.min(MOST_STREAK, streak + 1) : 0;
    }

    private static long powerOfTen(int n) {
        long power = 1;
        for (int step = 0; step < n; step++) {
            power *= TEN;
        }
        return power;
    }

    private static long leastTerms(long upper, long lower, int what) {
        long divisor = greatestDivisor(upper, lower);
        long asked = what == 0 ? upper : lower;
        return divisor > 1 ? asked / divisor : asked;
    }

    /** The bound is far above the steps that two longs can need (fewer than 100). */
    private static long greatestDivisor(long a, long b) {
        long divisor = a;
        long rest = b;
        for (int step = 0; step < 200 && rest != 0; step++) {
            long next = divisor % rest;
            divisor = rest;
            rest = next;
        }
        return divisor;
    }

    /** THE TEXT: bytes as numbers 0 .. 255. */
    private static final class Text {
        private final int[] bytes;
        private int length;

        Text() {
            bytes = new int[MOST_BYTES];
        }

        int length() {
            return length;
        }

        void append(int value) {
            if (length < MOST_BYTES) {
                bytes[length] = value;
                length++;
            }
        }

        /** -1 ahead of the text and behind it: no byte is that. */
        int byteAt(int place) {
            return place >= 0 && place < length ? bytes[place] : -1;
        }

        void drop() {
            length = 0;
        }
    }

    /**
     * Reads THE TEXT token by token. What it finds is held apart until all has been read, since
     * nothing may change by a text with a fault.
     */
    private static final class Reader {
        private static final int END = 0, WRONG = 1, SEMICOLON = 2, NUMBER = 3, CHILD = 4, LITTLE = 5;

        private final Text text;
        private final Children found;
        private int token;
        private int start;
        private int end;
        private int value;

        Reader(Text text) {
            this.text = text;
            found = new Children();
        }

        /** How many items; -1: there is a fault. */
        int readItems() {
            found.forget();
            end = 0;
            advance();
            for (int items = 0; items <= MOST_BYTES; items++) {
                if (token == END) {
                    return items;
                }
                boolean read = token == CHILD ? readChild() : token == LITTLE && readLittle();
                if (!read) {
                    return -1;
                }
            }
            return -1;
        }

        /** The token at hand is the one that can't stand; at the text's end its start is the length. */
        int fault() {
            return start;
        }

        Children found() {
            return found;
        }

        private boolean readChild() {
            if (found.size() >= MOST_CHILDREN) {
                return false;
            }
            advance();
            if (!isNumberUpTo(9)) {
                return false;
            }
            int slip = value;
            advance();
            if (!isNumberUpTo(9)) {
                return false;
            }
            int late = value;
            advance();
            if (token != NUMBER || (value != COPIES_NONE && !found.has(value))) {
                return false;
            }
            int copies = value;
            advance();
            if (token != SEMICOLON) {
                return false;
            }
            found.add(slip, late, copies);
            advance();
            return true;
        }

        private boolean readLittle() {
            advance();
            if (token != NUMBER || !found.has(value)) {
                return false;
            }
            int little = value;
            advance();
            if (token != SEMICOLON) {
                return false;
            }
            found.makeLittle(little);
            advance();
            return true;
        }

        private boolean isNumberUpTo(int most) {
            return token == NUMBER && value <= most;
        }

        private void advance() {
            start = end;
            for (; start < text.length() && text.byteAt(start) == ' '; start++) {
                // blanks mean nothing
            }
            end = start + 1;
            int first = text.byteAt(start);
            if (first < 0) {
                token = END;
            } else if (isLetter(first)) {
                advanceOverWord();
            } else if (isDigit(first)) {
                advanceOverNumber();
            } else {
                token = first == ';' ? SEMICOLON : WRONG;
            }
        }

        private void advanceOverWord() {
            for (; end < text.length() && isLetter(text.byteAt(end)); end++) {
                // to the last letter
            }
            if (spells("child")) {
                token = CHILD;
            } else {
                token = spells("little") ? LITTLE : WRONG;
            }
        }

        private void advanceOverNumber() {
            int first = text.byteAt(start);
            value = first - '0';
            for (; end < text.length() && isDigit(text.byteAt(end)); end++) {
                // held at 100, which is too much already, since 200 digits would overflow
                value = Math.min(100, value * 10 + text.byteAt(end) - '0');
            }
            boolean leadingNought = first == '0' && end - start > 1;
            token = value > 99 || leadingNought ? WRONG : NUMBER;
        }

        private boolean spells(String word) {
            if (end - start != word.length()) {
                return false;
            }
            for (int place = 0; place < word.length(); place++) {
                if (text.byteAt(start + place) != word.charAt(place)) {
                    return false;
                }
            }
            return true;
        }

        private static boolean isLetter(int value) {
            return value >= 'a' && value <= 'z';
        }

        private static boolean isDigit(int value) {
            return value >= '0' && value <= '9';
        }
    }

    /** The children as told: what no order changes. */
    private static final class Children {
        private final int[] slips;
        private final int[] lates;
        private final int[] copied;
        private int size;
        private int littleOnes;

        Children() {
            slips = new int[MOST_CHILDREN];
            lates = new int[MOST_CHILDREN];
            copied = new int[MOST_CHILDREN];
        }

        void forget() {
            size = 0;
            littleOnes = 0;
        }

        void add(int slip, int late, int copies) {
            if (size < MOST_CHILDREN) {
                slips[size] = slip;
                lates[size] = late;
                copied[size] = copies;
                size++;
            }
        }

        void makeLittle(int k) {
            littleOnes |= 1 << k;
        }

        void takeOver(Children other) {
            forget();
            for (int k = 0; k < other.size; k++) {
                add(other.slipOf(k), other.lateOf(k), other.copiedBy(k));
            }
            littleOnes = other.littleOnes;
        }

        int size() {
            return size;
        }

        int littleOnes() {
            return littleOnes;
        }

        boolean has(int k) {
            return k >= 0 && k < size;
        }

        int everyone() {
            return (1 << size) - 1;
        }

        boolean isSet(int set) {
            return (set & ~everyone()) == 0;
        }

        boolean isLittle(int k) {
            return has(k) && (littleOnes >> k & 1) == 1;
        }

        int slipOf(int k) {
            return has(k) ? slips[k] : 0;
        }

        int lateOf(int k) {
            return has(k) ? lates[k] : 0;
        }

        /** Whom a child copies. */
        int copiedBy(int k) {
            return has(k) ? copied[k] : COPIES_NONE;
        }

        int howManyCopy(int k) {
            int copiers = 0;
            for (int other = 0; other < size; other++) {
                if (copiedBy(other) == k) {
                    copiers++;
                }
            }
            return copiers;
        }

        /** The streak is given, since a chance looks at streaks that are not there yet. */
        int errsOf(int k, int order, int streak) {
            switch (order) {
                case BARE: return Math.min(TEN, slipOf(k) + streak);
                case SHOWN: return Math.min(TEN, slipOf(k) + streak + 2);
                case QUICK: return Math.min(TEN, lateOf(k));
                default: return 0;
            }
        }
    }

    /** Who is in, the streak, the lot: all that an order changes. */
    private static final class Round {
        private final Children told;
        private int in;
        private int streak;
        private int lot;

        Round(Children told) {
            this.told = told;
            lot = 1;
        }

        void startAnew() {
            become(told.everyone(), 0);
        }

        void become(int in, int streak) {
            this.in = in;
            this.streak = streak;
        }

        int whoIsIn() {
            return in;
        }

        int howManyIn() {
            return Integer.bitCount(in);
        }

        int streak() {
            return streak;
        }

        int theLot() {
            return lot;
        }

        void setLot(int lot) {
            this.lot = lot;
        }

        boolean isIn(int k) {
            return told.has(k) && (in >> k & 1) == 1;
        }

        void letIn(int k) {
            in |= 1 << k;
        }

        /** Of a child who is in. A child copies one told ahead of it: so many steps are enough. */
        int leaderOf(int k) {
            int leader = k;
            for (int step = 0; step < MOST_CHILDREN; step++) {
                int copied = told.copiedBy(leader);
                if (!isIn(copied)) {
                    return leader;
                }
                leader = copied;
            }
            return leader;
        }

        boolean isLeader(int k) {
            return isIn(k) && leaderOf(k) == k;
        }

        /** All who are in and fall just if this leader does, itself too. */
        int groupOf(int leader) {
            int group = 0;
            for (int k = 0; k < told.size(); k++) {
                if (isIn(k) && leaderOf(k) == leader) {
                    group |= 1 << k;
                }
            }
            return group;
        }

        int obey(int order) {
            int fallen = 0;
            for (int k = 0; k < told.size(); k++) {
                if (isLeader(k) && draw() < told.errsOf(k, order, streak)) {
                    fallen |= groupOf(k);
                }
            }
            become(in & ~fallen, streakBehind(order, streak));
            return fallen;
        }

        private int draw() {
            lot = lot * 1103515245 + 12345;
            return (lot >>> 16) % TEN;
        }

        int fewestSaidAhead(int k, int c) {
            int leader = leaderOf(k);
            int streakThen = streak;
            for (int ahead = 0; ahead <= 9; ahead++) {
                if (told.errsOf(leader, BARE, streakThen) >= c) {
                    return ahead;
                }
                streakThen = streakBehind(SAID, streakThen);
            }
            return NONE;
        }

        boolean isFair() {
            int littleOut = told.littleOnes() & ~in;
            int bigIn = in & ~told.littleOnes();
            return littleOut == 0 || bigIn == 0;
        }
    }

    /** How it was ahead of each order and each who came back, the latest last. */
    private static final class History {
        private final int[] ins;
        private final int[] streaks;
        private int size;

        History() {
            ins = new int[MOST_UNDONE];
            streaks = new int[MOST_UNDONE];
        }

        int size() {
            return size;
        }

        void forget() {
            size = 0;
        }

        void add(int in, int streak) {
            if (size >= MOST_UNDONE) {
                loseOldest();
            }
            ins[size] = in;
            streaks[size] = streak;
            size++;
        }

        private void loseOldest() {
            size = MOST_UNDONE - 1;
            System.arraycopy(ins, 1, ins, 0, size);
            System.arraycopy(streaks, 1, streaks, 0, size);
        }

        /** What is dropped can be read until the next is added. */
        void dropLatest() {
            if (size > 0) {
                size--;
            }
        }

        int droppedIn() {
            return size < MOST_UNDONE ? ins[size] : 0;
        }

        int droppedStreak() {
            return size < MOST_UNDONE ? streaks[size] : 0;
        }
    }

    private static final class Image {
        private boolean kept;
        private int in;
        private int streak;
        private int lot;

        Image() {
            kept = false;
        }

        boolean isKept() {
            return kept;
        }

        void forget() {
            kept = false;
        }

        void take(Round round) {
            kept = true;
            in = round.whoIsIn();
            streak = round.streak();
            lot = round.theLot();
        }

        void giveTo(Round round) {
            round.become(in, streak);
            round.setLot(lot);
        }
    }

    /** A row of orders, told as the figures of a number. */
    private static final class Row {
        private final int[] figures;
        private int length;

        Row() {
            figures = new int[MOST_FIGURES];
        }

        int length() {
            return length;
        }

        /** Whether the number is a row of so many orders at most; held then, the last order first. */
        boolean read(int number, int most) {
            int rest = number;
            length = 0;
            for (int place = 0; place < most && place < MOST_FIGURES && rest > 0; place++) {
                if (!isOrder(rest % 10)) {
                    return false;
                }
                figures[place] = rest % 10;
                rest /= 10;
                length++;
            }
            return rest == 0;
        }

        int orderAt(int place) {
            return place >= 0 && place < length ? figures[length - 1 - place] : NONE;
        }
    }

    /**
     * The chances, as upper numbers above a power of ten. A whole group falls or stays at once, so
     * no row of orders gives a child another leader, and each leader can be looked at by itself.
     */
    private static final class Chances {
        private final Children told;
        private final Round round;
        private final Row row;
        private final long[] byNumber;

        Chances(Children told, Round round, Row row) {
            this.told = told;
            this.round = round;
            this.row = row;
            byNumber = new long[MOST_CHILDREN + 1];
        }

        /** The lower number for so many orders: ten for each leader and order, 10^18 at most. */
        long lower(int orders) {
            int leaders = 0;
            for (int k = 0; k < told.size(); k++) {
                if (round.isLeader(k)) {
                    leaders++;
                }
            }
            return powerOfTen(leaders * orders);
        }

        long setFalls(int order, int set) {
            if ((set & ~round.whoIsIn()) != 0) {
                return 0;
            }
            long upper = 1;
            for (int k = 0; k < told.size(); k++) {
                if (round.isLeader(k)) {
                    int group = round.groupOf(k);
                    int errs = told.errsOf(k, order, round.streak());
                    if ((group & set) == group) {
                        upper *= errs;
                    } else {
                        upper *= (group & set) == 0 ? TEN - errs : 0;
                    }
                }
            }
            return upper;
        }

        long numberFalls(int order, int n) {
            for (int number = 0; number <= MOST_CHILDREN; number++) {
                byNumber[number] = number == 0 ? 1 : 0;
            }
            for (int k = 0; k < told.size(); k++) {
                if (round.isLeader(k)) {
                    addGroup(Integer.bitCount(round.groupOf(k)), told.errsOf(k, order, round.streak()));
                }
            }
            return n >= 0 && n <= MOST_CHILDREN ? byNumber[n] : 0;
        }

        /** Downwards, since each number is made of the lower ones as they were. */
        private void addGroup(int size, int errs) {
            for (int number = MOST_CHILDREN; number >= 0; number--) {
                long without = number >= size ? byNumber[number - size] : 0;
                byNumber[number] = byNumber[number] * (TEN - errs) + without * errs;
            }
        }

        long leaderStays(int leader) {
            long upper = 1;
            int streak = round.streak();
            for (int place = 0; place < row.length(); place++) {
                int order = row.orderAt(place);
                upper *= TEN - told.errsOf(leader, order, streak);
                streak = streakBehind(order, streak);
            }
            return upper;
        }

        long justOneStays() {
            long whole = powerOfTen(row.length());
            long none = 1;
            long one = 0;
            for (int k = 0; k < told.size(); k++) {
                if (round.isLeader(k)) {
                    long stays = leaderStays(k);
                    long falls = whole - stays;
                    boolean alone = Integer.bitCount(round.groupOf(k)) == 1;
                    one = one * falls + (alone ? none * stays : 0);
                    none *= falls;
                }
            }
            return one;
        }

        /** Rows of one length have one lower number, so the upper ones tell which is likelier. */
        int bestRow(int n) {
            int best = 0;
            long most = -1;
            for (int index = 0; index < 1 << 2 * n; index++) {
                int number = rowNumber(index, n);
                if (row.read(number, n)) {
                    long upper = justOneStays();
                    if (upper > most) {
                        most = upper;
                        best = number;
                    }
                }
            }
            return best;
        }

        /** Two bits of the index for each figure: the rows come by their numbers. */
        private static int rowNumber(int index, int n) {
            int number = 0;
            for (int place = n - 1; place >= 0; place--) {
                number = number * 10 + (index >> 2 * place & 3) + 1;
            }
            return number;
        }

        int ordersThatCould(int set) {
            int orders = 0;
            for (int order = SAID; order <= QUICK; order++) {
                if (setFalls(order, set) > 0) {
                    orders |= 1 << order;
                }
            }
            return orders;
        }

        int likeliestOrder(int set) {
            int likeliest = NONE;
            long most = 0;
            for (int order = SAID; order <= QUICK; order++) {
                long upper = setFalls(order, set);
                if (upper > most) {
                    most = upper;
                    likeliest = order;
                }
            }
            return likeliest;
        }
    }

    /** The kinds over one another, and the trace of the bodies that were asked. */
    private static final class Kinds {
        private final Children told;
        private final Round round;
        private long trace;

        Kinds(Children told, Round round) {
            this.told = told;
            this.round = round;
        }

        long theTrace() {
            return trace;
        }

        int rateAs(int kind, int k) {
            switch (kind) {
                case 0: return asChild(k);
                case 1: return asDreamer(k);
                case 2: return asWatcher(k);
                case 3: return asRunner(k);
                case 4: return asCopier(k);
                case 5: return asListener(k);
                default: return NO;
            }
        }

        private int asChild(int k) {
            trace += 1;
            return told.slipOf(k);
        }

        private int asDreamer(int k) {
            trace += 10;
            return asChild(k) + round.streak();
        }

        private int asWatcher(int k) {
            trace += 100;
            return asChild(k) - told.lateOf(k);
        }

        /** Up is asked once, since each body is traced once. */
        private int asRunner(int k) {
            trace += 1000;
            return 2 * asDreamer(k);
        }

        private int asCopier(int k) {
            trace += 10000;
            return asWatcher(k) + told.howManyCopy(k);
        }

        private int asListener(int k) {
            trace += 100000;
            return asChild(k) + round.howManyIn();
        }
    }
}
