/** The Board of an orphanage, whose directors wear millstones: see the document for what each call promises. */
public final class BoardStones {
    public static final int BAD = -1, STATE = -2, FULL = -3, NONE = -9;
    public static final int NO = -1000000;

    private static final int FIRST_ROOMS = 4, LEAST_ROOMS = 2, MOST_ROOMS = 8;
    private static final int MOST_PATHS = 9, MOST_STEPS = 9;
    private static final int MOST_DIRECTORS = 6, MOST_STRENGTH = 40, MOST_STONE_TOLD = 30, MOST_GRAVITY = 5;
    private static final int MOST_CHILDREN = 4, MOST_NERVE = 9;
    private static final int MOST_BYTES = 150;
    private static final int MOST_STONE = 99, MOST_WEARY = 9999, MOST_LOOKED_INTO = 999, MOST_OFFENCE = 9;
    private static final int MOST_UNDONE = 10, MOST_HEARD = 4, IMAGES = 2;
    private static final int MOST_EDGE = 60, TENTHS = 10;

    private final Reader text = new Reader();
    private House told = new House();
    /** A text is read into this one, so that a FAULT leaves the house that stands as it is. */
    private House spare = new House();
    private final Now present = new Now();
    private final History history = new History();
    private final Image[] images = new Image[IMAGES];
    private final Hearing hearing = new Hearing();
    private final Ways ways = new Ways();
    private final Couples couples = new Couples();
    private long traced;

    public BoardStones() {
        for (int i = 0; i < IMAGES; i++) {
            images[i] = new Image();
        }
    }

    // ---- the house

    public int type(int c) {
        if (c < 0 || c > 255) {
            return BAD;
        }
        return text.append(c) ? text.length : FULL;
    }

    public int clear() {
        return text.drop();
    }

    public int house() {
        int answer = text.readInto(spare);
        if (answer < 0) {
            return answer;
        }
        House before = told;
        told = spare;
        spare = before;
        text.drop();
        present.begin(told);
        history.known = 0;
        hearing.size = 0;
        for (int i = 0; i < IMAGES; i++) {
            images[i].kept = false;
        }
        return answer;
    }

    public int path(int p, int what) {
        if (!told.hasPath(p)) {
            return BAD;
        }
        switch (what) {
            case 0: return told.oneEnd[p];
            case 1: return told.otherEnd[p];
            case 2: return told.steps[p];
            case 3: return whoMayGo(p);
            default: return BAD;
        }
    }

    public int director(int d, int what) {
        if (!told.hasDirector(d)) {
            return BAD;
        }
        switch (what) {
            case 0: return told.strength[d];
            case 1: return present.stone[d];
            case 2: return told.gravity[d];
            case 3: return present.room[d];
            case 4: return present.weary[d];
            case 5: return present.lookedInto[d];
            case 6: return told.friends[d];
            case 7: return told.reachable(present.room[d], strengthLeft(d));
            case 8: return told.strength[d] >= 2 * present.stone[d] ? 1 : 0;
            default: return BAD;
        }
    }

    public int child(int c, int what) {
        if (!told.hasChild(c)) {
            return BAD;
        }
        switch (what) {
            case 0: return told.nerve[c];
            case 1: return present.hurt[c];
            default: return BAD;
        }
    }

    // ---- what is done

    public int goes(int d, int p) {
        if (!told.hasDirector(d) || !told.hasPath(p)) {
            return BAD;
        }
        int aim = told.acrossFrom(p, present.room[d]);
        if (aim < 0 || !mayGo(d, p)) {
            return STATE;
        }
        history.remember(present);
        present.room[d] = aim;
        present.weary[d] = Math.min(MOST_WEARY, present.weary[d] + present.stone[d] * told.steps[p]);
        return aim;
    }

    public int rests(int d) {
        if (!told.hasDirector(d)) {
            return BAD;
        }
        int before = present.weary[d];
        if (before == 0) {
            return STATE;
        }
        history.remember(present);
        present.weary[d] = 0;
        return before;
    }

    public int offends(int d, int c, int n) {
        if (!told.hasDirector(d) || !told.hasChild(c) || n < 1 || n > MOST_OFFENCE) {
            return BAD;
        }
        history.remember(present);
        present.hurt[c] += n;
        if (present.hurt[c] >= told.nerve[c]) {
            present.lookInto(d, c);
        }
        return present.hurt[c];
    }

    public int shifts(int from, int to) {
        if (!told.hasDirector(from) || !told.hasDirector(to) || from == to) {
            return BAD;
        }
        if (present.room[from] != present.room[to] || present.stone[from] < 1 || present.stone[to] >= MOST_STONE) {
            return STATE;
        }
        history.remember(present);
        present.stone[from]--;
        present.stone[to]++;
        return present.stone[to];
    }

    public int calls(int room) {
        if (!told.hasRoom(room)) {
            return BAD;
        }
        int there = whoIsIn(room);
        if ((there & ~present.laughing) == 0) {
            return STATE;
        }
        history.remember(present);
        present.laughing = told.laughFrom(present.laughing | there);
        for (int d = 0; d < told.directors; d++) {
            if (has(present.laughing, d)) {
                present.stone[d] = 0;
            }
        }
        return present.laughing;
    }

    public int undo() {
        if (history.known == 0) {
            return STATE;
        }
        history.takeBack(present);
        return history.known;
    }

    public int now(int what) {
        switch (what) {
            case 0: return present.laughing;
            case 1: return ways.findMeeting(told, present) ? ways.meetingRoom : NONE;
            case 2: return ways.findMeeting(told, present) ? ways.meetingWeariness : NONE;
            case 3: return told.fewestToLaugh();
            case 4: return stonesTogether();
            default: return BAD;
        }
    }

    // ---- ways, laughs

    public int way(int d, int room, int what) {
        if (!told.hasDirector(d) || !told.hasRoom(room) || what < 0 || what > 1) {
            return BAD;
        }
        ways.findFrom(told, present.room[d], present.stone[d], told.strength[d]);
        if (!ways.leadTo(room)) {
            return NONE;
        }
        return what == 0 ? ways.wearinessTo(room) : ways.pathsTo(room);
    }

    public int edge(int d, int room) {
        if (!told.hasDirector(d) || !told.hasRoom(room)) {
            return BAD;
        }
        // Where he is already no path bounds his stone.
        if (present.room[d] == room) {
            return MOST_EDGE;
        }
        int left = strengthLeft(d);
        for (int steps = 0; steps <= MOST_STEPS && steps <= left; steps++) {
            if (has(told.reachable(present.room[d], steps), room)) {
                return Math.min(MOST_EDGE, left - steps);
            }
        }
        return NONE;
    }

    public int spread(int set) {
        if (set < 0 || set > told.allDirectors()) {
            return BAD;
        }
        return told.laughFrom(set);
    }

    public int pair(int d) {
        if (d != -1 && !told.hasDirector(d)) {
            return BAD;
        }
        couples.find(told, present);
        return d == -1 ? couples.count : couples.partner[d];
    }

    public int odds(int x, int k, int what) {
        if (x < 0 || x > TENTHS || k < 0 || k > MOST_CHILDREN || what < 0 || what > 1) {
            return BAD;
        }
        int upper = Fractions.atMost(told.children, k, x);
        int lower = Fractions.power(TENTHS, told.children);
        int common = Math.max(1, Fractions.commonDivisor(upper, lower));
        return (what == 0 ? upper : lower) / common;
    }

    // ---- who it was

    public int hears(int p, int went) {
        if (!told.hasPath(p) || went < 0 || went > 1) {
            return BAD;
        }
        return hearing.add(p, went) ? hearing.size : FULL;
    }

    public int forget() {
        int before = hearing.size;
        hearing.size = 0;
        return before;
    }

    public int who() {
        int left = told.allDirectors();
        for (int i = 0; i < hearing.size; i++) {
            int may = whoMayGo(hearing.path[i]);
            left &= hearing.went[i] == 1 ? may : ~may;
        }
        return left;
    }

    public int ask() {
        int left = who();
        int all = Integer.bitCount(left);
        int best = NONE;
        int least = all;
        for (int p = 0; p < told.paths; p++) {
            int gone = Integer.bitCount(left & whoMayGo(p));
            int greater = Math.max(gone, all - gone);
            // A path that does not part them leaves all of them, so it is never below.
            if (greater < least) {
                least = greater;
                best = p;
            }
        }
        return best;
    }

    // ---- kinds, images

    public int mark(int kind, int d) {
        if (!told.hasDirector(d)) {
            return NO;
        }
        switch (kind) {
            case 0: return asDirector(d);
            case 1: return asFounder(d);
            case 2: return asChair(d);
            case 3: return asElder(d);
            case 4: return asBursar(d);
            case 5: return asClerk(d);
            default: return NO;
        }
    }

    public int keep(int image) {
        if (image < 0 || image >= IMAGES) {
            return BAD;
        }
        images[image].take(present, history);
        return stonesTogether();
    }

    public int back(int image) {
        if (image < 0 || image >= IMAGES) {
            return BAD;
        }
        if (!images[image].kept) {
            return STATE;
        }
        images[image].give(present, history);
        return stonesTogether();
    }

    public int count(int what) {
        switch (what) {
            case 0: return told.rooms;
            case 1: return told.paths;
            case 2: return told.directors;
            case 3: return told.children;
            case 4: return hearing.size;
            case 5: return history.known;
            case 6: return text.length;
            default: return BAD;
        }
    }

    public long trace() {
        return traced;
    }

    // ---- the bodies of the kinds

    private int asDirector(int d) {
        traced += 1;
        return present.stone[d];
    }

    private int asFounder(int d) {
        traced += 10;
        return asDirector(d) + told.gravity[d];
    }

    private int asChair(int d) {
        traced += 100;
        return asDirector(d) - present.lookedInto[d];
    }

    private int asElder(int d) {
        traced += 1000;
        return asFounder(d) * 2;
    }

    private int asBursar(int d) {
        traced += 10000;
        return asChair(d) + d;
    }

    private int asClerk(int d) {
        traced += 100000;
        return asDirector(d) + present.room[d];
    }

    // ---- what several calls ask

    private int strengthLeft(int d) {
        return told.strength[d] - present.stone[d];
    }

    private boolean mayGo(int d, int p) {
        return told.steps[p] <= strengthLeft(d);
    }

    private int whoMayGo(int p) {
        int who = 0;
        for (int d = 0; d < told.directors; d++) {
            if (mayGo(d, p)) {
                who |= 1 << d;
            }
        }
        return who;
    }

    private int whoIsIn(int room) {
        int who = 0;
        for (int d = 0; d < told.directors; d++) {
            if (present.room[d] == room) {
                who |= 1 << d;
            }
        }
        return who;
    }

    private int stonesTogether() {
        int sum = 0;
        for (int d = 0; d < told.directors; d++) {
            sum += present.stone[d];
        }
        return sum;
    }

    private static boolean has(int set, int i) {
        return ((set >> i) & 1) == 1;
    }

    private static void copyRow(int[] from, int[] to) {
        for (int i = 0; i < from.length && i < to.length; i++) {
            to[i] = from[i];
        }
    }

    /** What a text has told; nothing that is done changes it. */
    private static final class House {
        int rooms = FIRST_ROOMS;
        int paths;
        int directors;
        int children;
        final int[] oneEnd = new int[MOST_PATHS];
        final int[] otherEnd = new int[MOST_PATHS];
        final int[] steps = new int[MOST_PATHS];
        final int[] strength = new int[MOST_DIRECTORS];
        final int[] stone = new int[MOST_DIRECTORS];
        final int[] gravity = new int[MOST_DIRECTORS];
        final int[] room = new int[MOST_DIRECTORS];
        final int[] friends = new int[MOST_DIRECTORS];
        final int[] nerve = new int[MOST_CHILDREN];

        void tellNothing() {
            rooms = FIRST_ROOMS;
            paths = 0;
            directors = 0;
            children = 0;
        }

        void addPath(int a, int b, int itsSteps) {
            if (paths < MOST_PATHS) {
                oneEnd[paths] = a;
                otherEnd[paths] = b;
                steps[paths] = itsSteps;
                paths++;
            }
        }

        void addDirector(int itsStrength, int itsStone, int itsGravity, int itsRoom) {
            if (directors < MOST_DIRECTORS) {
                strength[directors] = itsStrength;
                stone[directors] = itsStone;
                gravity[directors] = itsGravity;
                room[directors] = itsRoom;
                friends[directors] = 0;
                directors++;
            }
        }

        void addFriends(int a, int b) {
            if (hasDirector(a) && hasDirector(b)) {
                friends[a] |= 1 << b;
                friends[b] |= 1 << a;
            }
        }

        void addChild(int itsNerve) {
            if (children < MOST_CHILDREN) {
                nerve[children] = itsNerve;
                children++;
            }
        }

        boolean hasRoom(int r) {
            return r >= 0 && r < rooms;
        }

        boolean hasPath(int p) {
            return p >= 0 && p < paths;
        }

        boolean hasDirector(int d) {
            return d >= 0 && d < directors;
        }

        boolean hasChild(int c) {
            return c >= 0 && c < children;
        }

        int allDirectors() {
            return (1 << directors) - 1;
        }

        int acrossFrom(int p, int start) {
            if (oneEnd[p] == start) {
                return otherEnd[p];
            }
            return otherEnd[p] == start ? oneEnd[p] : NONE;
        }

        /** Rooms (bits) to which paths of so many steps at most lead. */
        int reachable(int start, int mostSteps) {
            int reached = 1 << start;
            for (int round = 1; round < rooms; round++) {
                for (int p = 0; p < paths; p++) {
                    int ends = (1 << oneEnd[p]) | (1 << otherEnd[p]);
                    if (steps[p] <= mostSteps && (reached & ends) != 0) {
                        reached |= ends;
                    }
                }
            }
            return reached;
        }

        /** Who laughs (bits) once it has spread from these. */
        int laughFrom(int set) {
            int laughing = set;
            // Each round but the last adds one at least.
            for (int round = 0; round < directors; round++) {
                for (int d = 0; d < directors; d++) {
                    int merry = Integer.bitCount(friends[d] & laughing);
                    if (merry >= Math.max(1, gravity[d])) {
                        laughing |= 1 << d;
                    }
                }
            }
            return laughing;
        }

        int fewestToLaugh() {
            int all = allDirectors();
            int best = all;
            for (int set = 0; set < all; set++) {
                if (Integer.bitCount(set) < Integer.bitCount(best) && laughFrom(set) == all) {
                    best = set;
                }
            }
            return best;
        }
    }

    /** THE TEXT, and how it is read, token by token. */
    private static final class Reader {
        static final int END = 0, LETTERS = 1, NUMBER = 2, STOP = 3, WRONG = 4;
        static final int MOST_NUMBER = 99;

        final int[] bytes = new int[MOST_BYTES];
        int length;
        private int at;
        private int place;
        private int kind;
        /** The number that the token is, or its letter if it is one letter alone. */
        private int value;
        private boolean failed;

        boolean append(int c) {
            if (length >= MOST_BYTES) {
                return false;
            }
            bytes[length] = c;
            length++;
            return true;
        }

        int drop() {
            int before = length;
            length = 0;
            return before;
        }

        /** How many ITEMS, or -10 less FAULT. */
        int readInto(House house) {
            house.tellNothing();
            at = 0;
            failed = false;
            int items = 0;
            nextToken();
            while (items <= MOST_BYTES && kind != END) {
                readItem(house, items);
                if (failed) {
                    return -10 - place;
                }
                items++;
                nextToken();
            }
            return items;
        }

        private void readItem(House house, int itemsAhead) {
            int letter = kind == LETTERS ? value : 0;
            switch (letter) {
                case 'r': readRooms(house, itemsAhead); break;
                case 'p': readPath(house); break;
                case 'd': readDirector(house); break;
                case 'f': readFriends(house); break;
                case 'c': readChild(house); break;
                default: failed = true;
            }
        }

        private void readRooms(House house, int itemsAhead) {
            failed = itemsAhead > 0;
            int rooms = readNumber(LEAST_ROOMS, MOST_ROOMS);
            readStop();
            if (!failed) {
                house.rooms = rooms;
            }
        }

        private void readPath(House house) {
            failed = house.paths >= MOST_PATHS;
            int a = readNumber(0, house.rooms - 1);
            int b = readNumber(0, house.rooms - 1);
            refuseAlike(a, b);
            int steps = readNumber(0, MOST_STEPS);
            readStop();
            if (!failed) {
                house.addPath(a, b, steps);
            }
        }

        private void readDirector(House house) {
            failed = house.directors >= MOST_DIRECTORS;
            int strength = readNumber(1, MOST_STRENGTH);
            int stone = readNumber(0, MOST_STONE_TOLD);
            int gravity = readNumber(0, MOST_GRAVITY);
            int room = readNumber(0, house.rooms - 1);
            readStop();
            if (!failed) {
                house.addDirector(strength, stone, gravity, room);
            }
        }

        private void readFriends(House house) {
            int a = readNumber(0, house.directors - 1);
            int b = readNumber(0, house.directors - 1);
            refuseAlike(a, b);
            readStop();
            if (!failed) {
                house.addFriends(a, b);
            }
        }

        private void readChild(House house) {
            failed = house.children >= MOST_CHILDREN;
            int nerve = readNumber(1, MOST_NERVE);
            readStop();
            if (!failed) {
                house.addChild(nerve);
            }
        }

        // Behind a failure nothing more is read, so that place stays that of the FAULT.

        private int readNumber(int least, int most) {
            if (failed) {
                return least;
            }
            nextToken();
            failed = kind != NUMBER || value < least || value > most;
            return value;
        }

        private void refuseAlike(int a, int b) {
            failed = failed || a == b;
        }

        private void readStop() {
            if (!failed) {
                nextToken();
                failed = kind != STOP;
            }
        }

        private void nextToken() {
            while (at < length && bytes[at] == ' ') {
                at++;
            }
            place = at;
            if (at >= length) {
                kind = END;
            } else if (isLetter(bytes[at])) {
                takeLetters();
            } else if (isDigit(bytes[at])) {
                takeNumber();
            } else {
                kind = bytes[at] == ';' ? STOP : WRONG;
                at++;
            }
        }

        private void takeLetters() {
            kind = LETTERS;
            value = bytes[at];
            at++;
            while (at < length && isLetter(bytes[at])) {
                value = 0;
                at++;
            }
        }

        private void takeNumber() {
            boolean zeroAhead = bytes[at] == '0';
            value = 0;
            while (at < length && isDigit(bytes[at])) {
                // Held just above the bound, so that a long row of digits cannot wrap around.
                value = Math.min(MOST_NUMBER + 1, value * 10 + bytes[at] - '0');
                at++;
            }
            boolean tooLong = zeroAhead && at > place + 1;
            kind = tooLong || value > MOST_NUMBER ? WRONG : NUMBER;
        }

        private static boolean isLetter(int c) {
            return c >= 'a' && c <= 'z';
        }

        private static boolean isDigit(int c) {
            return c >= '0' && c <= '9';
        }
    }

    /** All that deeds change. */
    private static final class Now {
        final int[] room = new int[MOST_DIRECTORS];
        final int[] stone = new int[MOST_DIRECTORS];
        final int[] weary = new int[MOST_DIRECTORS];
        final int[] lookedInto = new int[MOST_DIRECTORS];
        final int[] hurt = new int[MOST_CHILDREN];
        int laughing;

        void begin(House house) {
            copyRow(house.room, room);
            copyRow(house.stone, stone);
            for (int d = 0; d < MOST_DIRECTORS; d++) {
                weary[d] = 0;
                lookedInto[d] = 0;
            }
            for (int c = 0; c < MOST_CHILDREN; c++) {
                hurt[c] = 0;
            }
            laughing = 0;
        }

        void copyFrom(Now other) {
            copyRow(other.room, room);
            copyRow(other.stone, stone);
            copyRow(other.weary, weary);
            copyRow(other.lookedInto, lookedInto);
            copyRow(other.hurt, hurt);
            laughing = other.laughing;
        }

        void lookInto(int d, int c) {
            stone[d] = Math.min(MOST_STONE, stone[d] + 1);
            lookedInto[d] = Math.min(MOST_LOOKED_INTO, lookedInto[d] + 1);
            hurt[c] = 0;
        }
    }

    /** How all was ahead of each of the latest deeds, the oldest first. */
    private static final class History {
        final Now[] ahead = new Now[MOST_UNDONE];
        int known;

        History() {
            for (int i = 0; i < MOST_UNDONE; i++) {
                ahead[i] = new Now();
            }
        }

        void remember(Now present) {
            if (known >= MOST_UNDONE) {
                loseOldest();
            }
            ahead[known].copyFrom(present);
            known++;
        }

        void takeBack(Now present) {
            if (known > 0) {
                known--;
                present.copyFrom(ahead[known]);
            }
        }

        void copyFrom(History other) {
            known = other.known;
            for (int i = 0; i < known; i++) {
                ahead[i].copyFrom(other.ahead[i]);
            }
        }

        private void loseOldest() {
            Now oldest = ahead[0];
            for (int i = 1; i < MOST_UNDONE; i++) {
                ahead[i - 1] = ahead[i];
            }
            ahead[MOST_UNDONE - 1] = oldest;
            known = MOST_UNDONE - 1;
        }
    }

    private static final class Image {
        final Now present = new Now();
        final History history = new History();
        boolean kept;

        void take(Now itsPresent, History itsHistory) {
            present.copyFrom(itsPresent);
            history.copyFrom(itsHistory);
            kept = true;
        }

        void give(Now itsPresent, History itsHistory) {
            itsPresent.copyFrom(present);
            itsHistory.copyFrom(history);
        }
    }

    /** What was HEARD, as it was said: who it fits is looked at only when it is asked for. */
    private static final class Hearing {
        final int[] path = new int[MOST_HEARD];
        final int[] went = new int[MOST_HEARD];
        int size;

        boolean add(int p, int itsWent) {
            if (size >= MOST_HEARD) {
                return false;
            }
            path[size] = p;
            went[size] = itsWent;
            size++;
            return true;
        }
    }

    /** The least weary ways from one room to all, and where all can meet. */
    private static final class Ways {
        /** One number orders ways by weariness, then by paths, of which a way has at most seven. */
        static final int WEARINESS_UNIT = 16;
        static final int FAR = 1 << 28;

        final int[] least = new int[MOST_ROOMS];
        final int[] together = new int[MOST_ROOMS];
        int meetingRoom;
        int meetingWeariness;

        void findFrom(House house, int start, int stone, int strength) {
            for (int r = 0; r < MOST_ROOMS; r++) {
                least[r] = r == start ? 0 : FAR;
            }
            for (int round = 1; round < house.rooms; round++) {
                for (int p = 0; p < house.paths; p++) {
                    if (stone + house.steps[p] <= strength) {
                        int cost = stone * house.steps[p] * WEARINESS_UNIT + 1;
                        lessen(house.oneEnd[p], house.otherEnd[p], cost);
                        lessen(house.otherEnd[p], house.oneEnd[p], cost);
                    }
                }
            }
        }

        private void lessen(int from, int to, int cost) {
            if (least[from] < FAR) {
                least[to] = Math.min(least[to], least[from] + cost);
            }
        }

        boolean leadTo(int room) {
            return least[room] < FAR;
        }

        int wearinessTo(int room) {
            return least[room] / WEARINESS_UNIT;
        }

        int pathsTo(int room) {
            return least[room] % WEARINESS_UNIT;
        }

        boolean findMeeting(House house, Now present) {
            for (int r = 0; r < MOST_ROOMS; r++) {
                together[r] = 0;
            }
            for (int d = 0; d < house.directors; d++) {
                findFrom(house, present.room[d], present.stone[d], house.strength[d]);
                for (int r = 0; r < house.rooms; r++) {
                    together[r] = leadTo(r) ? together[r] + wearinessTo(r) : FAR;
                }
            }
            meetingRoom = NONE;
            meetingWeariness = FAR;
            for (int r = 0; r < house.rooms; r++) {
                if (together[r] < meetingWeariness) {
                    meetingRoom = r;
                    meetingWeariness = together[r];
                }
            }
            return house.directors > 0 && meetingRoom != NONE;
        }
    }

    /** Who does whose stone up, two by two. */
    private static final class Couples {
        /** For each set of directors (bits), how many pairs it can have at most. */
        final int[] most = new int[1 << MOST_DIRECTORS];
        final int[] partner = new int[MOST_DIRECTORS];
        int count;

        void find(House house, Now present) {
            int all = house.allDirectors();
            most[0] = 0;
            for (int set = 1; set <= all; set++) {
                most[set] = mostOf(set, house, present);
            }
            count = most[all];
            for (int d = 0; d < MOST_DIRECTORS; d++) {
                partner[d] = NONE;
            }
            int free = all;
            for (int d = 0; d < house.directors; d++) {
                if (has(free, d)) {
                    free = settle(d, free, house, present);
                }
            }
        }

        private int mostOf(int set, House house, Now present) {
            int first = lowestOf(set);
            int others = set & ~(1 << first);
            int best = most[others];
            for (int d = first + 1; d < house.directors; d++) {
                if (has(others, d) && canPair(first, d, house, present)) {
                    best = Math.max(best, 1 + most[others & ~(1 << d)]);
                }
            }
            return best;
        }

        /** Gives d the lowest other one that costs no pair, or nobody: who is free then (bits). */
        private int settle(int d, int free, House house, Now present) {
            int others = free & ~(1 << d);
            for (int o = d + 1; o < house.directors; o++) {
                int rest = others & ~(1 << o);
                if (has(others, o) && canPair(d, o, house, present) && 1 + most[rest] == most[free]) {
                    partner[d] = o;
                    partner[o] = d;
                    return rest;
                }
            }
            return others;
        }

        private static int lowestOf(int set) {
            int lowest = 0;
            while (lowest < MOST_DIRECTORS - 1 && !has(set, lowest)) {
                lowest++;
            }
            return lowest;
        }

        private static boolean canPair(int a, int b, House house, Now present) {
            return house.strength[a] >= present.stone[b] && house.strength[b] >= present.stone[a];
        }
    }

    private static final class Fractions {
        /** Of 10 to the power of all, in how many k at most are hit, each by x of 10. */
        static int atMost(int all, int k, int x) {
            int sum = 0;
            int choices = 1;
            for (int hit = 0; hit <= k && hit <= all; hit++) {
                sum += choices * power(x, hit) * power(TENTHS - x, all - hit);
                choices = choices * (all - hit) / (hit + 1);
            }
            return sum;
        }

        static int power(int base, int exponent) {
            int product = 1;
            for (int i = 0; i < exponent; i++) {
                product *= base;
            }
            return product;
        }

        static int commonDivisor(int a, int b) {
            int greater = a;
            int less = b;
            // Euclid's remainders at least halve every second time, so 64 rounds are above any int's need.
            for (int round = 0; round < 64 && less != 0; round++) {
                int rest = greater % less;
                greater = less;
                less = rest;
            }
            return greater;
        }
    }
}
