/**
 * A great house whose rooms go from cousin to cousin by birthdays.
 * The numbered promises that this class keeps stand in the project's document.
 */
public final class BirthdayRooms {
    public static final int BAD = -1, NO = -2, FULL = -3, NONE = -4;

    private static final int MOST_LETTERS = 200;
    private static final int MOST_COUSINS = 8;
    private static final int MOST_SEEN = 8;
    private static final int MOST_UNDONE = 8;
    private static final int MOST_KEPT = 2;

    private static final int YEAR_DAYS = 60;
    private static final int WINTER_DAYS = 30;
    private static final int LEAP_YEARS = 4;
    private static final int LAST_DAY = 9999;
    private static final int FARTHEST = 120;
    private static final int LONGEST_SEARCH = 60;
    private static final int LAST_BIRTHDAY = YEAR_DAYS - 1;
    private static final int LAST_DRAW = 9999;

    private static final int LEAP = 1, TWIN = 2, HOMELY = 3;
    private static final int MOST_SUN = 9;

    /** Two cousins are told as PAIR_BASE times the lower and the higher. */
    private static final int PAIR_BASE = 8;
    private static final int PAIR_CODES = PAIR_BASE * PAIR_BASE;

    private static final String FIRST_HOUSE =
        "c0,5,4;c1,17,3;c2,30,6;c0,44,2;c3,52,5;c0,30,1;r2,8;r5,5;r1,9;r6,3;r3,4;r0,7;";

    private final Text text = new Text();
    private final Plan plan = new Plan();
    /** What fault() and lay() read into, so that the house stands until all is well. */
    private final Plan draft = new Plan();
    private final Standing now = new Standing();
    private final Standing atFirst = new Standing();
    private final Pile undone = new Pile(MOST_UNDONE);
    private final Pile kept = new Pile(MOST_KEPT);
    private final Sightings sightings = new Sightings();
    private final Walk walk = new Walk(plan);
    private final Search search = new Search(plan, walk);

    public BirthdayRooms() {
        for (int k = 0; k < FIRST_HOUSE.length(); k++) {
            text.add(FIRST_HOUSE.charAt(k));
        }
        text.readInto(draft);
        moveIn();
        text.clear();
    }

    // ---- houses

    public int write(int letter) {
        if (!within(letter, 32, 126)) {
            return BAD;
        }
        if (text.isFull()) {
            return FULL;
        }
        text.add((char) letter);
        return text.size();
    }

    public int wipe() {
        int size = text.size();
        text.clear();
        return size;
    }

    public int fault() {
        return text.readInto(draft);
    }

    public int lay() {
        if (text.readInto(draft) != NONE || !draft.canBeLaid()) {
            return NO;
        }
        moveIn();
        return plan.cousins();
    }

    public int cousin(int i, int what) {
        if (!isCousin(i) || !within(what, 0, 4)) {
            return BAD;
        }
        switch (what) {
            case 0:
                return plan.kindOf(i);
            case 1:
                return now.birthdayOf(i);
            case 2:
                return plan.wantOf(i);
            case 3:
                return now.roomOf(i);
            default:
                walk.begin(now);
                return walk.placeOf(i);
        }
    }

    public int room(int r, int what) {
        if (!isRoom(r) || !within(what, 0, 2)) {
            return BAD;
        }
        switch (what) {
            case 0:
                return plan.winterSun(r);
            case 1:
                return plan.summerSun(r);
            default:
                return now.ownerOf(r, plan.cousins());
        }
    }

    // ---- acts

    public int pass(int n) {
        if (!within(n, 1, FARTHEST)) {
            return BAD;
        }
        if (now.day() + n > LAST_DAY) {
            return NO;
        }
        undone.push(now);
        walk.begin(now);
        walk.go(n);
        now.copyFrom(walk.standing());
        return now.day();
    }

    public int swap(int i, int j) {
        if (!isCousin(i) || !isCousin(j) || i == j) {
            return BAD;
        }
        undone.push(now);
        now.exchange(i, j);
        return now.roomOf(i);
    }

    public int alter(int i, int b) {
        if (!isCousin(i) || !within(b, 0, LAST_BIRTHDAY)) {
            return BAD;
        }
        int before = now.birthdayOf(i);
        undone.push(now);
        now.setBirthday(i, b);
        return before;
    }

    public int undo() {
        if (!undone.pop(now)) {
            return NO;
        }
        return undone.size();
    }

    // ---- who has what

    public int has(int i, int d) {
        if (!isCousin(i) || !within(d, 0, FARTHEST)) {
            return BAD;
        }
        walk.begin(now);
        walk.go(d + 1);
        return walk.standing().roomOf(i);
    }

    public int whose(int r, int d) {
        if (!isRoom(r) || !within(d, 0, FARTHEST)) {
            return BAD;
        }
        walk.begin(now);
        walk.go(d + 1);
        return walk.standing().ownerOf(r, plan.cousins());
    }

    public int sun(int i, int n) {
        if (!isCousin(i) || !within(n, 1, FARTHEST)) {
            return BAD;
        }
        walk.begin(now);
        walk.go(n);
        return walk.sunTogether(i);
    }

    public int cold(int d) {
        if (!within(d, 0, FARTHEST)) {
            return BAD;
        }
        walk.begin(now);
        walk.goBehind(d);
        return walk.coldBits();
    }

    public int want(int n) {
        if (!within(n, 1, FARTHEST)) {
            return BAD;
        }
        walk.begin(now);
        walk.go(n);
        return walk.coldTogether();
    }

    // ---- what would be

    public int swaps(int i, int n, int k) {
        if (!isCousin(i) || !within(n, 1, LONGEST_SEARCH) || !within(k, 0, 2)) {
            return BAD;
        }
        search.seekMostSun(now, i, n);
        switch (k) {
            case 0:
                return search.best();
            case 1:
                return search.firstPair();
            default:
                return search.secondPair();
        }
    }

    public int warm(int n, int what) {
        if (!within(n, 1, LONGEST_SEARCH) || !within(what, 0, 1)) {
            return BAD;
        }
        search.seekFewestCold(now, n);
        return what == 0 ? search.best() : search.firstPair();
    }

    public int canHave(int r, int d) {
        if (!isRoom(r) || !within(d, 0, FARTHEST)) {
            return BAD;
        }
        return search.ownersByOneSwap(now, r, d);
    }

    public int round() {
        // The year's day and the leap years must fit as well: only whole rounds of leap years can do.
        int step = YEAR_DAYS * LEAP_YEARS;
        walk.begin(now);
        for (int days = step; days <= 4 * step; days += step) {
            walk.go(step);
            if (walk.standing().hasRoomsOf(now, plan.cousins())) {
                return days;
            }
        }
        return NONE;
    }

    public int way(int i, int r, int what) {
        if (!isCousin(i) || !isRoom(r) || !within(what, 0, 1)) {
            return BAD;
        }
        int up = wantsBetween(now.roomOf(i), r);
        int down = wantsBetween(r, now.roomOf(i));
        if (what == 0) {
            return Math.min(up, down);
        }
        return down < up ? 1 : 0;
    }

    // ---- what was seen

    public int seen(int i, int r, int d) {
        if (!isCousin(i) || !isRoom(r) || !within(d, 0, FARTHEST)) {
            return BAD;
        }
        if (sightings.isFull()) {
            return FULL;
        }
        sightings.add(i, r, d);
        return sightings.size();
    }

    public int forget() {
        int size = sightings.size();
        sightings.clear();
        return size;
    }

    public int register(int i, int what) {
        if (!isCousin(i) || !within(what, 0, 1)) {
            return BAD;
        }
        int fitting = 0;
        int first = NONE;
        for (int b = 0; b <= LAST_BIRTHDAY; b++) {
            walk.beginWith(atFirst, i, b);
            if (sightings.allHoldOn(walk)) {
                fitting++;
                first = first == NONE ? b : first;
            }
        }
        return what == 0 ? fitting : first;
    }

    public int foundling(int i, int r, int d, int part) {
        if (!isCousin(i) || !isRoom(r) || !within(d, 0, FARTHEST) || !within(part, 0, 1)) {
            return BAD;
        }
        int above = 0;
        for (int b = 0; b <= LAST_BIRTHDAY; b++) {
            walk.beginWith(now, i, b);
            walk.go(d + 1);
            if (walk.standing().roomOf(i) == r) {
                above++;
            }
        }
        int common = commonDivisor(YEAR_DAYS, above);
        return (part == 0 ? above : YEAR_DAYS) / common;
    }

    public int loses(int what) {
        if (!within(what, 0, 1)) {
            return BAD;
        }
        walk.begin(now);
        walk.go(YEAR_DAYS);
        int who = 0;
        for (int i = 1; i < plan.cousins(); i++) {
            if (walk.sunTogether(i) < walk.sunTogether(who)) {
                who = i;
            }
        }
        return what == 0 ? who : walk.sunTogether(who);
    }

    public int next(int what) {
        if (!within(what, 0, 1)) {
            return BAD;
        }
        walk.begin(now);
        int who = walk.listed(0);
        for (int p = 1; p < plan.cousins(); p++) {
            int other = walk.listed(p);
            if (now.daysToBirthdayOf(other) < now.daysToBirthdayOf(who)) {
                who = other;
            }
        }
        return what == 0 ? who : now.daysToBirthdayOf(who);
    }

    public int year(int z, int n, int what) {
        if (!within(z, 0, LAST_DRAW) || !within(n, 1, FARTHEST) || !within(what, 0, 1)) {
            return BAD;
        }
        walk.begin(now);
        for (int days = 0; days < n; days++) {
            exchangeByDraw(drawOf(z, days));
            walk.go(1);
        }
        return what == 0 ? walk.coldTogether() : walk.standing().ownerOf(0, plan.cousins());
    }

    // ---- kept

    public int keep() {
        if (kept.isFull()) {
            return FULL;
        }
        kept.push(now);
        return kept.size();
    }

    public int back() {
        if (!kept.pop(now)) {
            return NO;
        }
        undone.clear();
        return kept.size();
    }

    public int count(int what) {
        switch (what) {
            case 0:
                return plan.cousins();
            case 1:
                return now.day();
            case 2:
                return sightings.size();
            case 3:
                return undone.size();
            case 4:
                return kept.size();
            case 5:
                return text.size();
            default:
                return BAD;
        }
    }

    // ---- helpers

    private void moveIn() {
        plan.copyFrom(draft);
        atFirst.beginAs(plan);
        now.copyFrom(atFirst);
        sightings.clear();
        undone.clear();
        kept.clear();
    }

    private boolean isCousin(int i) {
        return within(i, 0, plan.cousins() - 1);
    }

    private boolean isRoom(int r) {
        return within(r, 0, plan.rooms() - 1);
    }

    /** What those in the rooms on the way up the ring want together, both ends left out. */
    private int wantsBetween(int from, int to) {
        int rooms = plan.rooms();
        int between = wrapped(to - from, rooms) - 1;
        int together = 0;
        for (int k = 1; k <= between && k < MOST_COUSINS; k++) {
            together += plan.wantOf(now.ownerOf(wrapped(from + k, rooms), plan.cousins()));
        }
        return together;
    }

    private static int drawOf(int z, int days) {
        long x = 7919L * z + 6151L * days + 1L;
        return (int) (x * x % 65521L / 2L);
    }

    private void exchangeByDraw(int draw) {
        int one = wrapped(draw, plan.cousins());
        int other = wrapped(draw / 8, plan.cousins());
        if (one != other && draw / 64 % 5 == 0) {
            walk.standing().exchange(one, other);
        }
    }

    private static boolean within(int number, int least, int most) {
        return number >= least && number <= most;
    }

    private static int wrapped(int number, int size) {
        return size <= 0 ? 0 : Math.floorMod(number, size);
    }

    /** At least 1, so that it can divide. */
    private static int commonDivisor(int one, int other) {
        int a = one;
        int b = other;
        for (int step = 0; step < 64 && b != 0; step++) {
            int rest = a % b;
            a = b;
            b = rest;
        }
        return Math.max(1, a);
    }

    private static int at(int[] row, int k) {
        return k >= 0 && k < row.length ? row[k] : 0;
    }

    private static void put(int[] row, int k, int number) {
        if (k >= 0 && k < row.length) {
            row[k] = number;
        }
    }

    private static void copyRow(int[] from, int[] to) {
        for (int k = 0; k < from.length && k < to.length; k++) {
            to[k] = from[k];
        }
    }

    /** THE TEXT, and how it is read. */
    private static final class Text {
        private final char[] letters = new char[MOST_LETTERS];
        private final int[] numbers = new int[3];
        private int length;
        private int place;

        boolean isFull() {
            return length >= MOST_LETTERS;
        }

        int size() {
            return length;
        }

        void add(char letter) {
            if (length >= 0 && length < letters.length) {
                letters[length] = letter;
                length++;
            }
        }

        void clear() {
            length = 0;
        }

        /** The place of the first fault, or NONE; what stands ahead of the fault is in the plan then. */
        int readInto(Plan into) {
            into.clear();
            place = 0;
            for (int items = 0; items < MOST_LETTERS && place < length; items++) {
                int start = place;
                if (!readItem(into)) {
                    return start;
                }
            }
            return NONE;
        }

        private boolean readItem(Plan into) {
            char letter = letterHere();
            place++;
            if (letter == 'c') {
                return readNumbers(3) && into.addCousin(at(numbers, 0), at(numbers, 1), at(numbers, 2));
            }
            if (letter == 'r') {
                return readNumbers(2) && into.addRoom(at(numbers, 0), at(numbers, 1));
            }
            return false;
        }

        private boolean readNumbers(int many) {
            for (int k = 0; k < many; k++) {
                int number = readNumber();
                char behind = k == many - 1 ? ';' : ',';
                if (number < 0 || letterHere() != behind) {
                    return false;
                }
                put(numbers, k, number);
                place++;
            }
            return true;
        }

        /** A number of one or two figures; below 0 if there is none. */
        private int readNumber() {
            int number = -1;
            for (int figures = 0; figures < 2 && isFigure(letterHere()); figures++) {
                number = 10 * Math.max(0, number) + (letterHere() - '0');
                place++;
            }
            return number;
        }

        private static boolean isFigure(char letter) {
            return letter >= '0' && letter <= '9';
        }

        /** Behind the end a letter that fits nowhere. */
        private char letterHere() {
            return place >= 0 && place < length && place < letters.length ? letters[place] : (char) 0;
        }
    }

    /** What a text tells: it does not change while the house stands. */
    private static final class Plan {
        private final int[] kinds = new int[MOST_COUSINS];
        private final int[] birthdays = new int[MOST_COUSINS];
        private final int[] wants = new int[MOST_COUSINS];
        private final int[] winterSuns = new int[MOST_COUSINS];
        private final int[] summerSuns = new int[MOST_COUSINS];
        private int cousins;
        private int rooms;

        void clear() {
            cousins = 0;
            rooms = 0;
        }

        boolean addCousin(int kind, int birthday, int want) {
            if (cousins >= MOST_COUSINS || !within(kind, 0, HOMELY)
                    || !within(birthday, 0, LAST_BIRTHDAY) || !within(want, 0, MOST_SUN)) {
                return false;
            }
            put(kinds, cousins, kind);
            put(birthdays, cousins, birthday);
            put(wants, cousins, want);
            cousins++;
            return true;
        }

        boolean addRoom(int winter, int summer) {
            if (rooms >= MOST_COUSINS || !within(winter, 0, MOST_SUN) || !within(summer, 0, MOST_SUN)) {
                return false;
            }
            put(winterSuns, rooms, winter);
            put(summerSuns, rooms, summer);
            rooms++;
            return true;
        }

        boolean canBeLaid() {
            return cousins >= 1 && rooms == cousins;
        }

        void copyFrom(Plan other) {
            cousins = other.cousins;
            rooms = other.rooms;
            copyRow(other.kinds, kinds);
            copyRow(other.birthdays, birthdays);
            copyRow(other.wants, wants);
            copyRow(other.winterSuns, winterSuns);
            copyRow(other.summerSuns, summerSuns);
        }

        int cousins() {
            return cousins;
        }

        int rooms() {
            return rooms;
        }

        int kindOf(int i) {
            return at(kinds, i);
        }

        int birthdayAtFirst(int i) {
            return at(birthdays, i);
        }

        int wantOf(int i) {
            return at(wants, i);
        }

        int winterSun(int r) {
            return at(winterSuns, r);
        }

        int summerSun(int r) {
            return at(summerSuns, r);
        }

        /** The suns of all rooms on a day. */
        int[] sunsOn(int day) {
            return day % YEAR_DAYS < WINTER_DAYS ? winterSuns : summerSuns;
        }
    }

    /** How things stand ahead of a day: all that can be undone, kept, or tried out. */
    private static final class Standing {
        private final int[] rooms = new int[MOST_COUSINS];
        private final int[] birthdays = new int[MOST_COUSINS];
        private int day;

        void beginAs(Plan plan) {
            day = 0;
            for (int i = 0; i < MOST_COUSINS; i++) {
                put(rooms, i, i);
                put(birthdays, i, plan.birthdayAtFirst(i));
            }
        }

        void copyFrom(Standing other) {
            day = other.day;
            copyRow(other.rooms, rooms);
            copyRow(other.birthdays, birthdays);
        }

        int day() {
            return day;
        }

        void addDays(int days) {
            day += days;
        }

        int roomOf(int i) {
            return i >= 0 && i < rooms.length ? rooms[i] : 0;
        }

        int ownerOf(int r, int cousins) {
            for (int i = 0; i < cousins; i++) {
                if (at(rooms, i) == r) {
                    return i;
                }
            }
            return NONE;
        }

        int birthdayOf(int i) {
            return at(birthdays, i);
        }

        void setBirthday(int i, int b) {
            put(birthdays, i, b);
        }

        void exchange(int i, int j) {
            int room = at(rooms, i);
            put(rooms, i, at(rooms, j));
            put(rooms, j, room);
        }

        boolean hasRoomsOf(Standing other, int cousins) {
            for (int i = 0; i < cousins; i++) {
                if (roomOf(i) != other.roomOf(i)) {
                    return false;
                }
            }
            return true;
        }

        /** 0 if it is on the very next day. */
        int daysToBirthdayOf(int i) {
            return Math.floorMod(birthdayOf(i) - day, YEAR_DAYS);
        }
    }

    /** Standings one upon the other; a full pile loses its lowest. */
    private static final class Pile {
        private final Standing[] standings;
        private int size;

        Pile(int most) {
            standings = new Standing[Math.max(1, most)];
            for (int k = 0; k < standings.length; k++) {
                standings[k] = new Standing();
            }
        }

        boolean isFull() {
            return size >= standings.length;
        }

        int size() {
            return size;
        }

        void clear() {
            size = 0;
        }

        void push(Standing standing) {
            if (isFull()) {
                loseLowest();
            }
            Standing top = standingAt(size);
            if (top != null) {
                top.copyFrom(standing);
                size++;
            }
        }

        /** Whether there was one to take off. */
        boolean pop(Standing into) {
            Standing top = standingAt(size - 1);
            if (top == null) {
                return false;
            }
            into.copyFrom(top);
            size--;
            return true;
        }

        private Standing standingAt(int k) {
            return k >= 0 && k < standings.length ? standings[k] : null;
        }

        private void loseLowest() {
            for (int k = 0; k + 1 < size; k++) {
                Standing lower = standingAt(k);
                Standing upper = standingAt(k + 1);
                if (lower != null && upper != null) {
                    lower.copyFrom(upper);
                }
            }
            size = Math.max(0, size - 1);
        }
    }

    /** Days tried out on a copy of a standing, with what is counted on them. */
    private static final class Walk {
        private final Plan plan;
        private final Standing standing = new Standing();
        private final int[] list = new int[MOST_COUSINS];
        private final int[] suns = new int[MOST_COUSINS];
        private int colds;

        Walk(Plan plan) {
            this.plan = plan;
        }

        void begin(Standing from) {
            standing.copyFrom(from);
            makeList();
            clearCounts();
        }

        void beginWith(Standing from, int i, int birthday) {
            standing.copyFrom(from);
            standing.setBirthday(i, birthday);
            makeList();
            clearCounts();
        }

        Standing standing() {
            return standing;
        }

        int listed(int p) {
            return at(list, p);
        }

        int placeOf(int i) {
            for (int p = 0; p < plan.cousins(); p++) {
                if (at(list, p) == i) {
                    return p;
                }
            }
            return NONE;
        }

        int sunTogether(int i) {
            return at(suns, i);
        }

        int coldTogether() {
            return colds;
        }

        int coldBits() {
            int bits = 0;
            for (int i = 0; i < plan.cousins(); i++) {
                if (sunNow(i) < plan.wantOf(i)) {
                    bits |= 1 << i;
                }
            }
            return bits;
        }

        /** Days go by; those on which nothing can change are counted at one stroke. */
        void go(int days) {
            int gone = 0;
            for (int step = 0; step < days && gone < days; step++) {
                changeRooms();
                int stretch = Math.min(days - gone, daysAlike());
                countDays(stretch);
                standing.addDays(stretch);
                gone += stretch;
            }
        }

        /** Stands behind the changes of the day d days on, while it is still that day. */
        void goBehind(int d) {
            go(d);
            changeRooms();
        }

        private void makeList() {
            for (int i = 0; i < plan.cousins(); i++) {
                int p = i;
                while (p > 0 && standing.birthdayOf(at(list, p - 1)) > standing.birthdayOf(i)) {
                    put(list, p, at(list, p - 1));
                    p--;
                }
                put(list, p, i);
            }
        }

        private void clearCounts() {
            colds = 0;
            for (int i = 0; i < suns.length; i++) {
                suns[i] = 0;
            }
        }

        private void changeRooms() {
            int today = standing.day() % YEAR_DAYS;
            for (int p = 0; p < plan.cousins(); p++) {
                int i = at(list, p);
                if (standing.birthdayOf(i) == today) {
                    changeRoomOf(i, p);
                }
            }
        }

        private void changeRoomOf(int i, int p) {
            int kind = plan.kindOf(i);
            int other = at(list, wrapped(kind == TWIN ? p + 2 : p + 1, plan.cousins()));
            if (kind == LEAP && standing.day() / YEAR_DAYS % LEAP_YEARS != 0) {
                return;
            }
            if (kind == HOMELY && sunNow(other) <= sunNow(i)) {
                return;
            }
            standing.exchange(i, other);
        }

        private int sunNow(int i) {
            return at(plan.sunsOn(standing.day()), standing.roomOf(i));
        }

        /** This day and those behind it ahead of the next birthday or season: at least 1. */
        private int daysAlike() {
            int least = WINTER_DAYS - standing.day() % WINTER_DAYS;
            for (int i = 0; i < plan.cousins(); i++) {
                int ahead = standing.daysToBirthdayOf(i);
                if (ahead > 0 && ahead < least) {
                    least = ahead;
                }
            }
            return Math.max(1, least);
        }

        private void countDays(int days) {
            for (int i = 0; i < plan.cousins(); i++) {
                int sunShine = sunNow(i);
                put(suns, i, at(suns, i) + sunShine * days);
                if (sunShine < plan.wantOf(i)) {
                    colds += days;
                }
            }
        }
    }

    /** Tries swaps out; codes of pairs rise as the document orders them. */
    private static final class Search {
        /** The code of a cousin with himself, which changes nothing. */
        private static final int NO_PAIR = 0;

        private final Plan plan;
        private final Walk walk;
        private int best;
        private int firstPair;
        private int secondPair;

        Search(Plan plan, Walk walk) {
            this.plan = plan;
            this.walk = walk;
        }

        int best() {
            return best;
        }

        /** NONE if no swap is as good. */
        int firstPair() {
            return firstPair;
        }

        int secondPair() {
            return secondPair;
        }

        void seekMostSun(Standing from, int i, int n) {
            beginBy(from, NO_PAIR, NO_PAIR);
            walk.go(n);
            take(walk.sunTogether(i), NO_PAIR, NO_PAIR);
            for (int one = NO_PAIR; one < PAIR_CODES; one++) {
                // What two swaps do, two with the lower pair ahead do too: the second goes on from the first.
                int start = one == NO_PAIR || isPair(one) ? one + 1 : PAIR_CODES;
                for (int two = start; two < PAIR_CODES; two++) {
                    if (!isPair(two)) {
                        continue;
                    }
                    beginBy(from, one, two);
                    walk.go(n);
                    if (walk.sunTogether(i) > best) {
                        take(walk.sunTogether(i), one, two);
                    }
                }
            }
        }

        void seekFewestCold(Standing from, int n) {
            beginBy(from, NO_PAIR, NO_PAIR);
            walk.go(n);
            take(walk.coldTogether(), NO_PAIR, NO_PAIR);
            for (int two = NO_PAIR + 1; two < PAIR_CODES; two++) {
                if (!isPair(two)) {
                    continue;
                }
                beginBy(from, NO_PAIR, two);
                walk.go(n);
                if (walk.coldTogether() < best) {
                    take(walk.coldTogether(), NO_PAIR, two);
                }
            }
        }

        int ownersByOneSwap(Standing from, int r, int d) {
            int bits = 0;
            for (int two = NO_PAIR; two < PAIR_CODES; two++) {
                if (two != NO_PAIR && !isPair(two)) {
                    continue;
                }
                beginBy(from, NO_PAIR, two);
                walk.go(d + 1);
                bits |= 1 << walk.standing().ownerOf(r, plan.cousins());
            }
            return bits;
        }

        private boolean isPair(int code) {
            return code / PAIR_BASE < code % PAIR_BASE && code % PAIR_BASE < plan.cousins();
        }

        private void beginBy(Standing from, int one, int two) {
            walk.begin(from);
            walk.standing().exchange(one / PAIR_BASE, one % PAIR_BASE);
            walk.standing().exchange(two / PAIR_BASE, two % PAIR_BASE);
        }

        /** A single swap comes in as the second of the two, behind none. */
        private void take(int much, int one, int two) {
            best = much;
            firstPair = one != NO_PAIR ? one : two != NO_PAIR ? two : NONE;
            secondPair = one != NO_PAIR ? two : NONE;
        }
    }

    /** What was SEEN, by days, so that one walk meets all of it. */
    private static final class Sightings {
        private final int[] cousins = new int[MOST_SEEN];
        private final int[] rooms = new int[MOST_SEEN];
        private final int[] days = new int[MOST_SEEN];
        private int size;

        boolean isFull() {
            return size >= MOST_SEEN;
        }

        int size() {
            return size;
        }

        void clear() {
            size = 0;
        }

        void add(int i, int r, int d) {
            int k = size;
            while (k > 0 && at(days, k - 1) > d) {
                set(k, at(cousins, k - 1), at(rooms, k - 1), at(days, k - 1));
                k--;
            }
            set(k, i, r, d);
            size++;
        }

        private void set(int k, int i, int r, int d) {
            put(cousins, k, i);
            put(rooms, k, r);
            put(days, k, d);
        }

        boolean allHoldOn(Walk walk) {
            int gone = 0;
            for (int k = 0; k < size; k++) {
                int behind = at(days, k) + 1;
                walk.go(behind - gone);
                gone = behind;
                if (walk.standing().roomOf(at(cousins, k)) != at(rooms, k)) {
                    return false;
                }
            }
            return true;
        }
    }
}
