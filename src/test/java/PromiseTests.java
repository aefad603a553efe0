/** Each promise of the document with answers worked out by hand: ordinary inputs, edges, wrong inputs. */
public final class PromiseTests {
    private static final int BAD = -1, NO = -2, FULL = -3, NONE = -4;
    private static final int[] WILD = {Integer.MIN_VALUE, Integer.MAX_VALUE, -1, -2, -4, 1000000};

    /** Two plain ones who change on days 10 and 20: one has winter's sun, one summer's. */
    private static final String PAIR = "c0,10,5;c0,20,5;r9,0;r0,9;";

    private static int wrong = 0;
    private static int promise = 0;

    private static void due(String what, int got, int want) {
        if (got != want) {
            wrong++;
            System.out.println("promise " + promise + ": " + what + " answered " + got + ", due is " + want);
        }
    }

    private static void write(BirthdayRooms x, String text) {
        for (char letter : text.toCharArray()) {
            x.write(letter);
        }
    }

    private static BirthdayRooms laid(String text) {
        BirthdayRooms x = new BirthdayRooms();
        write(x, text);
        if (x.lay() < 1) {
            wrong++;
            System.out.println("not laid: " + text);
        }
        return x;
    }

    /** Everything that a call which answers BAD, NO or FULL must leave as it is. */
    private static String stateOf(BirthdayRooms x) {
        StringBuilder state = new StringBuilder();
        for (int what = 0; what <= 5; what++) {
            state.append(x.count(what)).append(' ');
        }
        for (int i = 0; i < x.count(0); i++) {
            for (int what = 0; what <= 4; what++) {
                state.append(x.cousin(i, what)).append(' ');
            }
            state.append(x.room(i, 0)).append(x.room(i, 1)).append(x.register(i, 0)).append(' ');
        }
        return state.append(x.fault()).toString();
    }

    private static void sameState(String behind, String before, BirthdayRooms x) {
        if (!before.equals(stateOf(x))) {
            wrong++;
            System.out.println("promise " + promise + ": " + behind + " changed " + before + " into " + stateOf(x));
        }
    }

    public static void main(String[] args) {
        newObject();
        writeAndWipe();
        fault();
        lay();
        cousinAndRoom();
        pass();
        swapAndAlter();
        undo();
        hasByKinds();
        hasAndWhose();
        sunColdWant();
        swaps();
        warm();
        canHave();
        round();
        way();
        seenAndForget();
        register();
        foundling();
        losesAndNext();
        year();
        keepAndBack();
        count();
        wildNumbers();
        System.out.println(wrong == 0 ? "all promises are kept" : wrong + " answers are not as due");
        if (wrong != 0) {
            System.exit(1);
        }
    }

    private static void newObject() {
        promise = 1;
        BirthdayRooms x = new BirthdayRooms();
        int[] counts = {6, 0, 0, 0, 0, 0};
        int[][] cousins = {{0, 5, 4}, {1, 17, 3}, {2, 30, 6}, {0, 44, 2}, {3, 52, 5}, {0, 30, 1}};
        int[][] rooms = {{2, 8}, {5, 5}, {1, 9}, {6, 3}, {3, 4}, {0, 7}};
        for (int what = 0; what < counts.length; what++) {
            due("count(" + what + ")", x.count(what), counts[what]);
        }
        for (int i = 0; i < 6; i++) {
            for (int what = 0; what < 3; what++) {
                due("cousin(" + i + ", " + what + ")", x.cousin(i, what), cousins[i][what]);
            }
            due("his room", x.cousin(i, 3), i);
            due("whose", x.room(i, 2), i);
            due("winter", x.room(i, 0), rooms[i][0]);
            due("summer", x.room(i, 1), rooms[i][1]);
        }
        due("fault of the empty text", x.fault(), NONE);
        due("lay of the empty text", x.lay(), NO);
        BirthdayRooms y = new BirthdayRooms();
        x.pass(7);
        due("another object", y.count(1), 0);
    }

    private static void writeAndWipe() {
        promise = 2;
        BirthdayRooms x = new BirthdayRooms();
        due("write(31)", x.write(31), BAD);
        due("write(127)", x.write(127), BAD);
        due("write(-1)", x.write(-1), BAD);
        due("write(99 and a char more)", x.write(99 + 65536), BAD);
        due("write(32)", x.write(32), 1);
        due("write(126)", x.write(126), 2);
        for (int k = 3; k <= 200; k++) {
            due("write", x.write('c'), k);
        }
        due("write when full", x.write('c'), FULL);
        due("a wrong letter when full", x.write(127), BAD);
        due("letters", x.count(5), 200);
        promise = 3;
        due("wipe", x.wipe(), 200);
        due("wipe again", x.wipe(), 0);
        due("letters", x.count(5), 0);
        due("write", x.write('c'), 1);
        due("the house stands", x.count(0), 6);
    }

    private static void faultOf(String text, int place) {
        BirthdayRooms x = new BirthdayRooms();
        write(x, text);
        due("fault of " + text, x.fault(), place);
    }

    private static void fault() {
        promise = 4;
        faultOf("", NONE);
        faultOf("c0,0,0;", NONE);
        faultOf("c3,59,9;r9,9;r0,0;", NONE);
        faultOf("c03,09,09;r00,09;", NONE);
        faultOf("c4,0,0;", 0);
        faultOf("c0,60,0;", 0);
        faultOf("c0,0,10;", 0);
        faultOf("r0,0;r10,0;", 5);
        faultOf("r0,0;r0,10;", 5);
        faultOf("c0,0,0;c0,5", 7);
        faultOf("c0,0,0;c0,5,4", 7);
        faultOf("c0,0,0;c", 7);
        faultOf("c0,0,0;c0,,4;", 7);
        faultOf("c0,0,0;c0,005,4;", 7);
        faultOf("c0,0,0;c0,5;", 7);
        faultOf("c0,0,0;c0,5,4,;", 7);
        faultOf("c0,0,0;c0,5,4,1;", 7);
        faultOf("c0,0,0;r1;", 7);
        faultOf("c0,0,0;r1,2,3;", 7);
        faultOf("c0,0,0;;", 7);
        faultOf("c0,0,0; r1,1;", 7);
        faultOf("c0,0,0;R1,1;", 7);
        faultOf("c0,0,0;r-1,1;", 7);
        faultOf("c0,0,0;x1,1;r99,0;", 7);
        faultOf(";", 0);
        faultOf("0", 0);
        faultOf("c0,0,0,r0,0;", 0);
        faultOf("c0;0,0;", 0);
        faultOf("r1,1;".repeat(8), NONE);
        faultOf("r1,1;".repeat(9), 40);
        faultOf("c1,1,1;".repeat(8) + "r1,1;".repeat(8), NONE);
        faultOf("c1,1,1;".repeat(9) + "r1,1;", 56);
    }

    private static void lay() {
        promise = 5;
        String[] refused = {"", "c0,0,0;", "r0,0;", "c0,0,0;r0,0;r0,0;", "c0,0,0;c0,0,0;r0,0;", "c0,0,0;r0,0;c", "r0,0;c0,60,0;"};
        for (String text : refused) {
            BirthdayRooms x = new BirthdayRooms();
            x.pass(6);
            x.keep();
            x.seen(0, 0, 0);
            write(x, text);
            String before = stateOf(x);
            due("lay of " + text, x.lay(), NO);
            sameState("lay of " + text, before, x);
        }
        BirthdayRooms x = new BirthdayRooms();
        x.pass(6);
        x.swap(0, 1);
        x.keep();
        x.seen(0, 0, 0);
        write(x, "r1,2;c3,7,8;r3,4;c1,7,6;");
        due("lay", x.lay(), 2);
        int[] counts = {2, 0, 0, 0, 0, 24};
        for (int what = 0; what < counts.length; what++) {
            due("count(" + what + ")", x.count(what), counts[what]);
        }
        due("undo", x.undo(), NO);
        due("back", x.back(), NO);
        due("kind", x.cousin(0, 0), 3);
        due("room", x.cousin(1, 3), 1);
        due("sun", x.room(1, 1), 4);
        due("no cousin 2", x.cousin(2, 0), BAD);
        due("no room 2", x.room(2, 0), BAD);
        due("lay again", x.lay(), 2);
        x.write('c');
        due("lay with a fault", x.lay(), NO);
        due("the house stands", x.count(0), 2);
        due("lay of eight", laid("c0,0,0;".repeat(8) + "r0,0;".repeat(8)).count(0), 8);
    }

    private static void cousinAndRoom() {
        promise = 6;
        BirthdayRooms x = new BirthdayRooms();
        int[] places = {0, 1, 2, 4, 5, 3};
        for (int i = 0; i < 6; i++) {
            due("place of " + i, x.cousin(i, 4), places[i]);
        }
        x.alter(4, 5);
        due("behind the lower of alike ones", x.cousin(4, 4), 1);
        x.alter(4, 4);
        due("first", x.cousin(4, 4), 0);
        due("his birthday", x.cousin(4, 1), 4);
        x.swap(4, 2);
        due("his room", x.cousin(4, 3), 2);
        due("cousin(6, 0)", x.cousin(6, 0), BAD);
        due("cousin(-1, 0)", x.cousin(-1, 0), BAD);
        due("cousin(0, 5)", x.cousin(0, 5), BAD);
        due("cousin(0, -1)", x.cousin(0, -1), BAD);
        promise = 7;
        due("whose", x.room(2, 2), 4);
        due("whose", x.room(4, 2), 2);
        due("room(6, 0)", x.room(6, 0), BAD);
        due("room(-1, 0)", x.room(-1, 0), BAD);
        due("room(0, 3)", x.room(0, 3), BAD);
        due("room(0, -1)", x.room(0, -1), BAD);
    }

    private static void pass() {
        promise = 8;
        BirthdayRooms x = laid(PAIR);
        due("pass(0)", x.pass(0), BAD);
        due("pass(121)", x.pass(121), BAD);
        due("pass(10)", x.pass(10), 10);
        due("day 10 is still ahead", x.cousin(0, 3), 0);
        due("pass(1)", x.pass(1), 11);
        due("day 10 went by", x.cousin(0, 3), 1);
        due("pass(10)", x.pass(10), 21);
        due("day 20 went by", x.cousin(0, 3), 0);
        for (int day = 141; day <= 9981; day += 120) {
            due("pass(120)", x.pass(120), day);
        }
        String before = stateOf(x);
        due("pass(19)", x.pass(19), NO);
        due("pass(121)", x.pass(121), BAD);
        sameState("pass(19)", before, x);
        due("pass(18)", x.pass(18), 9999);
        due("pass(1)", x.pass(1), NO);
        due("undo", x.undo(), 7);
        due("day", x.count(1), 9981);
        due("has goes on behind day 9999", x.has(0, 49), 1);
    }

    private static void swapAndAlter() {
        promise = 9;
        BirthdayRooms x = new BirthdayRooms();
        due("swap(4, 1)", x.swap(4, 1), 1);
        due("the other", x.cousin(1, 3), 4);
        due("swap(1, 5)", x.swap(1, 5), 5);
        String before = stateOf(x);
        due("swap(2, 2)", x.swap(2, 2), BAD);
        due("swap(6, 0)", x.swap(6, 0), BAD);
        due("swap(0, 6)", x.swap(0, 6), BAD);
        due("swap(-1, 0)", x.swap(-1, 0), BAD);
        sameState("wrong swaps", before, x);
        promise = 10;
        due("alter(0, 59)", x.alter(0, 59), 5);
        due("alter(0, 0)", x.alter(0, 0), 59);
        due("alter(0, 0)", x.alter(0, 0), 0);
        due("acts", x.count(3), 5);
        before = stateOf(x);
        due("alter(0, 60)", x.alter(0, 60), BAD);
        due("alter(0, -1)", x.alter(0, -1), BAD);
        due("alter(6, 0)", x.alter(6, 0), BAD);
        sameState("wrong alters", before, x);
        x = laid(PAIR);
        x.alter(0, 25);
        due("changes by the altered birthday", x.has(0, 19), 0);
        due("changes by the altered birthday", x.has(0, 20), 1);
        due("changes by the altered birthday", x.has(0, 25), 0);
    }

    private static void undo() {
        promise = 11;
        BirthdayRooms x = new BirthdayRooms();
        due("undo", x.undo(), NO);
        x.pass(3);
        for (int k = 0; k < 8; k++) {
            x.swap(k % 5, 5);
        }
        due("the last 8", x.count(3), 8);
        for (int left = 7; left >= 0; left--) {
            due("undo", x.undo(), left);
            BirthdayRooms y = new BirthdayRooms();
            for (int k = 0; k < left; k++) {
                y.swap(k % 5, 5);
            }
            for (int i = 0; i < 6; i++) {
                due("room of " + i + " with " + left + " left", x.cousin(i, 3), y.cousin(i, 3));
            }
        }
        due("undo", x.undo(), NO);
        due("the first act stands", x.count(1), 3);
        for (int i = 0; i < 6; i++) {
            due("room of " + i, x.cousin(i, 3), i);
        }
        x.alter(0, 9);
        x.pass(7);
        x.swap(0, 1);
        due("room", x.cousin(0, 3), 0);
        due("undo the swap", x.undo(), 2);
        due("room", x.cousin(0, 3), 1);
        due("undo the days", x.undo(), 1);
        due("day", x.count(1), 3);
        due("room", x.cousin(0, 3), 0);
        due("birthday", x.cousin(0, 1), 9);
        due("undo the birthday", x.undo(), 0);
        due("birthday", x.cousin(0, 1), 5);
        x.seen(0, 0, 0);
        x.keep();
        due("neither can be undone", x.undo(), NO);
    }

    private static void hasByKinds() {
        promise = 12;
        BirthdayRooms plain = laid("c0,10,0;c0,10,0;c0,10,0;r0,0;r0,0;r0,0;");
        due("one behind the other", plain.has(0, 10), 0);
        due("one behind the other", plain.has(1, 10), 2);
        due("one behind the other", plain.has(2, 10), 1);
        BirthdayRooms leap = laid("c1,10,0;c0,20,0;r1,1;r2,2;");
        due("leap, year 0", leap.has(0, 10), 1);
        due("leap, year 0", leap.has(0, 20), 0);
        due("leap, year 1", leap.has(0, 70), 0);
        due("plain, year 1", leap.has(0, 80), 1);
        leap.pass(120);
        leap.pass(60);
        due("leap, year 3", leap.has(0, 9), 0);
        due("leap, year 3", leap.has(0, 10), 0);
        due("plain, year 3", leap.has(0, 20), 1);
        due("leap, year 4", leap.has(0, 69), 1);
        due("leap, year 4", leap.has(0, 70), 0);
        BirthdayRooms twin = laid("c2,10,0;c0,20,0;c0,30,0;r1,1;r2,2;r3,3;");
        due("twin", twin.has(0, 10), 2);
        due("twin", twin.has(1, 10), 1);
        due("twin", twin.has(2, 10), 0);
        twin.alter(0, 40);
        // The list is 1, 2, 0: behind the last one comes 1, the next but one is 2.
        due("plain day 20", twin.has(2, 20), 1);
        due("plain day 30", twin.has(0, 30), 1);
        due("twin day 40", twin.has(0, 40), 0);
        due("twin day 40", twin.has(2, 40), 1);
        due("a twin of two", laid("c2,10,0;c0,20,0;r1,1;r2,2;").has(0, 10), 0);
        due("one alone", laid("c0,10,0;r1,1;").has(0, 120), 0);
        BirthdayRooms homely = laid("c3,10,0;c0,40,0;r1,5;r4,2;");
        due("homely, more sun", homely.has(0, 10), 1);
        due("plain", homely.has(0, 40), 0);
        homely.alter(0, 45);
        due("plain first", homely.has(0, 40), 1);
        due("homely, more sun in summer", homely.has(0, 45), 0);
        homely.swap(0, 1);
        due("plain first", homely.has(0, 40), 0);
        due("homely, less sun in summer", homely.has(0, 45), 0);
        due("homely, as much sun", laid("c3,10,0;c0,40,0;r4,5;r4,9;").has(0, 10), 0);
        due("homely on winter's last day", laid("c3,29,0;c0,40,0;r1,9;r2,0;").has(0, 29), 1);
        due("homely on summer's first day", laid("c3,30,0;c0,40,0;r1,9;r2,0;").has(0, 30), 0);
    }

    private static void hasAndWhose() {
        promise = 12;
        BirthdayRooms x = laid(PAIR);
        due("has(0, 9)", x.has(0, 9), 0);
        due("has(0, 10)", x.has(0, 10), 1);
        due("has(0, 120)", x.has(0, 120), 0);
        due("has(0, 121)", x.has(0, 121), BAD);
        due("has(0, -1)", x.has(0, -1), BAD);
        due("has(2, 0)", x.has(2, 0), BAD);
        due("has(-1, 0)", x.has(-1, 0), BAD);
        promise = 13;
        due("whose(0, 9)", x.whose(0, 9), 0);
        due("whose(0, 10)", x.whose(0, 10), 1);
        due("whose(1, 79)", x.whose(1, 79), 0);
        due("whose(1, 120)", x.whose(1, 120), 1);
        due("whose(0, 121)", x.whose(0, 121), BAD);
        due("whose(0, -1)", x.whose(0, -1), BAD);
        due("whose(2, 0)", x.whose(2, 0), BAD);
        due("whose(-1, 0)", x.whose(-1, 0), BAD);
        due("nothing went by", x.count(1), 0);
        x.pass(10);
        due("from now on", x.whose(0, 0), 1);
    }

    private static void sunColdWant() {
        promise = 14;
        BirthdayRooms x = laid(PAIR);
        due("sun(0, 1)", x.sun(0, 1), 9);
        due("sun(0, 10)", x.sun(0, 10), 90);
        due("sun(0, 11)", x.sun(0, 11), 90);
        due("sun(0, 20)", x.sun(0, 20), 90);
        due("sun(0, 21)", x.sun(0, 21), 99);
        due("sun(0, 30)", x.sun(0, 30), 180);
        due("sun(0, 60)", x.sun(0, 60), 180);
        due("sun(1, 60)", x.sun(1, 60), 360);
        due("sun(1, 120)", x.sun(1, 120), 720);
        due("sun(0, 0)", x.sun(0, 0), BAD);
        due("sun(0, 121)", x.sun(0, 121), BAD);
        due("sun(2, 1)", x.sun(2, 1), BAD);
        promise = 15;
        due("cold(0)", x.cold(0), 2);
        due("cold(9)", x.cold(9), 2);
        due("cold(10)", x.cold(10), 1);
        due("cold(20)", x.cold(20), 2);
        due("cold(29)", x.cold(29), 2);
        due("cold(30)", x.cold(30), 1);
        due("cold(120)", x.cold(120), 2);
        due("cold(-1)", x.cold(-1), BAD);
        due("cold(121)", x.cold(121), BAD);
        due("as much as wanted is not cold", laid("c0,0,5;r5,4;").cold(0), 0);
        due("one less is cold", laid("c0,0,5;r5,4;").cold(30), 1);
        promise = 16;
        due("want(1)", x.want(1), 1);
        due("want(120)", x.want(120), 120);
        due("want(0)", x.want(0), BAD);
        due("want(121)", x.want(121), BAD);
        due("want in summer alone", laid("c0,0,5;r5,4;").want(31), 1);
        due("nobody wants", laid("c0,0,0;r0,0;").want(120), 0);
    }

    private static void swaps() {
        promise = 17;
        BirthdayRooms x = laid(PAIR);
        due("as much", x.swaps(0, 60, 0), 360);
        due("the first", x.swaps(0, 60, 1), 1);
        due("no second", x.swaps(0, 60, 2), NONE);
        due("as it is", x.swaps(1, 60, 0), 360);
        due("none", x.swaps(1, 60, 1), NONE);
        due("nothing changes", x.cousin(0, 3), 0);
        due("nothing changes", x.count(3), 0);
        // On day 0 cousin 1 gets what 0 has: so it is 0 who must have the sunniest room first.
        BirthdayRooms y = laid("c0,0,0;c0,30,0;c0,40,0;r1,0;r5,0;r9,0;");
        due("changes with 0 on day 0", y.has(1, 0), 0);
        due("by 0 having 9", y.swaps(1, 5, 0), 45);
        due("0 and 2", y.swaps(1, 5, 1), 2);
        due("0 alone", y.swaps(1, 5, 2), NONE);
        // Homely 0 takes 1's room if it is sunnier: 1 keeps 9 only if 0 has 9 too.
        BirthdayRooms z = laid("c3,0,0;c3,1,0;c3,40,0;c3,50,0;r1,1;r5,5;r9,9;r9,9;");
        due("two swaps", z.swaps(1, 1, 0), 9);
        due("two swaps, the first", z.swaps(1, 1, 1), 2);
        due("two swaps, the second", z.swaps(1, 1, 2), 8 + 3);
        due("swaps(0, 0, 0)", x.swaps(0, 0, 0), BAD);
        due("swaps(0, 61, 0)", x.swaps(0, 61, 0), BAD);
        due("swaps(2, 1, 0)", x.swaps(2, 1, 0), BAD);
        due("swaps(0, 1, 3)", x.swaps(0, 1, 3), BAD);
        due("swaps(0, 1, -1)", x.swaps(0, 1, -1), BAD);
    }

    private static void warm() {
        promise = 18;
        BirthdayRooms x = laid(PAIR);
        due("as much", x.warm(60, 0), 60);
        due("no swap ahead of others", x.warm(60, 1), NONE);
        BirthdayRooms y = laid("c0,50,9;c0,51,0;c0,52,0;r0,0;r9,9;r9,9;");
        due("as much", y.warm(50, 0), 0);
        due("the first of several", y.warm(50, 1), 1);
        due("nothing changes", y.cold(0), 1);
        BirthdayRooms z = laid("c0,50,0;c0,51,9;c0,52,0;c0,53,0;r9,9;r0,0;r0,0;r9,9;");
        due("one day", z.warm(1, 0), 0);
        due("0 and 1 ahead of 1 and 3", z.warm(1, 1), 1);
        z.swap(0, 2);
        due("one day", z.warm(1, 0), 0);
        due("1 and 2 ahead of 1 and 3", z.warm(1, 1), 8 + 2);
        due("warm(0, 0)", x.warm(0, 0), BAD);
        due("warm(61, 0)", x.warm(61, 0), BAD);
        due("warm(1, 2)", x.warm(1, 2), BAD);
        due("warm(1, -1)", x.warm(1, -1), BAD);
    }

    private static void canHave() {
        promise = 19;
        due("everyone by a swap", laid(PAIR).canHave(0, 0), 3);
        due("one alone", laid("c0,0,0;r0,0;").canHave(0, 120), 1);
        // Homely 0 takes room 1's sun from whoever is next; 2 alone keeps it by a swap.
        BirthdayRooms x = laid("c3,0,0;c0,10,0;c0,20,0;r0,0;r9,9;r0,0;");
        due("not the next one", x.canHave(1, 0), 1 + 4);
        BirthdayRooms y = laid("c3,1,0;c3,0,0;c3,40,0;r0,0;r0,0;r9,9;");
        // The list is 1, 0, 2: on day 0 homely 1 takes it from 0, on day 1 homely 0 from 2.
        due("behind day 0", y.canHave(2, 0), 2 + 4);
        due("behind day 1", y.canHave(2, 1), 1 + 2);
        due("canHave(3, 0)", x.canHave(3, 0), BAD);
        due("canHave(-1, 0)", x.canHave(-1, 0), BAD);
        due("canHave(0, 121)", x.canHave(0, 121), BAD);
        due("canHave(0, -1)", x.canHave(0, -1), BAD);
    }

    private static void round() {
        promise = 20;
        due("one alone", laid("c0,0,0;r0,0;").round(), 240);
        due("plain ones, each year anew", laid(PAIR).round(), 240);
        due("a leap one alone", laid("c1,10,0;c2,20,0;r1,1;r2,2;").round(), 480);
        due("three", laid("c1,10,0;c1,20,0;c3,30,0;r1,1;r1,1;r1,1;").round(), 720);
        due("four", laid("c1,10,0;c1,20,0;c1,30,0;c3,40,0;r1,1;r1,1;r1,1;r1,1;").round(), 960);
        BirthdayRooms five = laid("c1,10,0;c1,20,0;c1,30,0;c1,40,0;c3,50,0;r1,1;r1,1;r1,1;r1,1;r1,1;");
        due("five", five.round(), NONE);
        BirthdayRooms x = laid("c1,10,0;c2,20,0;r1,1;r2,2;");
        x.pass(61);
        due("from year 1 on", x.round(), 480);
        due("nothing changes", x.count(1), 61);
    }

    private static void way() {
        promise = 21;
        BirthdayRooms x = laid("c0,0,1;c0,0,2;c0,0,3;c0,0,4;c0,0,5;r0,0;r0,0;r0,0;r0,0;r0,0;");
        due("up", x.way(0, 2, 0), 2);
        due("up", x.way(0, 2, 1), 0);
        due("down", x.way(0, 3, 0), 5);
        due("2 and 3 on the way up, 5 on the way down: alike", x.way(0, 3, 1), 0);
        due("down past 0", x.way(1, 4, 0), 1);
        due("down past 0", x.way(1, 4, 1), 1);
        due("to the next one", x.way(0, 1, 0), 0);
        due("to the next one down", x.way(0, 4, 0), 0);
        due("to the next one down", x.way(0, 4, 1), 1);
        due("his own", x.way(3, 3, 0), 0);
        due("his own", x.way(3, 3, 1), 0);
        x.swap(0, 2);
        due("from the room he has now", x.way(0, 0, 0), 2);
        due("through others' rooms as they are", x.way(1, 3, 0), 1);
        due("one alone", laid("c0,0,9;r0,0;").way(0, 0, 1), 0);
        due("way(5, 0, 0)", x.way(5, 0, 0), BAD);
        due("way(0, 5, 0)", x.way(0, 5, 0), BAD);
        due("way(0, -1, 0)", x.way(0, -1, 0), BAD);
        due("way(0, 0, 2)", x.way(0, 0, 2), BAD);
    }

    private static void seenAndForget() {
        promise = 22;
        BirthdayRooms x = laid(PAIR);
        due("seen(2, 0, 0)", x.seen(2, 0, 0), BAD);
        due("seen(0, 2, 0)", x.seen(0, 2, 0), BAD);
        due("seen(0, 0, 121)", x.seen(0, 0, 121), BAD);
        due("seen(0, 0, -1)", x.seen(0, 0, -1), BAD);
        for (int k = 1; k <= 8; k++) {
            due("seen", x.seen(0, 0, 120 * (k % 2)), k);
        }
        due("a ninth", x.seen(0, 1, 0), FULL);
        due("a wrong one when full", x.seen(0, 0, 121), BAD);
        due("how many", x.count(2), 8);
        due("the ninth is not held", x.register(0, 0) > 0 ? 1 : 0, 1);
        promise = 23;
        due("forget", x.forget(), 8);
        due("forget again", x.forget(), 0);
        due("how many", x.count(2), 0);
        due("all birthdays", x.register(0, 0), 60);
    }

    private static void register() {
        promise = 24;
        BirthdayRooms x = laid(PAIR);
        due("nothing seen", x.register(0, 0), 60);
        due("nothing seen", x.register(0, 1), 0);
        x.seen(0, 1, 12);
        due("0 to 12", x.register(0, 0), 13);
        due("0 to 12", x.register(0, 1), 0);
        x.seen(0, 0, 7);
        due("8 to 12", x.register(0, 0), 5);
        due("8 to 12", x.register(0, 1), 8);
        due("any but up to 12 of the other", x.register(1, 0), 47);
        due("13 on", x.register(1, 1), 13);
        x.seen(1, 0, 9);
        due("8 and 9", x.register(0, 0), 2);
        x.alter(0, 40);
        x.alter(1, 1);
        x.swap(0, 1);
        x.pass(33);
        due("what was done does not matter", x.register(0, 0), 2);
        due("what was done does not matter", x.register(0, 1), 8);
        BirthdayRooms three = laid("c0,10,0;c0,20,0;c0,30,0;r0,0;r0,0;r0,0;");
        three.seen(1, 2, 25);
        three.seen(2, 1, 22);
        three.seen(0, 1, 10);
        // As told: 0 and 1 change on day 10, then 1 and 2 on day 20.
        due("seen in any order", three.register(0, 0), 0);
        three.forget();
        three.seen(2, 2, 15);
        three.seen(1, 0, 15);
        three.seen(0, 1, 12);
        three.seen(0, 0, 8);
        due("9 to 12", three.register(0, 0), 4);
        due("9 to 12", three.register(0, 1), 9);
        x.seen(0, 0, 12);
        due("none", x.register(0, 0), 0);
        due("none", x.register(0, 1), NONE);
        due("register(2, 0)", x.register(2, 0), BAD);
        due("register(-1, 0)", x.register(-1, 0), BAD);
        due("register(0, 2)", x.register(0, 2), BAD);
        due("register(0, -1)", x.register(0, -1), BAD);
        due("nothing changes", x.cousin(0, 1), 40);
    }

    private static void foundling() {
        promise = 25;
        BirthdayRooms x = laid(PAIR);
        due("1 of 60", x.foundling(0, 1, 0, 0), 1);
        due("1 of 60", x.foundling(0, 1, 0, 1), 60);
        due("59 of 60", x.foundling(0, 0, 0, 0), 59);
        due("a half", x.foundling(0, 1, 29, 0), 1);
        due("a half", x.foundling(0, 1, 29, 1), 2);
        due("never", x.foundling(0, 1, 59, 0), 0);
        due("never", x.foundling(0, 1, 59, 1), 1);
        due("surely", x.foundling(0, 0, 59, 0), 1);
        due("surely", x.foundling(0, 0, 59, 1), 1);
        x.pass(15);
        due("from now on", x.foundling(0, 1, 0, 0), 59);
        x.alter(1, 15);
        due("by the altered one of the other", x.foundling(0, 0, 0, 0), 59);
        due("his birthday stands", x.cousin(0, 1), 10);
        due("foundling(2, 0, 0, 0)", x.foundling(2, 0, 0, 0), BAD);
        due("foundling(0, 2, 0, 0)", x.foundling(0, 2, 0, 0), BAD);
        due("foundling(0, 0, 121, 0)", x.foundling(0, 0, 121, 0), BAD);
        due("foundling(0, 0, -1, 0)", x.foundling(0, 0, -1, 0), BAD);
        due("foundling(0, 0, 0, 2)", x.foundling(0, 0, 0, 2), BAD);
        due("foundling(0, 0, 0, -1)", x.foundling(0, 0, 0, -1), BAD);
    }

    private static void losesAndNext() {
        promise = 26;
        BirthdayRooms x = laid(PAIR);
        due("who", x.loses(0), 0);
        due("as much", x.loses(1), 180);
        x.swap(0, 1);
        due("who", x.loses(0), 1);
        due("the lowest of several", laid("c3,1,0;c3,2,0;c3,3,0;r1,1;r1,1;r1,1;").loses(0), 0);
        BirthdayRooms leaps = laid("c1,1,0;c1,2,0;c1,3,0;r9,9;r1,1;r1,1;");
        leaps.pass(60);
        due("1 and 2 have as little", leaps.loses(0), 1);
        due("1 and 2 have as little", leaps.loses(1), 60);
        due("as much", laid("c3,1,0;r1,2;").loses(1), 90);
        due("loses(2)", x.loses(2), BAD);
        due("loses(-1)", x.loses(-1), BAD);
        promise = 27;
        BirthdayRooms y = new BirthdayRooms();
        due("who", y.next(0), 0);
        due("behind 5", y.next(1), 5);
        y.pass(5);
        due("this very day", y.next(0), 0);
        due("this very day", y.next(1), 0);
        y.pass(1);
        due("the one behind it", y.next(0), 1);
        due("the one behind it", y.next(1), 11);
        y.pass(12);
        due("of several the first", y.next(0), 2);
        due("of several the first", y.next(1), 12);
        y.pass(35);
        due("round the year", y.next(0), 0);
        due("round the year", y.next(1), 12);
        y.alter(5, 4);
        due("the altered one", y.next(0), 5);
        BirthdayRooms fresh = new BirthdayRooms();
        fresh.alter(5, 0);
        due("asked at once", fresh.next(0), 5);
        due("asked at once", fresh.next(1), 0);
        due("next(2)", y.next(2), BAD);
        due("next(-1)", y.next(-1), BAD);
    }

    private static void year() {
        promise = 28;
        BirthdayRooms x = laid("c0,10,5;c0,20,5;r9,9;r4,4;");
        // By z = 0 the first draw is 0: nobody with himself.
        due("no swap", x.year(0, 1, 1), 0);
        due("one cold", x.year(0, 1, 0), 1);
        due("always one cold", x.year(9999, 120, 0), 120);
        drawn(laid("c0,10,5;c0,20,5;r9,9;r4,4;"));
        drawnOnTwoDays(laid("c0,10,5;c0,20,5;r9,9;r4,4;"));
        due("nothing changes", x.count(1), 0);
        due("nothing changes", x.cousin(0, 3), 0);
        due("one alone", laid("c0,0,5;r5,4;").year(5, 120, 0), 60);
        due("year(-1, 1, 0)", x.year(-1, 1, 0), BAD);
        due("year(10000, 1, 0)", x.year(10000, 1, 0), BAD);
        due("year(0, 0, 0)", x.year(0, 0, 0), BAD);
        due("year(0, 121, 0)", x.year(0, 121, 0), BAD);
        due("year(0, 1, 2)", x.year(0, 1, 2), BAD);
        due("year(0, 1, -1)", x.year(0, 1, -1), BAD);
    }

    private static void drawn(BirthdayRooms x) {
        int swapped = 0;
        for (int z = 0; z < 300; z++) {
            long first = 7919L * z + 1;
            long draw = first * first % 65521 / 2;
            boolean swaps = draw % 2 != draw / 8 % 2 && draw / 64 % 5 == 0;
            swapped += swaps ? 1 : 0;
            due("year(" + z + ", 1, 1)", x.year(z, 1, 1), swaps ? 1 : 0);
        }
        due("some of them swap", swapped > 0 ? 1 : 0, 1);
    }

    /** The second day's draw counts one day that went by. */
    private static void drawnOnTwoDays(BirthdayRooms x) {
        for (int z = 0; z < 200; z++) {
            int owner = x.year(z, 1, 1);
            long second = 7919L * z + 6151L + 1;
            long draw = second * second % 65521 / 2;
            boolean swaps = draw % 2 != draw / 8 % 2 && draw / 64 % 5 == 0;
            due("year(" + z + ", 2, 1)", x.year(z, 2, 1), swaps ? 1 - owner : owner);
        }
    }

    private static void keepAndBack() {
        promise = 29;
        BirthdayRooms x = new BirthdayRooms();
        due("back of nothing", x.back(), NO);
        due("keep", x.keep(), 1);
        x.pass(6);
        x.swap(2, 3);
        x.alter(4, 9);
        due("keep", x.keep(), 2);
        String before = stateOf(x);
        due("keep", x.keep(), FULL);
        sameState("keep when full", before, x);
        x.pass(60);
        x.swap(4, 3);
        x.alter(4, 10);
        x.seen(0, 0, 0);
        promise = 30;
        due("back", x.back(), 1);
        due("day", x.count(1), 6);
        due("room", x.cousin(2, 3), 3);
        due("room", x.cousin(0, 3), 1);
        due("birthday", x.cousin(4, 1), 9);
        due("nothing is undone", x.count(3), 0);
        due("nothing is undone", x.undo(), NO);
        due("what was seen stays", x.count(2), 1);
        due("keep again", x.keep(), 2);
        due("back", x.back(), 1);
        due("back", x.back(), 0);
        due("day", x.count(1), 0);
        due("room", x.cousin(2, 3), 2);
        due("birthday", x.cousin(4, 1), 52);
        x.pass(1);
        due("back", x.back(), NO);
        due("an act can be undone as ever", x.undo(), 0);
    }

    private static void count() {
        promise = 31;
        BirthdayRooms x = new BirthdayRooms();
        x.write('c');
        x.write('c');
        x.write('c');
        x.write('c');
        x.write('c');
        x.pass(7);
        x.swap(0, 1);
        x.alter(0, 3);
        x.keep();
        x.seen(0, 0, 0);
        x.seen(0, 0, 0);
        int[] counts = {6, 7, 2, 3, 1, 5};
        for (int what = 0; what < counts.length; what++) {
            due("count(" + what + ")", x.count(what), counts[what]);
        }
        due("count(6)", x.count(6), BAD);
        due("count(-1)", x.count(-1), BAD);
    }

    /** Each place of each call with numbers far out: BAD, and nothing changes. */
    private static void wildNumbers() {
        promise = 0;
        BirthdayRooms x = new BirthdayRooms();
        x.pass(20);
        x.seen(0, 1, 5);
        x.keep();
        write(x, "c0,0");
        String before = stateOf(x);
        for (int wild : WILD) {
            int[] answers = {
                x.write(wild), x.cousin(wild, 0), x.cousin(0, wild), x.room(wild, 0), x.room(0, wild), x.pass(wild),
                x.swap(wild, 0), x.swap(0, wild), x.swap(wild, wild), x.alter(wild, 0), x.alter(0, wild),
                x.has(wild, 0), x.has(0, wild), x.whose(wild, 0), x.whose(0, wild), x.sun(wild, 1), x.sun(0, wild),
                x.cold(wild), x.want(wild), x.swaps(wild, 1, 0), x.swaps(0, wild, 0), x.swaps(0, 1, wild),
                x.warm(wild, 0), x.warm(1, wild), x.canHave(wild, 0), x.canHave(0, wild), x.way(wild, 0, 0),
                x.way(0, wild, 0), x.way(0, 0, wild), x.seen(wild, 0, 0), x.seen(0, wild, 0), x.seen(0, 0, wild),
                x.register(wild, 0), x.register(0, wild), x.foundling(wild, 0, 0, 0), x.foundling(0, wild, 0, 0),
                x.foundling(0, 0, wild, 0), x.foundling(0, 0, 0, wild), x.loses(wild), x.next(wild),
                x.year(wild, 1, 0), x.year(0, wild, 0), x.year(0, 1, wild), x.count(wild),
            };
            for (int k = 0; k < answers.length; k++) {
                due("call " + k + " with " + wild, answers[k], BAD);
            }
        }
        sameState("wild numbers", before, x);
    }
}
