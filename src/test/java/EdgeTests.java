/**
 * Each sentence of the document that names a boundary case, in the document's order, with a test of its own: the last
 * that is told and the one beyond it, the empty and the full, the wrap-around. All answers are worked out by hand.
 * What each call refuses, and that nothing changes then, stands in RefusalTests.
 *
 * A homely cousin among rooms with the same sun, and a twin of two, never change: they keep still what is not tested.
 */
public final class EdgeTests {
    /** The plain one changes with the other on day 10 of each year; a twin of two changes with himself. */
    private static final String ONE_MOVES = "c0,10,0;c2,20,0;r0,0;r0,0;";
    private static final String PAIR = "c0,10,5;c0,20,5;r9,0;r0,9;";

    public static void main(String[] args) {
        lettersOfTheText();
        itemsAndFigures();
        kindBirthdayWant();
        howManyCousins();
        howManyRooms();
        fault();
        laid();
        laidAtFirst();
        laidBehindAnother();
        calls512();
        daysOfAYear();
        winterAndSummer();
        theList();
        behindTheLastOne();
        oneBehindTheOther();
        leapYears();
        lastLeapYears();
        twins();
        homely();
        withHimself();
        cold();
        daysGoBy();
        lastDay();
        undone();
        altered();
        has();
        sun();
        want();
        swaps();
        swapsFromNowOn();
        swapsOfSeveral();
        warm();
        canHave();
        round();
        way();
        wayRound();
        seen();
        seenAsTheTextTells();
        register();
        foundling();
        loses();
        next();
        year();
        draws();
        kept();
        counts();
        Script.end("EdgeTests");
    }

    private static Script typed(String text) {
        return new Script().type(text);
    }

    private static void faultOf(String text, String place) {
        typed(text).run("fault()=" + place);
    }

    // ---- 1

    private static void lettersOfTheText() {
        Script.sentence("A TEXT is letters (200 at most)");
        Script script = new Script().run("count(5)=0 wipe()=0 write(32)=1 write(126)=2");
        for (int k = 3; k <= 200; k++) {
            script.run("write(99)=" + k);
        }
        script.run("write(99)=FULL count(5)=200 wipe()=200 count(5)=0 wipe()=0 write(99)=1");
        Script.sentence("A letter (32 to 126, as in ASCII)");
        new Script().run("write(31)=BAD write(127)=BAD write(0)=BAD write(10)=BAD write(-1)=BAD count(5)=0");
        Script.sentence("THE TEXT is empty: the letters of before are gone");
        typed("c4").run("fault()=0 wipe()=2 fault()=NONE").type("c0,0,0;r0,0;").run("fault()=NONE lay()=1 count(5)=12");
    }

    private static void itemsAndFigures() {
        Script.sentence("ITEMS one behind the other, each a letter, then numbers (one or two figures)");
        faultOf("", "NONE");
        for (String good : new String[] {"c0,0,0;", "c00,00,00;", "c03,59,09;", "c3,05,9;", "r0,0;", "r00,00;", "r09,9;"}) {
            faultOf(good, "NONE");
            faultOf(good + good, "NONE");
            for (int cut = 1; cut < good.length(); cut++) {
                faultOf(good.substring(0, cut), "0");
                faultOf(good + good.substring(0, cut), "" + good.length());
            }
            for (int place = 0; place < good.length(); place++) {
                // One letter left out, or a blank put in, makes it no item, unless one of two figures is left.
                char letter = good.charAt(place);
                String shorter = good.substring(0, place) + good.substring(place + 1);
                boolean one = shorter.matches("c[0-9]{1,2},[0-9]{1,2},[0-9]{1,2};|r[0-9]{1,2},[0-9]{1,2};");
                faultOf(shorter, one ? "NONE" : "0");
                faultOf(good.substring(0, place) + ' ' + good.substring(place), "0");
                faultOf(good.substring(0, place) + (letter == '.' ? ':' : '.') + good.substring(place + 1), "0");
            }
        }
        for (String bad : new String[] {"c000,0,0;", "c0,000,0;", "c0,0,000;", "r000,0;", "r0,000;", "c,0,0;", "c0,,0;",
                "c0,0,;", "r,0;", "r0,;", "c;", "r;", "c0;", "c0,0;", "c0,0,0,0;", "r0;", "r0,0,0;", "c0,0,0,", "c0;0;0;",
                "r0;0;", "r0,0,", "c+0,0,0;", "c-0,0,0;", "C0,0,0;", "R0,0;", "d0,0,0;", "q0,0;", "0,0,0;", ";", ",", "c0,0/,0;",
                "c0,0:,0;", "r/,0;", "r:,0;"}) {
            faultOf(bad, "0");
            faultOf("r9,9;" + bad, "5");
        }
        Script.sentence("parted by , and a ; behind the last one");
        faultOf("c0,0,0;;", "7");
        faultOf("c0,0,0;,r0,0;", "7");
        faultOf(";c0,0,0;", "0");
        typed("c00,05,04;r02,08;").run("lay()=1 cousin(0,0)=0 cousin(0,1)=5 cousin(0,2)=4 room(0,0)=2 room(0,1)=8");
    }

    private static void kindBirthdayWant() {
        Script.sentence("KIND K (0 PLAIN, 1 LEAP, 2 TWIN, 3 HOMELY)");
        for (int kind = 0; kind <= 3; kind++) {
            typed("c" + kind + ",0,0;r0,0;").run("fault()=NONE lay()=1 cousin(0,0)=" + kind);
        }
        faultOf("c4,0,0;", "0");
        faultOf("c9,0,0;", "0");
        faultOf("c10,0,0;", "0");
        faultOf("c30,0,0;", "0");
        faultOf("c99,0,0;", "0");
        Script.sentence("BIRTHDAY B (0 to 59)");
        for (int birthday : new int[] {0, 1, 58, 59}) {
            typed("c0," + birthday + ",0;r0,0;").run("fault()=NONE lay()=1 cousin(0,1)=" + birthday);
        }
        faultOf("c0,60,0;", "0");
        faultOf("c0,99,0;", "0");
        Script.sentence("WANTS W (0 to 9) SUN");
        typed("c0,0,0;r0,0;").run("lay()=1 cousin(0,2)=0");
        typed("c0,0,9;r0,0;").run("lay()=1 cousin(0,2)=9");
        faultOf("c0,0,10;", "0");
        faultOf("c0,0,90;", "0");
        faultOf("c0,0,99;", "0");
        Script.sentence("a ROOM with A (0 to 9) SUN in WINTER, B (0 to 9) in SUMMER");
        typed("c0,0,0;r0,9;").run("lay()=1 room(0,0)=0 room(0,1)=9");
        typed("c0,0,0;r9,0;").run("lay()=1 room(0,0)=9 room(0,1)=0");
        faultOf("r10,0;", "0");
        faultOf("r0,10;", "0");
        faultOf("r99,0;", "0");
        faultOf("r0,99;", "0");
    }

    private static void howManyCousins() {
        Script.sentence("a COUSIN ..; 8 at most, 0, 1, .., who has ROOM 0, 1, .. first");
        String eight = "c0,0,0;c1,1,1;c2,2,2;c3,3,3;c0,4,4;c1,5,5;c2,6,6;c3,7,7;";
        faultOf(eight, "NONE");
        faultOf(eight + "c0,0,0;", "56");
        faultOf(eight + "r0,0;c0,0,0;", "61");
        Script all = typed(eight + "r0,0;".repeat(8)).run("fault()=NONE lay()=8 count(0)=8");
        for (int i = 0; i < 8; i++) {
            all.run("cousin(" + i + ",0)=" + i % 4 + " cousin(" + i + ",1)=" + i + " cousin(" + i + ",2)=" + i
                + " cousin(" + i + ",3)=" + i + " room(" + i + ",2)=" + i);
        }
        all.run("cousin(8,0)=BAD room(8,0)=BAD cousin(-1,0)=BAD room(-1,0)=BAD");
        typed(eight + "c0,0,0;" + "r0,0;".repeat(8)).run("fault()=56 lay()=NO count(0)=6");
    }

    private static void howManyRooms() {
        Script.sentence("a ROOM ..; 8 at most, 0, 1, ..");
        String eight = "r0,1;r1,2;r2,3;r3,4;r4,5;r5,6;r6,7;r7,8;";
        faultOf(eight, "NONE");
        faultOf(eight + "r0,0;", "40");
        faultOf(eight + "c0,0,0;r0,0;", "47");
        // Rooms may stand ahead of cousins, and between them.
        Script all = typed(eight + "c0,0,0;".repeat(8)).run("lay()=8");
        for (int r = 0; r < 8; r++) {
            all.run("room(" + r + ",0)=" + r + " room(" + r + ",1)=" + (r + 1));
        }
        typed("r1,2;c1,2,3;c2,3,4;r3,4;").run("lay()=2 cousin(0,0)=1 cousin(1,0)=2 room(0,0)=1 room(1,1)=4");
    }

    private static void fault() {
        Script.sentence("FAULT: the place of the first letter of the first ITEM that is not so");
        faultOf("x", "0");
        faultOf("c0,0,0;c0,0,10;", "7");
        faultOf("c0,0,0;c0,60,0;c4,0,0;", "7");
        faultOf("r9,9;x0,0;r10,0;", "5");
        faultOf("c0,0,0;r0,0;c0,59,9;r9,10;", "20");
        // As late as it can be: behind all that a text may hold, and in its last letters.
        faultOf("c00,00,00;".repeat(8) + "r00,00;".repeat(8), "NONE");
        faultOf("c00,00,00;".repeat(8) + "r00,00;".repeat(8) + "c", "136");
        faultOf("c00,00,00;".repeat(8) + "r00,00;".repeat(8) + "r".repeat(64), "136");
        faultOf("x".repeat(200), "0");
        Script.sentence("fault: NONE of a text that cannot be laid for its numbers of cousins and rooms alone");
        typed("r0,0;").run("fault()=NONE lay()=NO");
        typed("c0,0,0;").run("fault()=NONE lay()=NO");
    }

    private static void laid() {
        Script.sentence("LAID is a TEXT without FAULT, of a COUSIN at least, of as many ROOMS as COUSINS (NO else");
        String[] no = {"", "c0,0,0;", "r0,0;", "c0,0,0;c0,0,0;r0,0;", "c0,0,0;r0,0;r0,0;", "c0,0,0;r0,0;x", "xc0,0,0;r0,0;",
            "c0,0,0;r0,0", "c0,0,0;".repeat(8) + "r0,0;".repeat(7), "c0,0,0;".repeat(7) + "r0,0;".repeat(8),
            "c0,0,0;".repeat(9) + "r0,0;".repeat(9), "c0,60,0;r0,0;"};
        for (String text : no) {
            typed(text).run("pass(7)=7 keep()=1 seen(0,0,0)=1 lay()=NO count(0)=6 count(1)=7 count(2)=1 count(3)=1 count(4)=1"
                + " cousin(0,3)=1 cousin(5,1)=30 room(5,1)=7 count(5)=" + text.length() + " back()=0 count(1)=7");
        }
        for (int many = 1; many <= 8; many++) {
            typed("c0,0,0;".repeat(many) + "r0,0;".repeat(many)).run("lay()=" + many + " count(0)=" + many);
        }
        Script.sentence("lay: DAY 0, nothing SEEN, UNDONE, KEPT");
        Script script = new Script().run("pass(7)=7 swap(0,1)=0 alter(0,9)=5 keep()=1 keep()=2 seen(0,1,5)=1 seen(0,1,6)=2");
        script.type("c0,10,0;c2,20,0;r0,0;r0,0;").run("count(1)=7 lay()=2 count(1)=0 count(2)=0 count(3)=0 count(4)=0"
            + " undo()=NO back()=NO forget()=0 cousin(0,1)=10 cousin(0,3)=0 cousin(1,3)=1 register(0,0)=60 count(5)=26");
        script.run("pass(11)=11 alter(0,9)=10 cousin(0,3)=1 lay()=2 count(1)=0 cousin(0,1)=10 cousin(0,3)=0 undo()=NO");
    }

    private static void laidAtFirst() {
        Script.sentence("at first c0,5,4;c1,17,3;c2,30,6;c0,44,2;c3,52,5;c0,30,1;r2,8;r5,5;r1,9;r6,3;r3,4;r0,7;");
        Script first = new Script().run("count(0)=6 count(1)=0 count(2)=0 count(3)=0 count(4)=0 count(5)=0");
        String text = "c0,5,4;c1,17,3;c2,30,6;c0,44,2;c3,52,5;c0,30,1;r2,8;r5,5;r1,9;r6,3;r3,4;r0,7;";
        Script second = typed(text).run("lay()=6 wipe()=" + text.length());
        if (!first.drained().equals(second.drained())) {
            Script.fail("the first house is not the one that is told");
        }
        new Script().run("cousin(0,1)=5 cousin(5,1)=30 cousin(5,2)=1 room(5,0)=0 room(5,1)=7 lay()=NO undo()=NO back()=NO");
    }

    private static void laidBehindAnother() {
        Script.sentence("LAID: nothing is left of a house with more cousins, or with fewer, that stood ahead of it");
        String two = "c0,40,3;c2,50,7;r5,1;r2,8;";
        String eight = "c0,5,9;c1,9,9;c2,13,9;c3,17,9;c0,21,9;c1,25,9;c2,29,9;c3,33,9;" + "r0,0;".repeat(8);
        String asked = "next(0) next(1) loses(0) loses(1) round() cold(0) cold(120) want(120) warm(60,0) warm(60,1) swaps(0,60,0)"
            + " swaps(1,60,1) canHave(0,120) way(0,1,0) has(0,120) whose(0,120) sun(1,120) year(37,120,0) year(37,120,1) foundling(0,1,59,0)";
        String busy = "pass(99) swap(0,1) alter(1,0) keep() seen(0,1,0) ";
        for (String[] houses : new String[][] {{eight, two}, {two, eight}, {"", two}, {two, two}}) {
            Script behind = Script.on(houses[0], busy + asked + " wipe()").type(houses[1]).run("lay() wipe()");
            Script alone = Script.on(houses[1], "");
            String[] calls = asked.split(" ");
            for (String call : calls) {
                int want = alone.answerOf(call);
                behind.run(call + "=" + want);
            }
            if (!behind.drained().equals(alone.drained())) {
                Script.fail("something of " + houses[0] + " is left in " + houses[1]);
            }
        }
        Script.on(eight, "next(0)=0 next(1)=5").type(two).run("lay()=2 next(0)=0 next(1)=40 pass(41)=41 next(0)=1 next(1)=9");
    }

    private static void calls512() {
        Script.sentence("An object is used for at most 512 calls");
        Script days = new Script();
        for (int k = 1; k <= 512; k++) {
            days.run("pass(19)=" + 19 * k);
        }
        Script acts = new Script();
        acts.times(127, "swap(0,1)=1 swap(0,1)=0 undo() undo()").run("count(3)=0 swap(0,5)=5 cousin(5,3)=0 undo()=0");
        if (acts.callsMade() != 512) {
            Script.fail("meant to make 512 calls, made " + acts.callsMade());
        }
    }

    // ---- 2

    private static void daysOfAYear() {
        Script.sentence("A YEAR has 60 DAYS, 0 to 59, again and again");
        Script.on("c0,0,0;c2,30,0;r0,0;r0,0;", "has(0,0)=1 has(0,1)=1 has(0,59)=1 has(0,60)=0 has(0,119)=0 has(0,120)=1");
        Script.on("c0,59,0;c2,30,0;r0,0;r0,0;", "has(0,0)=0 has(0,58)=0 has(0,59)=1 has(0,60)=1 has(0,118)=1 has(0,119)=0"
            + " has(0,120)=0");
        Script.on("c0,0,0;c2,30,0;r0,0;r0,0;", "pass(59)=59 cousin(0,3)=1 pass(1)=60 cousin(0,3)=1 pass(1)=61 cousin(0,3)=0"
            + " pass(59)=120 cousin(0,3)=0 pass(1)=121 cousin(0,3)=1");
        Script.on("c0,59,0;c2,30,0;r0,0;r0,0;", "pass(59)=59 cousin(0,3)=0 pass(1)=60 cousin(0,3)=1 pass(59)=119 cousin(0,3)=1"
            + " pass(1)=120 cousin(0,3)=0");
    }

    private static void winterAndSummer() {
        Script.sentence("WINTER is DAYS 0 to 29 of it, SUMMER the others");
        Script.on("c0,0,0;r9,1;", "sun(0,1)=9 sun(0,29)=261 sun(0,30)=270 sun(0,31)=271 sun(0,60)=300 sun(0,61)=309"
            + " sun(0,90)=570 sun(0,91)=571 sun(0,120)=600");
        Script.on("c0,0,0;r9,1;", "pass(29)=29 sun(0,1)=9 sun(0,2)=10 pass(1)=30 sun(0,1)=1 sun(0,30)=30 sun(0,31)=39"
            + " pass(29)=59 sun(0,1)=1 sun(0,2)=10 pass(1)=60 sun(0,1)=9 sun(0,120)=600");
        Script.on("c0,0,5;r5,4;", "cold(0)=0 cold(29)=0 cold(30)=1 cold(59)=1 cold(60)=0 cold(89)=0 cold(90)=1 cold(119)=1"
            + " cold(120)=0");
        // The homely one goes where the sun is more on that very day.
        Script.on("c3,29,0;c2,40,0;r1,9;r2,0;", "has(0,28)=0 has(0,29)=1");
        Script.on("c3,30,0;c2,40,0;r1,9;r2,0;", "has(0,29)=0 has(0,30)=0");
        Script.on("c3,59,0;c2,40,0;r9,1;r0,2;", "has(0,58)=0 has(0,59)=1");
        Script.on("c3,0,0;c2,40,0;r9,1;r0,2;", "has(0,0)=0 has(0,60)=0");
    }

    private static void theList() {
        Script.sentence("THE LIST are the COUSINS by BIRTHDAY, of alike ones the lowest first");
        Script.on("c0,59,0;c0,30,0;c0,0,0;r0,0;r0,0;r0,0;", "cousin(2,4)=0 cousin(1,4)=1 cousin(0,4)=2");
        Script.on("c0,30,0;c0,0,0;c0,30,0;c0,0,0;r0,0;r0,0;r0,0;r0,0;", "cousin(1,4)=0 cousin(3,4)=1 cousin(0,4)=2 cousin(2,4)=3");
        Script eight = Script.on("c0,7,0;".repeat(8) + "r0,0;".repeat(8), "");
        for (int i = 0; i < 8; i++) {
            eight.run("cousin(" + i + ",4)=" + i);
        }
        eight.run("alter(0,8)=7 cousin(0,4)=7 cousin(1,4)=0 cousin(7,4)=6 alter(7,6)=7 cousin(7,4)=0 cousin(1,4)=1 cousin(0,4)=7");
        Script.on("c3,40,9;r0,0;", "cousin(0,4)=0");
        // Of alike ones the lower changes first, and with the higher.
        Script.on("c0,10,0;c3,10,0;c3,5,0;r1,1;r1,1;r1,1;", "cousin(2,4)=0 cousin(0,4)=1 cousin(1,4)=2 has(0,10)=1 has(1,10)=0"
            + " has(2,10)=2");
    }

    private static void behindTheLastOne() {
        Script.sentence("behind the last one comes the first again");
        Script.on("c3,0,0;c3,10,0;c0,20,0;r1,1;r1,1;r1,1;", "has(2,19)=2 has(2,20)=0 has(0,20)=2 has(1,20)=1");
        Script.on("c3,10,0;c0,10,0;c3,5,0;r1,1;r1,1;r1,1;", "has(1,9)=1 has(1,10)=2 has(2,10)=1 has(0,10)=0");
        // The twin that is last but one comes to the first, the last one to the second.
        Script.on("c3,0,0;c2,10,0;c3,20,0;r1,1;r1,1;r1,1;", "has(1,9)=1 has(1,10)=0 has(0,10)=1 has(2,10)=2");
        Script.on("c3,0,0;c3,10,0;c2,20,0;r1,1;r1,1;r1,1;", "has(2,19)=2 has(2,20)=1 has(1,20)=2 has(0,20)=0");
        String seven = "c3,0,0;c3,1,0;c3,2,0;c3,3,0;c3,4,0;c3,5,0;";
        Script.on(seven + "c3,6,0;c0,7,0;" + "r1,1;".repeat(8), "has(7,7)=0 has(0,7)=7 has(1,7)=1 has(6,7)=6");
        Script.on(seven + "c3,6,0;c2,7,0;" + "r1,1;".repeat(8), "has(7,7)=1 has(1,7)=7 has(0,7)=0 has(6,7)=6");
        Script.on(seven + "c2,6,0;c3,7,0;" + "r1,1;".repeat(8), "has(6,6)=0 has(0,6)=6 has(7,6)=7 has(1,6)=1");
        Script.on("c3,0,0;c3,59,0;r9,9;r8,8;", "has(1,58)=1 has(1,59)=0 has(0,59)=1");
    }

    private static void oneBehindTheOther() {
        Script.sentence("On a DAY those whose BIRTHDAY it is, by THE LIST, one behind the other, change ROOMS");
        Script.on("c0,30,0;".repeat(8) + "r0,0;".repeat(8), "has(0,29)=0 has(0,30)=0 has(1,30)=2 has(2,30)=3 has(3,30)=4"
            + " has(4,30)=5 has(5,30)=6 has(6,30)=7 has(7,30)=1");
        // The list goes by birthdays, not by numbers, but only those of the day change on it.
        Script.on("c0,11,0;c0,10,0;c3,50,0;r1,1;r1,1;r1,1;", "has(1,10)=0 has(0,10)=1 has(0,11)=2 has(2,11)=1 has(1,11)=0");
        // What one changed, the next one of the same day finds changed.
        Script.on("c0,10,0;c3,10,0;c3,40,0;r9,9;r0,0;r5,5;", "has(0,10)=1 has(1,10)=0 has(2,10)=2");
        Script.on("c0,10,0;c3,10,0;c3,9,0;r0,0;r9,9;r5,5;", "has(0,10)=1 has(1,10)=2 has(2,10)=0");
    }

    private static void leapYears() {
        Script.sentence("a LEAP one so, but only in YEARS 0, 4, 8, ..");
        Script.on("c1,10,0;c3,20,0;r1,1;r1,1;", "has(0,9)=0 has(0,10)=1 has(0,70)=1 has(0,120)=1"
            + " pass(120)=120 has(0,10)=1 has(0,70)=1"
            + " pass(120)=240 has(0,9)=1 has(0,10)=0 has(0,70)=0 has(0,120)=0"
            + " pass(120)=360 has(0,10)=0 has(0,70)=0"
            + " pass(120)=480 has(0,9)=0 has(0,10)=1 has(0,70)=1");
        Script.on("c1,0,0;c3,20,0;r1,1;r1,1;", "has(0,0)=1 has(0,60)=1 has(0,120)=1 pass(120)=120 pass(119)=239"
            + " has(0,0)=1 has(0,1)=0 has(0,61)=0");
        Script.on("c1,59,0;c3,20,0;r1,1;r1,1;", "has(0,58)=0 has(0,59)=1 has(0,119)=1 pass(120)=120 pass(119)=239"
            + " has(0,0)=1 has(0,59)=1 has(0,60)=0 has(0,120)=0");
    }

    private static void lastLeapYears() {
        Script.sentence("YEARS 0, 4, 8, .. : 164 is the last that begins by DAY 9999, and what is asked goes on to 168");
        Script.on("c1,10,0;c3,20,0;r1,1;r1,1;", "").times(82, "pass(120)").run("count(1)=9840 cousin(0,3)=1 has(0,9)=1"
            + " has(0,10)=0 has(0,70)=0 pass(120)=9960 cousin(0,3)=0 pass(39)=9999 has(0,11)=0 has(0,90)=0 has(0,91)=1 has(0,120)=1");
    }

    private static void twins() {
        Script.sentence("a TWIN with the next one but one");
        Script.on("c2,10,0;c3,20,0;c3,30,0;r1,1;r1,1;r1,1;", "has(0,9)=0 has(0,10)=2 has(1,10)=1 has(2,10)=0");
        Script.on("c2,10,0;c3,10,0;c3,10,0;c3,10,0;r1,1;r1,1;r1,1;r1,1;", "has(0,10)=2 has(1,10)=1 has(2,10)=0 has(3,10)=3");
        Script.on("c2,10,0;c2,10,0;c2,10,0;r1,1;r1,1;r1,1;", "has(0,10)=1 has(1,10)=0 has(2,10)=2");
        // He changes each year, however little sun there is.
        Script.on("c2,10,0;c3,20,0;c2,30,0;r9,9;r0,0;r0,0;", "has(0,10)=2 has(0,29)=2");
    }

    private static void homely() {
        Script.sentence("a HOMELY one with the next one, if that one's ROOM has more SUN on that DAY than his");
        Script.on("c3,10,0;c2,40,0;r4,9;r5,0;", "has(0,9)=0 has(0,10)=1 has(1,10)=0");
        Script.on("c3,10,0;c2,40,0;r5,0;r5,9;", "has(0,10)=0");
        Script.on("c3,10,0;c2,40,0;r5,0;r4,9;", "has(0,10)=0");
        Script.on("c3,10,0;c2,40,0;r0,0;r9,9;", "has(0,10)=1");
        Script.on("c3,10,0;c2,40,0;r0,0;r0,9;", "has(0,10)=0");
        Script.on("c3,40,0;c2,10,0;r0,0;r0,1;", "has(0,39)=0 has(0,40)=1");
        Script.on("c3,40,0;c2,10,0;r0,1;r9,1;", "has(0,40)=0");
    }

    private static void withHimself() {
        Script.sentence("(Who would change with himself does not.)");
        for (int kind = 0; kind <= 3; kind++) {
            Script.on("c" + kind + ",10,5;r3,7;", "has(0,10)=0 whose(0,10)=0 has(0,70)=0 sun(0,60)=300 cold(10)=1 pass(11)=11"
                + " cousin(0,3)=0 room(0,2)=0 canHave(0,10)=1 round()=240");
        }
        Script.on("c2,10,0;c2,10,0;r1,1;r9,9;", "has(0,10)=0 has(1,10)=1 has(0,120)=0 pass(11)=11 cousin(0,3)=0 cousin(1,3)=1");
    }

    private static void cold() {
        Script.sentence("COLD is who has a ROOM with less SUN on the DAY than he WANTS, behind all that changed on it");
        Script.on("c0,0,0;r0,0;", "cold(0)=0 cold(30)=0 want(120)=0");
        Script.on("c0,0,1;r0,1;", "cold(0)=1 cold(30)=0");
        Script.on("c0,0,9;r8,9;", "cold(0)=1 cold(29)=1 cold(30)=0");
        Script.on("c0,0,9;r9,8;", "cold(0)=0 cold(29)=0 cold(30)=1");
        Script.on("c0,5,5;c2,20,5;r5,5;r4,4;", "cold(4)=2 cold(5)=1 cold(64)=1 cold(65)=2 want(5)=5 want(6)=6");
        Script.on("c0,0,5;c2,20,0;r5,5;r4,4;", "cold(0)=1 cold(59)=1 cold(60)=0 want(1)=1 want(60)=60 want(61)=60");
        Script.sentence("COLD on the DAY d DAYS from now (bits)");
        Script.on("c3,0,9;".repeat(8) + "r0,0;".repeat(8), "cold(0)=255 cold(120)=255 want(1)=8 want(120)=960 cold(121)=BAD"
            + " cold(-1)=BAD");
        Script.on("c3,0,0;".repeat(7) + "c3,0,1;" + "r0,0;".repeat(8), "cold(0)=128 want(1)=1");
        Script.on("c3,0,1;" + "c3,0,0;".repeat(7) + "r0,0;".repeat(8), "cold(0)=1 want(1)=1");
    }

    private static void daysGoBy() {
        Script.sentence("DAYS go by, the next one is DAY t, first 0");
        Script.on("c0,0,0;c2,9,0;r1,1;r1,1;", "count(1)=0 cousin(0,3)=0 has(0,0)=1 pass(1)=1 cousin(0,3)=1 has(0,0)=1 count(1)=1");
        Script.on(ONE_MOVES, "pass(10)=10 cousin(0,3)=0 has(0,0)=1 pass(1)=11 cousin(0,3)=1");
        Script.sentence("n (1 to 120) DAYS go by: which is the next one");
        Script.on("", "pass(0)=BAD pass(-1)=BAD pass(121)=BAD count(1)=0 pass(1)=1 pass(120)=121");
        Script.on(ONE_MOVES, "pass(120)=120 cousin(0,3)=0 undo()=0 pass(70)=70 cousin(0,3)=1 pass(1)=71 cousin(0,3)=0");
    }

    private static void lastDay() {
        Script.sentence("NO: above 9999");
        Script.on("", "").times(83, "pass(120)").run("count(1)=9960 pass(40)=NO count(1)=9960 pass(39)=9999 pass(1)=NO pass(120)=NO"
            + " count(1)=9999 undo()=7 count(1)=9960 pass(40)=NO pass(38)=9998 pass(2)=NO pass(1)=9999 pass(1)=NO");
        // What is asked from now on may lie behind it: day 9999 is day 39 of its year, so 21 days on a new one begins.
        Script.on("c0,40,0;c2,0,0;r1,1;r1,1;", "").times(83, "pass(120)").run("pass(39)=9999 cousin(0,3)=0 has(0,0)=0 has(0,1)=1"
            + " has(0,60)=1 has(0,61)=0 has(0,120)=0 sun(0,120)=120 next(1)=1 round()=240");
    }

    private static void undone() {
        Script.sentence("UNDONE is the latest of these (the last 8 can be)");
        new Script().run("undo()=NO count(3)=0 undo()=NO");
        Script eight = new Script().times(8, "pass(1)").run("count(1)=8 count(3)=8");
        for (int left = 7; left >= 0; left--) {
            eight.run("undo()=" + left + " count(1)=" + left + " count(3)=" + left);
        }
        eight.run("undo()=NO count(1)=0");
        Script nine = new Script().times(9, "pass(1)").run("count(1)=9 count(3)=8");
        for (int left = 7; left >= 0; left--) {
            nine.run("undo()=" + left + " count(1)=" + (left + 1));
        }
        nine.run("undo()=NO count(1)=1 count(3)=0");
        new Script().times(30, "pass(1)").run("count(3)=8").times(8, "undo()").run("count(1)=22 undo()=NO");
        Script.sentence("UNDONE and done again");
        new Script().times(9, "pass(1)").run("undo()=7 pass(2)=10 count(3)=8 undo()=7 count(1)=8").times(7, "undo()")
            .run("undo()=NO count(1)=1");
        new Script().run("pass(1)=1 undo()=0 undo()=NO swap(0,1)=1 undo()=0 cousin(0,3)=0");
        Script.sentence("UNDONE are days, swaps and birthdays alone");
        new Script().run("swap(0,5)=5 alter(5,0)=30 pass(6)=6 count(3)=3 undo()=2 count(1)=0 cousin(0,3)=5 undo()=1 cousin(5,1)=30"
            + " cousin(5,3)=0 undo()=0 cousin(0,3)=0 cousin(5,3)=5 undo()=NO");
        new Script().run("write(99)=1 seen(0,0,0)=1 keep()=1 forget()=1 wipe()=1 lay()=NO count(3)=0 undo()=NO count(4)=1");
        new Script().run("swap(0,0)=BAD alter(0,60)=BAD pass(0)=BAD pass(121)=BAD swap(0,6)=BAD count(3)=0 undo()=NO");
        new Script().run("swap(0,1)=1 seen(0,0,0)=1 write(99)=1 keep()=1 undo()=0 count(2)=1 count(4)=1 count(5)=1 cousin(0,3)=0");
    }

    private static void altered() {
        Script.sentence("a BIRTHDAY is altered (THE LIST as well)");
        new Script().run("alter(0,59)=5 cousin(0,1)=59 cousin(0,4)=5 cousin(1,4)=0 cousin(4,4)=4 alter(0,0)=59 cousin(0,4)=0"
            + " cousin(1,4)=1 alter(0,60)=BAD alter(0,-1)=BAD cousin(0,1)=0 undo()=1 cousin(0,4)=5 undo()=0 cousin(0,1)=5 cousin(0,4)=0");
        new Script().run("alter(0,5)=5 count(3)=1 cousin(0,1)=5 undo()=0 cousin(0,1)=5 undo()=NO");
        // Alike ones by the alteration: the lowest first.
        new Script().run("alter(5,5)=30 cousin(0,4)=0 cousin(5,4)=1 alter(0,44)=5 cousin(5,4)=0 cousin(0,4)=3 cousin(3,4)=4");
        // Who is next changes with the list, from the next day on.
        Script.on("c0,10,0;c3,20,0;c3,30,0;r1,1;r1,1;r1,1;", "has(0,10)=1 alter(1,9)=20 has(0,10)=2 has(1,10)=1 alter(2,8)=30"
            + " has(0,10)=2 alter(0,0)=10 has(0,0)=2 pass(1)=1 cousin(0,3)=2 alter(0,1)=0 has(0,0)=0");
    }

    // ---- 3

    private static void has() {
        Script.sentence("HAS: the ROOM that a COUSIN has behind the DAY d (0 to 120) DAYS from now (0: the next one)");
        Script.on("c0,0,0;c2,9,0;r1,1;r1,1;", "has(0,0)=1 has(0,120)=1 has(0,121)=BAD has(0,-1)=BAD has(1,0)=0 has(2,0)=BAD");
        Script.on("c0,0,0;c2,9,0;r1,1;r1,1;", "pass(1)=1 has(0,0)=1 has(0,58)=1 has(0,59)=0 has(0,118)=0 has(0,119)=1 has(0,120)=1");
        Script.sentence("whose a ROOM is then");
        Script.on("c0,0,0;c2,9,0;r1,1;r1,1;", "whose(0,0)=1 whose(1,0)=0 whose(0,59)=1 whose(0,60)=0 whose(0,120)=1 whose(0,121)=BAD"
            + " whose(0,-1)=BAD whose(2,0)=BAD room(0,2)=0 count(1)=0");
    }

    private static void sun() {
        Script.sentence("SUN of a COUSIN on the next n (1 to 120) DAYS together (behind each DAY's changes)");
        Script.on("c0,0,0;c3,9,0;r9,9;r1,1;", "sun(0,0)=BAD sun(0,1)=1 sun(1,1)=9 sun(0,60)=60 sun(0,61)=69 sun(0,69)=141"
            + " sun(0,70)=142 sun(0,120)=192 sun(0,121)=BAD sun(1,60)=540 sun(2,1)=BAD");
        Script.on("c0,0,0;r0,0;", "sun(0,1)=0 sun(0,120)=0");
        Script.on("c0,0,0;r9,9;", "sun(0,1)=9 sun(0,120)=1080");
    }

    private static void want() {
        Script.sentence("WANT: how many COLD ones on the next n DAYS together");
        Script.on("c0,0,5;r5,4;", "want(0)=BAD want(1)=0 want(30)=0 want(31)=1 want(60)=30 want(90)=30 want(91)=31 want(120)=60"
            + " want(121)=BAD pass(29)=29 want(1)=0 want(2)=1 pass(30)=59 want(1)=1 want(2)=1 want(120)=60");
        Script.on("c3,0,1;c3,0,9;r0,8;r8,0;", "want(1)=2");
    }

    private static void swaps() {
        Script.sentence("SWAPS for a COUSIN and n (1 to 60) DAYS: of no swap, one, two swaps now");
        String house = "c0,0,0;c3,9,0;r9,9;r1,1;";
        Script.on(house, "swaps(0,60,0)=132 swaps(0,60,1)=1 swaps(0,60,2)=NONE swaps(0,1,0)=9 swaps(0,1,1)=1 swaps(0,1,2)=NONE"
            + " swaps(1,60,0)=540 swaps(1,60,1)=NONE swaps(1,60,2)=NONE");
        Script.on(house, "swaps(0,0,0)=BAD swaps(0,61,0)=BAD swaps(2,1,0)=BAD swaps(-1,1,0)=BAD swaps(0,1,-1)=BAD swaps(0,1,3)=BAD"
            + " swaps(0,0,1)=BAD swaps(0,61,2)=BAD cousin(0,3)=0 count(3)=0");
        Script.on("c0,59,9;r5,6;", "swaps(0,1,0)=5 swaps(0,60,0)=330 swaps(0,60,1)=NONE swaps(0,60,2)=NONE");
        Script.sentence("the k-th as 8 times the lower and the higher; none");
        String still = "c3,40,0;c3,41,0;c3,42,0;c3,43,0;c3,44,0;c3,45,0;c3,46,0;c3,47,0;";
        Script.on(still + "r0,0;r0,0;r0,0;r0,0;r0,0;r0,0;r9,9;r0,0;", "swaps(7,1,0)=9 swaps(7,1,1)=55 swaps(7,1,2)=NONE"
            + " swaps(0,1,1)=6 swaps(5,1,1)=46 swaps(6,1,0)=9 swaps(6,1,1)=NONE");
        Script.on(still + "r9,9;r0,0;r0,0;r0,0;r0,0;r0,0;r0,0;r0,0;", "swaps(7,1,1)=7 swaps(1,1,1)=1 swaps(0,1,1)=NONE");
        Script.sentence("two swaps (the second behind the first)");
        // Homely 5 takes 6's room on day 0 if it has more sun than his: 6 keeps 9 only if 5 has 9 as well.
        Script.on("c3,40,0;c3,41,0;c3,42,0;c3,43,0;c3,44,0;c3,0,0;c3,1,0;c3,47,0;"
            + "r0,0;r0,0;r0,0;r0,0;r9,9;r1,1;r5,5;r9,9;", "swaps(6,1,0)=9 swaps(6,1,1)=37 swaps(6,1,2)=55");
    }

    private static void swapsFromNowOn() {
        Script.sentence("From now on: swaps of those who have other rooms than at first");
        Script.on("c3,40,0;c3,41,0;c3,42,0;r9,9;r0,0;r5,5;", "swap(0,1)=1 swap(0,2)=2 swaps(0,1,0)=9 swaps(0,1,1)=1 swaps(0,1,2)=NONE"
            + " swaps(1,1,0)=9 swaps(1,1,1)=NONE swaps(2,1,0)=9 swaps(2,1,1)=10 canHave(0,0)=7 cousin(0,3)=2 cousin(1,3)=0");
        Script.on("c3,40,9;c3,41,0;c3,42,0;r9,9;r0,0;r5,5;", "warm(1,1)=NONE swap(0,1)=1 warm(1,0)=0 warm(1,1)=1 swap(1,2)=2 warm(1,1)=2");
        Script.on("c3,50,0;c3,51,0;r9,0;r0,9;", "pass(30)=30 swaps(0,1,0)=9 swaps(0,1,1)=1 swaps(1,1,1)=NONE");
    }

    private static void swapsOfSeveral() {
        Script.sentence("of several the fewest, then the first (by the first swap's two, then the second's)");
        Script.on("c3,40,0;c3,41,0;c3,42,0;r9,9;r9,9;r9,9;", "swaps(0,60,0)=540 swaps(0,60,1)=NONE swaps(0,60,2)=NONE"
            + " swaps(2,60,1)=NONE");
        Script.on("c3,40,0;c3,41,0;c3,42,0;r0,0;r9,9;r9,9;", "swaps(0,1,0)=9 swaps(0,1,1)=1 swaps(0,1,2)=NONE");
        Script.on("c3,40,0;c3,41,0;c3,42,0;r9,9;r9,9;r0,0;", "swaps(2,1,0)=9 swaps(2,1,1)=2 swaps(2,1,2)=NONE");
        // 0 and 1 must both have 9: by 0 with 2 and 1 with 3, or 0 with 3 and 1 with 2, in either order.
        Script.on("c3,0,0;c3,1,0;c3,40,0;c3,50,0;r1,1;r5,5;r9,9;r9,9;", "swaps(1,1,0)=9 swaps(1,1,1)=2 swaps(1,1,2)=11");
        // On day 1 homely 0 takes 1's room if it is sunnier: 1 should have 5 and 0 have 3, which moves all three.
        Script.on("c3,1,0;c3,2,0;c3,2,0;r2,0;r3,0;r5,0;", "swaps(1,2,0)=8 swaps(1,2,1)=1 swaps(1,2,2)=10");
        Script.on("c3,1,0;c3,2,0;c3,2,0;r5,0;r1,0;r3,0;", "swaps(1,2,0)=8 swaps(1,2,1)=1 swaps(1,2,2)=2");
    }

    private static void warm() {
        Script.sentence("WARM for n (1 to 60): of no swap or one that by which WANT is least, no swap ahead of others, then the first");
        Script.on("c0,0,5;r5,4;", "warm(0,0)=BAD warm(1,0)=0 warm(30,0)=0 warm(31,0)=1 warm(60,0)=30 warm(61,0)=BAD warm(60,1)=NONE"
            + " warm(1,2)=BAD warm(1,-1)=BAD");
        String still = "c3,40,0;c3,41,0;c3,42,0;c3,43,0;c3,44,0;c3,45,0;";
        Script.on(still + "c3,46,0;c3,47,9;r0,0;r0,0;r0,0;r0,0;r0,0;r0,0;r9,9;r0,0;", "warm(1,0)=0 warm(1,1)=55 cold(0)=128");
        Script.on(still + "c3,46,0;c3,47,9;r9,9;r0,0;r0,0;r0,0;r0,0;r0,0;r0,0;r0,0;", "warm(1,0)=0 warm(1,1)=7");
        Script.on("c3,40,9;c3,41,0;c3,42,0;r0,0;r9,9;r9,9;", "warm(1,0)=0 warm(1,1)=1");
        Script.on("c3,40,9;c3,41,9;c3,42,9;r8,8;r8,8;r8,8;", "warm(60,0)=180 warm(60,1)=NONE warm(1,0)=3");
        Script.on("c3,40,0;c3,41,0;r0,0;r9,9;", "warm(39,0)=0 warm(39,1)=NONE");
        // One swap alone: two cold ones who would need two swaps stay one cold.
        Script.on("c3,40,9;c3,41,9;c3,42,0;c3,43,0;r0,0;r0,0;r9,9;r9,9;", "warm(1,0)=1 warm(1,1)=2");
    }

    private static void canHave() {
        Script.sentence("CAN HAVE a ROOM on the DAY d DAYS from now: COUSINS (bits) who do, or would by one swap now");
        Script.on("c3,0,0;r0,0;", "canHave(0,0)=1 canHave(0,120)=1 canHave(0,121)=BAD canHave(0,-1)=BAD canHave(1,0)=BAD");
        Script.on("c3,0,0;".repeat(8) + "r0,0;".repeat(8), "canHave(0,0)=255 canHave(7,120)=255 canHave(8,0)=BAD");
        // Homely 0 takes the sun from 1, whoever else has it keeps it.
        Script.on("c3,0,0;c0,10,0;c0,20,0;r0,0;r9,9;r0,0;", "canHave(1,0)=5");
        Script.on("c3,1,0;c3,0,0;c3,40,0;r0,0;r0,0;r9,9;", "canHave(2,0)=6 canHave(2,1)=3 cousin(2,3)=2 count(3)=0");
    }

    private static void round() {
        Script.sentence("ROUND: behind how many DAYS (1 to 960) all have ROOMS as now, on the same DAY of a YEAR that leaves as"
            + " much by 4; none");
        Script.on("c3,0,0;r0,0;", "round()=240 pass(1)=1 round()=240");
        Script.on(ONE_MOVES, "round()=240");
        Script.on("c1,10,0;c2,20,0;r1,1;r2,2;", "round()=480 pass(61)=61 round()=480 swap(0,1)=0 round()=480");
        Script.on("c1,10,0;c1,20,0;c3,30,0;r1,1;r1,1;r1,1;", "round()=720");
        Script.on("c1,10,0;c1,20,0;c1,30,0;c3,40,0;r1,1;r1,1;r1,1;r1,1;", "round()=960 pass(120)=120 round()=960");
        // Five in a ring would come round behind 1200.
        Script.on("c1,10,0;c1,20,0;c1,30,0;c1,40,0;c3,50,0;r1,1;r1,1;r1,1;r1,1;r1,1;", "round()=NONE count(1)=0");
        // All have their rooms again, not the first one alone: 0 keeps his, 1 and 2 change every fourth year.
        Script.on("c3,30,0;c1,10,0;c3,20,0;r1,1;r1,1;r1,1;", "round()=480");
        // The homely one never gives the sunny room back.
        Script.on("c3,0,0;c2,30,0;r0,0;r9,9;", "round()=NONE pass(1)=1 round()=240");
    }

    private static void way() {
        Script.sentence("those in ROOMS between (neither) WANT less together (the way up, if both are alike): as much; 1 if down");
        String five = "c0,0,1;c0,0,2;c0,0,3;c0,0,4;c0,0,5;r0,0;r0,0;r0,0;r0,0;r0,0;";
        Script.on(five, "way(0,2,0)=2 way(0,2,1)=0 way(0,3,0)=5 way(0,3,1)=0 way(1,4,0)=1 way(1,4,1)=1");
        Script.on(five, "way(3,3,0)=0 way(3,3,1)=0 way(0,0,0)=0 way(0,0,1)=0 way(4,4,1)=0 way(0,1,0)=0 way(0,1,1)=0");
        Script.on(five, "way(5,0,0)=BAD way(0,5,0)=BAD way(-1,0,0)=BAD way(0,-1,0)=BAD way(0,0,2)=BAD way(0,0,-1)=BAD");
        Script.on("c0,0,9;r0,0;", "way(0,0,0)=0 way(0,0,1)=0");
        Script.on("c0,0,9;c0,0,9;r0,0;r0,0;", "way(0,1,0)=0 way(0,1,1)=0 way(1,0,0)=0 way(1,0,1)=0");
        // Neither he nor the one he goes to counts: between 9 and 9 there is 1, or 2.
        Script.on("c0,0,9;c0,0,1;c0,0,9;c0,0,2;r0,0;r0,0;r0,0;r0,0;", "way(0,2,0)=1 way(0,2,1)=0 way(2,0,0)=1 way(2,0,1)=1");
        // Where nobody wants anything, both ways are alike, even to the next one down.
        Script.on("c0,0,0;c0,0,0;c0,0,0;r0,0;r0,0;r0,0;", "way(0,2,0)=0 way(0,2,1)=0 way(2,0,1)=0 way(1,0,1)=0");
    }

    private static void wayRound() {
        Script.sentence("ROOMS lie in a ring by number");
        String five = "c0,0,1;c0,0,2;c0,0,3;c0,0,4;c0,0,5;r0,0;r0,0;r0,0;r0,0;r0,0;";
        Script.on(five, "way(4,0,0)=0 way(4,0,1)=0 way(0,4,0)=0 way(0,4,1)=1 way(4,1,0)=1 way(4,1,1)=0 way(3,0,0)=5 way(3,0,1)=0");
        Script.on("c0,0,1;".repeat(8) + "r0,0;".repeat(8), "way(7,0,0)=0 way(7,0,1)=0 way(0,7,0)=0 way(0,7,1)=1 way(7,3,0)=3"
            + " way(7,3,1)=0 way(7,4,0)=2 way(7,4,1)=1 way(7,2,0)=2 way(7,2,1)=0 way(0,4,0)=3 way(0,4,1)=0");
        // From the room that he has now, past those who have the others now.
        Script.on(five, "swap(0,2)=2 way(0,0,0)=2 way(0,0,1)=1 way(2,2,0)=2 way(2,2,1)=0 way(1,3,0)=1 way(1,3,1)=0");
    }

    // ---- 4

    private static void seen() {
        Script.sentence("SEEN (8 at most) is that a COUSIN had a ROOM behind DAY d (0 to 120)");
        Script.on(ONE_MOVES, "forget()=0 count(2)=0 seen(0,0,0)=1 seen(1,1,0)=2 seen(0,0,120)=3 seen(0,0,120)=4 seen(0,0,9)=5"
            + " seen(0,1,10)=6 seen(0,1,69)=7 seen(0,0,70)=8 seen(0,0,71)=FULL count(2)=8 register(0,0)=1 register(0,1)=10"
            + " forget()=8 count(2)=0 forget()=0 register(0,0)=60 seen(0,0,0)=1");
        Script.on(ONE_MOVES, "seen(0,0,121)=BAD seen(0,0,-1)=BAD seen(2,0,0)=BAD seen(0,2,0)=BAD seen(-1,0,0)=BAD count(2)=0");
        // The ninth is not held: what is so by the eight stays so.
        Script.on(ONE_MOVES, "").times(8, "seen(0,0,0)").run("register(0,0)=59 seen(0,1,0)=FULL register(0,0)=59 forget()=8"
            + " seen(0,1,0)=1 register(0,0)=1");
    }

    private static void seenAsTheTextTells() {
        Script.sentence("SEEN .. counted from the first, as the TEXT tells, nothing done");
        Script.on(ONE_MOVES, "pass(30)=30 swap(0,1)=0 alter(0,40)=10 alter(1,3)=20 seen(0,0,9)=1 seen(0,1,10)=2 register(0,0)=1"
            + " register(0,1)=10 register(1,0)=60 register(1,1)=0 cousin(0,1)=40");
        Script.on(ONE_MOVES, "seen(0,1,10)=1 register(0,0)=11 pass(120)=120 keep()=1 register(0,0)=11 back()=0 register(0,0)=11"
            + " undo()=NO count(2)=1");
        // Letters that are written but not laid tell nothing yet.
        Script.on(ONE_MOVES, "seen(0,1,10)=1").type("c0,40,0;c2,0,0;r1,1;r1,1;").run("register(1,0)=60 lay()=2 count(2)=0"
            + " seen(0,1,10)=1 register(1,0)=0 register(1,1)=NONE");
    }

    private static void register() {
        Script.sentence("REGISTER of a COUSIN: BIRTHDAYS (0 to 59) by which, were one of them his, all that was SEEN would be so");
        Script.on(ONE_MOVES, "register(0,0)=60 register(0,1)=0 register(1,0)=60 register(1,1)=0");
        Script.on(ONE_MOVES, "seen(0,1,0)=1 register(0,0)=1 register(0,1)=0");
        Script.on(ONE_MOVES, "seen(0,0,0)=1 register(0,0)=59 register(0,1)=1");
        Script.on(ONE_MOVES, "seen(0,0,58)=1 register(0,0)=1 register(0,1)=59 seen(0,1,59)=2 register(0,0)=1 register(0,1)=59");
        Script.on(ONE_MOVES, "seen(0,1,58)=1 register(0,0)=59 register(0,1)=0");
        Script.on(ONE_MOVES, "seen(0,1,59)=1 register(0,0)=60 register(0,1)=0");
        Script.on(ONE_MOVES, "seen(0,1,119)=1 register(0,0)=0 register(0,1)=NONE");
        Script.on(ONE_MOVES, "seen(0,1,120)=1 register(0,0)=1 register(0,1)=0");
        Script.on(ONE_MOVES, "seen(0,0,120)=1 register(0,0)=59 register(0,1)=1");
        // The other's birthday is as told.
        Script.on(ONE_MOVES, "seen(0,1,10)=1 register(1,0)=60 seen(1,1,9)=2 register(1,0)=60 seen(0,1,9)=3 register(1,0)=0"
            + " register(1,1)=NONE");
        // Two that cannot both be, in either order.
        Script.on(ONE_MOVES, "seen(0,0,5)=1 seen(0,1,5)=2 register(0,0)=0 register(0,1)=NONE");
        Script.on(ONE_MOVES, "seen(0,1,12)=1 seen(0,0,7)=2 register(0,0)=5 register(0,1)=8");
        // In whichever order it is told: 0 and 1 change on a day from 9 to 11.
        String three = "c0,10,0;c0,20,0;c0,30,0;r0,0;r0,0;r0,0;";
        Script.on(three, "seen(2,2,15)=1 seen(1,0,12)=2 seen(0,1,11)=3 seen(0,0,8)=4 register(0,0)=3 register(0,1)=9");
        Script.on(three, "seen(0,0,8)=1 seen(0,1,11)=2 seen(1,0,12)=3 seen(2,2,15)=4 register(0,0)=3 register(0,1)=9");
        Script.on(three, "seen(0,1,11)=1 seen(2,2,15)=2 seen(0,0,8)=3 seen(1,0,12)=4 register(0,0)=3 register(0,1)=9");
        Script.on("c1,5,5;r0,0;", "seen(0,0,0)=1 seen(0,0,120)=2 register(0,0)=60 register(0,1)=0");
        Script.on(ONE_MOVES, "register(2,0)=BAD register(-1,0)=BAD register(0,2)=BAD register(0,-1)=BAD");
    }

    private static void foundling() {
        Script.sentence("FOUNDLING: .. any of the 60 alike likely, how likely he has a ROOM .., in lowest terms");
        Script.on(ONE_MOVES, "foundling(0,1,0,0)=1 foundling(0,1,0,1)=60 foundling(0,0,0,0)=59 foundling(0,0,0,1)=60");
        Script.on(ONE_MOVES, "foundling(0,1,1,0)=1 foundling(0,1,1,1)=30 foundling(0,1,29,0)=1 foundling(0,1,29,1)=2");
        Script.on(ONE_MOVES, "foundling(0,1,44,0)=3 foundling(0,1,44,1)=4 foundling(0,1,47,0)=4 foundling(0,1,47,1)=5");
        Script.on(ONE_MOVES, "foundling(0,1,58,0)=59 foundling(0,1,58,1)=60 foundling(0,1,59,0)=1 foundling(0,1,59,1)=1");
        Script.on(ONE_MOVES, "foundling(0,0,59,0)=0 foundling(0,0,59,1)=1 foundling(0,1,119,0)=0 foundling(0,1,119,1)=1");
        Script.on(ONE_MOVES, "foundling(0,1,120,0)=1 foundling(0,1,120,1)=60 foundling(0,0,120,0)=59 foundling(0,0,120,1)=60");
        Script.on(ONE_MOVES, "foundling(0,0,121,0)=BAD foundling(0,0,-1,0)=BAD foundling(0,0,0,2)=BAD foundling(0,0,0,-1)=BAD"
            + " foundling(2,0,0,0)=BAD foundling(0,2,0,0)=BAD cousin(0,1)=10 count(3)=0");
        Script.on("c0,10,0;r0,0;", "foundling(0,0,0,0)=1 foundling(0,0,0,1)=1 foundling(0,0,120,0)=1 foundling(0,0,120,1)=1");
        // From now on: by day 59 he has room 1, and those days that went by are as they were.
        Script.on(ONE_MOVES, "pass(59)=59 foundling(0,1,0,0)=59 foundling(0,1,0,1)=60 foundling(0,0,0,0)=1 foundling(0,0,1,0)=1"
            + " foundling(0,0,1,1)=30");
    }

    private static void loses() {
        Script.sentence("LOSES: who has least SUN on the next 60 DAYS, of several the lowest; as much");
        Script.on("c0,59,0;c2,30,0;r1,1;r2,2;", "loses(0)=0 loses(1)=61 pass(60)=60 loses(0)=1 loses(1)=61");
        Script.on("c3,0,0;c3,1,0;c3,2,0;r1,1;r1,1;r1,1;", "loses(0)=0 loses(1)=60");
        Script.on("c2,30,0;c2,30,0;r9,0;r0,9;", "loses(0)=0 loses(1)=270");
        Script.on("c1,0,0;".repeat(8) + "r9,9;r9,9;r9,9;r9,9;r9,9;r9,9;r9,9;r0,0;", "pass(1) loses(0)=6 loses(1)=0");
        Script.on("c0,0,0;r0,0;", "loses(0)=0 loses(1)=0 loses(2)=BAD loses(-1)=BAD");
        Script.on("c0,0,0;r9,9;", "loses(0)=0 loses(1)=540");
    }

    private static void next() {
        Script.sentence("NEXT: whose BIRTHDAY comes next (the next DAY ahead), of several the first in THE LIST; behind how many DAYS");
        Script.on("c0,0,0;r1,1;", "next(0)=0 next(1)=0 pass(1)=1 next(0)=0 next(1)=59 pass(58)=59 next(1)=1 pass(1)=60 next(1)=0");
        Script.on("c0,59,0;r1,1;", "next(1)=59 pass(59)=59 next(1)=0 pass(1)=60 next(1)=59");
        Script.on("c0,20,0;c0,20,0;c0,10,0;r1,1;r1,1;r1,1;", "next(0)=2 next(1)=10 pass(11)=11 next(0)=0 next(1)=9 pass(9)=20"
            + " next(0)=0 next(1)=0 pass(1)=21 next(0)=2 next(1)=49");
        Script.on("c0,30,0;".repeat(8) + "r1,1;".repeat(8), "next(0)=0 next(1)=30 alter(7,29)=30 next(0)=7 next(1)=29 alter(0,31)=30"
            + " pass(30)=30 next(0)=1 next(1)=0 next(2)=BAD next(-1)=BAD");
        // A leap one's birthday comes each year, though he changes in few.
        Script.on("c1,5,0;c0,50,0;r1,1;r1,1;", "pass(60)=60 next(0)=0 next(1)=5");
    }

    private static void year() {
        Script.sentence("A YEAR by z (0 to 9999) of n (1 to 120) DAYS from now on");
        Script.on("", "year(-1,1,0)=BAD year(10000,1,0)=BAD year(0,0,0)=BAD year(0,121,0)=BAD year(0,1,-1)=BAD year(0,1,2)=BAD");
        Script.on("c3,0,9;r9,8;", "year(0,1,0)=0 year(0,30,0)=0 year(0,31,0)=1 year(9999,60,0)=30 year(9999,120,0)=60 year(0,120,1)=0"
            + " year(9999,120,1)=0 pass(30)=30 year(0,1,0)=1 count(1)=30");
        // By z = 0 DRAW is 0 on the first day: 0 with himself, and so no swap.
        Script.on("c3,0,9;c3,10,0;r0,0;r9,9;", "year(0,1,1)=1 alter(0,50)=0 year(0,1,1)=0 year(0,1,0)=1");
        Script.on("", "year(0,1,0)=4 year(0,1,1)=0 year(0,120,0)=285 year(0,120,1)=5 year(9999,1,0)=5 year(9999,1,1)=0"
            + " year(9999,120,0)=245 year(9999,120,1)=3 count(1)=0 count(3)=0 cousin(0,3)=0");
    }

    private static void draws() {
        Script.sentence("COUSIN DRAW modulo as many and (DRAW by 8, cut) modulo as many, if they are unlike and (DRAW by 64, cut)"
            + " is parted by 5");
        String still = "c3,40,0;c3,41,0;c3,42,0;c3,43,0;c3,44,0;c3,45,0;c3,46,0;c3,47,0;";
        // By z the first DRAW is: 7 29488 (0 and 6, 460); 37 14744 (0 and 3, 230); 36 14723 (3 and 0, 230);
        // 10 1504 (0 and 4, but 23); 6 9064 (0 and 5, but 141); 21 31076 (4 and 4).
        Script.on(still + "r1,1;".repeat(8), "year(7,1,1)=6 year(37,1,1)=3 year(36,1,1)=3 year(10,1,1)=0 year(6,1,1)=0 year(21,1,1)=0");
        // Of two cousins 29488 and 3686 are both 0; 14744 and 1843 are 0 and 1.
        Script.on("c2,40,0;c2,41,0;r1,1;r1,1;", "year(7,1,1)=0 year(37,1,1)=1 year(36,1,1)=1");
        // By 9999 the first DRAW is 25651 (3 and 6, 400): 3 loses his sun.
        String threeWants = still.replace("c3,43,0;", "c3,43,9;");
        Script.on(threeWants + "r0,0;r0,0;r0,0;r9,9;r0,0;r0,0;r0,0;r0,0;", "cold(0)=0 year(9999,1,0)=1");
        // By 0 the second DRAW is 20743 (7 and 0, but 324), the third 5149 (5 and 3, 80).
        String fiveWants = still.replace("c3,45,0;", "c3,45,9;");
        Script.on(fiveWants + "r0,0;r0,0;r0,0;r0,0;r0,0;r9,9;r0,0;r0,0;", "year(0,1,0)=0 year(0,2,0)=0 year(0,3,0)=1");
        // The draws are those of the days from now on, whichever day it is.
        Script.on(still + "r1,1;".repeat(8), "pass(33)=33 year(7,1,1)=6 year(10,1,1)=0");
        Script.sentence("ahead of each two swap ROOMS: those whose BIRTHDAY it is change behind that");
        // 0 and 3 swap (37), then plain 0 changes with the next one in the list, who is 1.
        Script.on("c0,0,0;c3,41,0;c3,42,0;c3,43,0;c3,44,0;c3,45,0;c3,46,0;c3,47,0;" + "r1,1;".repeat(8), "year(37,1,1)=3 year(10,1,1)=1");
        // 0 and 6 swap (7), and 6, who has room 0 then, changes with the next one, 7.
        Script.on("c3,40,0;c3,41,0;c3,42,0;c3,43,0;c3,44,0;c3,45,0;c0,0,0;c3,1,0;" + "r1,1;".repeat(8), "year(7,1,1)=7");
    }

    private static void kept() {
        Script.sentence("KEPT are DAYS, ROOMS, BIRTHDAYS: 2 at most");
        new Script().run("count(4)=0 back()=NO keep()=1 keep()=2 keep()=FULL count(4)=2 back()=1 keep()=2 back()=1 back()=0 back()=NO"
            + " count(4)=0 keep()=1");
        new Script().run("pass(6)=6 keep()=1 swap(2,3)=3 alter(4,9)=52 keep()=2 pass(60)=66 swap(2,3) alter(4,1)=9 back()=1 count(1)=6"
            + " cousin(0,3)=1 cousin(2,3)=3 cousin(4,1)=9 cousin(4,4)=1 back()=0 count(1)=6 cousin(2,3)=2 cousin(4,1)=52");
        Script.sentence("back: As KEPT last: how many are left; nothing is UNDONE then");
        new Script().run("pass(6)=6 keep()=1 swap(0,1) count(3)=2 back()=0 count(3)=0 undo()=NO count(1)=6 swap(0,1) undo()=0 undo()=NO");
        new Script().run("pass(6)=6 keep()=1 back()=0 count(3)=0 undo()=NO count(1)=6");
        new Script().run("swap(0,1)=1 back()=NO count(3)=1 undo()=0 cousin(0,3)=0");
        // What is seen and written is not kept, and so stays.
        new Script().run("seen(0,0,0)=1 write(99)=1 keep()=1 forget()=1 write(48)=2 back()=0 count(2)=0 count(5)=2");
        new Script().run("keep()=1 seen(0,0,0)=1 wipe()=0 write(99)=1 back()=0 count(2)=1 count(5)=1");
        // A keeping is not changed by what is done behind it, nor undone.
        new Script().run("swap(0,1)=1 keep()=1 undo()=0 cousin(0,3)=0 count(4)=1 back()=0 cousin(0,3)=1 undo()=NO");
    }

    private static void counts() {
        Script.sentence("How many: 0 COUSINS, 1 the next DAY, 2 SEEN, 3 that can be UNDONE, 4 KEPT, 5 letters of THE TEXT");
        new Script().run("count(-1)=BAD count(6)=BAD count(0)=6 count(1)=0 count(2)=0 count(3)=0 count(4)=0 count(5)=0");
        new Script().times(9, "pass(1)").times(9, "seen(0,0,0)").times(3, "keep()").times(201, "write(99)")
            .run("count(0)=6 count(1)=9 count(2)=8 count(3)=8 count(4)=2 count(5)=200");
    }
}
