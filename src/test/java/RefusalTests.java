import java.util.ArrayList;
import java.util.List;

/**
 * "BAD: a number is none that is told (COUSINS, ROOMS: such as there are). NO: not as things stand. NONE: there is
 * none. FULL. Of several the first; nothing changes then."
 *
 * Each call with each of its numbers: the last one that is told and the one beyond it, on either side. That nothing
 * changes is seen by a second object on which all was done but what was refused: both must tell the same to the end.
 */
public final class RefusalTests {
    private static final String ONE = "c0,0,0;r0,0;";
    private static final String SIX = "";
    private static final String EIGHT = "c0,5,1;c1,9,2;c2,13,3;c3,17,4;c0,21,5;c1,25,6;c2,29,7;c3,33,8;"
        + "r0,9;r1,8;r2,7;r3,6;r4,5;r5,4;r6,3;r7,2;";

    /** The numbers of each call: how far they go, or C, R for cousins and rooms, such as there are. */
    private static final String[][] CALLS = {
        {"write", "32..126"}, {"wipe"}, {"fault"}, {"lay"},
        {"cousin", "C", "0..4"}, {"room", "R", "0..2"},
        {"pass", "1..120"}, {"alter", "C", "0..59"}, {"undo"},
        {"has", "C", "0..120"}, {"whose", "R", "0..120"}, {"sun", "C", "1..120"}, {"cold", "0..120"}, {"want", "1..120"},
        {"swaps", "C", "1..60", "0..2"}, {"warm", "1..60", "0..1"}, {"canHave", "R", "0..120"}, {"round"},
        {"way", "C", "R", "0..1"},
        {"seen", "C", "R", "0..120"}, {"forget"}, {"register", "C", "0..1"},
        {"foundling", "C", "R", "0..120", "0..1"}, {"loses", "0..1"}, {"next", "0..1"},
        {"year", "0..9999", "1..120", "0..1"}, {"keep"}, {"back"}, {"count", "0..5"},
    };

    private static final String[] ASKING = {
        "fault", "cousin", "room", "has", "whose", "sun", "cold", "want", "swaps", "warm", "canHave", "round", "way",
        "register", "foundling", "loses", "next", "year", "count",
    };

    /** Acts, things kept and seen, and letters, so that a change anywhere shows. */
    private static final String BUSY_SIX = "pass(3)=3 keep()=1 swap(0,5)=5 alter(2,7)=30 pass(40)=43 seen(0,1,5)=1"
        + " keep()=2 swap(3,1) alter(4,11) seen(1,2,20)=2 write(99)=1 write(48)=2";
    private static final String BUSY_EIGHT = "pass(3)=3 keep()=1 swap(0,7)=7 alter(2,7)=13 seen(0,1,5)=1 write(99)=1";
    private static final String BUSY_ONE = "pass(3)=3 keep()=1 alter(0,7)=0 seen(0,0,5)=1 write(99)=1";

    public static void main(String[] args) {
        numbersThatAreTold(ONE);
        numbersThatAreTold(SIX);
        numbersThatAreTold(EIGHT);
        numbersBeyond(ONE, BUSY_ONE);
        numbersBeyond(SIX, BUSY_SIX);
        numbersBeyond(EIGHT, BUSY_EIGHT);
        alike();
        cousinsAndRoomsSuchAsThereAre();
        notAsThingsStand();
        full();
        ofSeveralTheFirst();
        askingChangesNothing();
        Script.end("RefusalTests");
    }

    private static int cousinsOf(String house) {
        return house.isEmpty() ? 6 : (int) house.chars().filter(letter -> letter == 'c').count();
    }

    private static int least(String range) {
        return range.contains("..") ? Integer.parseInt(range.substring(0, range.indexOf('.'))) : 0;
    }

    private static int most(String range, String house) {
        return range.contains("..") ? Integer.parseInt(range.substring(range.lastIndexOf('.') + 1)) : cousinsOf(house) - 1;
    }

    /** Good numbers for a call, but for the k-th, which is this one. */
    private static int[] numbersWith(String[] call, int k, int number) {
        int[] numbers = new int[call.length - 1];
        for (int p = 0; p < numbers.length; p++) {
            numbers[p] = p == k ? number : least(call[p + 1]);
        }
        return numbers;
    }

    private static String told(String name, int[] numbers) {
        StringBuilder told = new StringBuilder(name).append('(');
        for (int p = 0; p < numbers.length; p++) {
            told.append(p == 0 ? "" : ",").append(numbers[p]);
        }
        return told.append(')').toString();
    }

    private static void numbersThatAreTold(String house) {
        Script.sentence("BAD: a number is none that is told; these are told");
        for (String[] call : CALLS) {
            for (int k = 0; k + 1 < call.length; k++) {
                for (int number : new int[] {least(call[k + 1]), most(call[k + 1], house)}) {
                    int[] numbers = numbersWith(call, k, number);
                    int got = Script.on(house, "").call(call[0], numbers);
                    // NONE is the only answer below 0 that a good question can have.
                    if (got < 0 && got != BirthdayRooms.NONE) {
                        Script.fail(told(call[0], numbers) + " answered " + got);
                    }
                }
            }
        }
    }

    private static List<Integer> beyond(int least, int most) {
        List<Integer> numbers = new ArrayList<>(List.of(least - 1, most + 1, Integer.MIN_VALUE, Integer.MAX_VALUE));
        // Numbers that would be good ones, were they cut to eight, sixteen or thirty-one bits.
        if (most < 255) {
            numbers.add(least + 256);
        }
        numbers.add(least + 65536);
        numbers.add(least | Integer.MIN_VALUE);
        return numbers;
    }

    private static void numbersBeyond(String house, String busy) {
        Script.sentence("BAD: a number is none that is told .. nothing changes then");
        for (String[] call : CALLS) {
            if (call.length == 1) {
                continue;
            }
            Script refused = Script.on(house, busy);
            for (int k = 0; k + 1 < call.length; k++) {
                for (int number : beyond(least(call[k + 1]), most(call[k + 1], house))) {
                    refused.run(told(call[0], numbersWith(call, k, number)) + "=BAD");
                }
            }
            sameAsWithout(refused, Script.on(house, busy), call[0]);
        }
    }

    private static void sameAsWithout(Script refused, Script without, String what) {
        String got = refused.drained();
        String want = without.drained();
        if (!got.equals(want)) {
            Script.fail(what + " changed something: behind it\n" + got + "\nwithout it\n" + want);
        }
    }

    /** The call answers so behind these, and changes nothing. */
    private static void refused(String house, String before, String call, String answer) {
        sameAsWithout(Script.on(house, before).run(call + "=" + answer), Script.on(house, before), call);
    }

    private static void alike() {
        Script.sentence("swap: Two swap ROOMS .. BAD (alike, too)");
        for (int i = 0; i < 6; i++) {
            refused(SIX, BUSY_SIX, "swap(" + i + "," + i + ")", "BAD");
        }
        refused(ONE, BUSY_ONE, "swap(0,0)", "BAD");
        refused(SIX, BUSY_SIX, "swap(6,6)", "BAD");
        refused(SIX, BUSY_SIX, "swap(-1,0)", "BAD");
        refused(SIX, BUSY_SIX, "swap(0,-1)", "BAD");
        refused(SIX, BUSY_SIX, "swap(6,0)", "BAD");
        refused(SIX, BUSY_SIX, "swap(0,6)", "BAD");
        refused(ONE, BUSY_ONE, "swap(0,1)", "BAD");
        refused(EIGHT, BUSY_EIGHT, "swap(7,8)", "BAD");
        Script.on(EIGHT, "swap(7,0)=0 swap(0,7)=0 swap(6,7)=7 swap(7,6)=7");
    }

    private static void cousinsAndRoomsSuchAsThereAre() {
        Script.sentence("COUSINS, ROOMS: such as there are");
        Script.on(SIX, "cousin(5,0)=0 room(5,0)=0 has(5,0)=5 whose(5,0)=5 way(5,5,0)=0");
        Script.on(EIGHT, "cousin(7,0)=3 room(7,0)=7 has(7,0)=7 whose(7,0)=7 way(7,7,0)=0");
        // A smaller house behind a greater one has no more cousins than its own, and the other way about.
        Script smaller = Script.on(EIGHT, "").type("c3,1,2;c0,5,9;r8,1;r2,3;").run("lay()=2");
        smaller.run("cousin(1,0)=0 cousin(2,0)=BAD room(1,0)=2 room(2,0)=BAD swap(0,2)=BAD alter(2,0)=BAD has(2,0)=BAD");
        smaller.run("whose(2,0)=BAD sun(2,1)=BAD swaps(2,1,0)=BAD canHave(2,0)=BAD way(2,0,0)=BAD way(0,2,0)=BAD");
        smaller.run("seen(2,0,0)=BAD seen(0,2,0)=BAD register(2,0)=BAD foundling(2,0,0,0)=BAD foundling(0,2,0,0)=BAD");
        // What is written is not laid yet.
        Script.on(ONE, "").type("c0,0,0;c0,0,0;r0,0;r0,0;").run("cousin(1,0)=BAD room(1,0)=BAD lay()=2 cousin(1,0)=0 room(1,0)=0");
    }

    private static void notAsThingsStand() {
        Script.sentence("NO: not as things stand .. nothing changes then");
        refused(SIX, "keep()=1 seen(0,0,0)=1 write(99)=1", "undo()", "NO");
        refused(SIX, "pass(1)=1 swap(0,1)=1 seen(0,0,0)=1 write(99)=1", "back()", "NO");
        refused(SIX, "pass(1)=1 keep()=1 back()=0 write(99)=1", "back()", "NO");
        refused(SIX, "pass(1)=1 undo()=0 keep()=1", "undo()", "NO");
        refused(SIX, "pass(1)=1 wipe()=0", "lay()", "NO");
        refused(SIX, BUSY_SIX, "lay()", "NO");
        String late = "pass(120) ".repeat(83);
        refused(ONE, late + "pass(1)=9961 keep()=1", "pass(39)", "NO");
        refused(ONE, late + "pass(39)=9999 keep()=1", "pass(1)", "NO");
        refused(ONE, late + "pass(39)=9999", "pass(120)", "NO");
    }

    private static void full() {
        Script.sentence("FULL .. nothing changes then");
        refused(SIX, "pass(1)=1 keep()=1 swap(0,1)=1 keep()=2 swap(1,2) alter(0,9)=5", "keep()", "FULL");
        String eight = "seen(0,1,5)=1 seen(1,1,4)=2 seen(2,2,29)=3 seen(0,0,0)=4 seen(0,0,1)=5 seen(0,0,2)=6 seen(0,0,3)=7"
            + " seen(0,0,4)=8";
        refused(SIX, eight, "seen(0,1,4)", "FULL");
        refused(SIX, eight + " pass(50)=50", "seen(5,5,120)", "FULL");
        // A text that is full has a fault, for 8 cousins and 8 rooms are told by fewer letters: the fault must stay.
        Script with = fullText();
        with.run("write(99)=FULL write(59)=FULL write(32)=FULL write(126)=FULL count(5)=200 fault()=136");
        sameAsWithout(with, fullText(), "write");
    }

    /** 200 letters with the fault as late as it can be: behind all cousins and rooms. */
    private static Script fullText() {
        Script script = new Script();
        script.type("c00,00,00;".repeat(8) + "r00,00;".repeat(8));
        script.run("count(5)=136 fault()=NONE");
        script.type("r".repeat(64));
        return script.run("count(5)=200 fault()=136");
    }

    private static void ofSeveralTheFirst() {
        Script.sentence("Of several the first");
        Script text = fullText();
        text.run("write(31)=BAD write(127)=BAD write(126)=FULL write(32)=FULL");
        Script.on(SIX, "").times(8, "seen(0,0,0)").run("seen(6,0,0)=BAD seen(0,6,0)=BAD seen(0,0,121)=BAD seen(0,0,-1)=BAD"
            + " seen(-1,0,0)=BAD seen(0,-1,0)=BAD seen(5,5,120)=FULL");
        Script.on(SIX, "").times(83, "pass(120)").run("pass(39)=9999 pass(121)=BAD pass(0)=BAD pass(-1)=BAD pass(1)=NO"
            + " pass(120)=NO count(1)=9999");
    }

    private static void askingChangesNothing() {
        Script.sentence("who has what, what would be: nothing is done by asking");
        for (String name : ASKING) {
            for (String[] call : CALLS) {
                if (!call[0].equals(name)) {
                    continue;
                }
                Script asked = Script.on(SIX, BUSY_SIX);
                asked.call(name, numbersWith(call, -1, 0));
                for (int k = 0; k + 1 < call.length; k++) {
                    asked.call(name, numbersWith(call, k, most(call[k + 1], SIX)));
                }
                sameAsWithout(asked, Script.on(SIX, BUSY_SIX), name);
            }
        }
    }
}
