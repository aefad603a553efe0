import java.util.ArrayList;
import java.util.Arrays;
import java.util.Collections;
import java.util.List;
import java.util.Random;

/**
 * Long runs of calls on BirthdayRooms beside a second program that is as plain as can be: it goes day by day,
 * makes lists anew each time and tries every swap. The runs are the same each time (their seeds are fixed).
 */
public final class ModelTests {
    private static final int BAD = -1, NO = -2, FULL = -3, NONE = -4;
    private static final int RUNS = 400;
    private static final int CALLS = 300;

    private static int wrong = 0;

    public static void main(String[] args) {
        for (int run = 0; run < RUNS && wrong < 20; run++) {
            oneRun(run);
        }
        System.out.println(wrong == 0 ? "both programs answer alike" : wrong + " runs are not as due");
        if (wrong != 0) {
            System.exit(1);
        }
    }

    private static void oneRun(int run) {
        Random random = new Random(9000L + run);
        BirthdayRooms house = new BirthdayRooms();
        Model model = new Model();
        StringBuilder told = new StringBuilder();
        int calls = 0;
        if (run % 8 != 0) {
            for (char letter : someHouse(random).toCharArray()) {
                house.write(letter);
                model.write(letter);
                calls++;
            }
            check(run, told, "lay()", house.lay(), model.lay());
        }
        int dear = 0;
        while (calls++ < CALLS) {
            int which = random.nextInt(34);
            if (which == 15 && dear++ > 2) {
                which = 30;
            }
            if (!step(run, told, which, random, house, model)) {
                return;
            }
        }
    }

    private static String someHouse(Random random) {
        int many = 1 + random.nextInt(8);
        int[] days = {random.nextInt(60), random.nextInt(60), 0, 29, 30, 59};
        boolean near = random.nextBoolean();
        List<String> cousins = new ArrayList<>();
        List<String> rooms = new ArrayList<>();
        for (int k = 0; k < many; k++) {
            int birthday = near ? days[random.nextInt(days.length)] : random.nextInt(60);
            cousins.add("c" + random.nextInt(4) + "," + birthday + "," + random.nextInt(10) + ";");
            rooms.add("r" + random.nextInt(10) + "," + random.nextInt(10) + ";");
        }
        List<String> all = new ArrayList<>(cousins);
        all.addAll(rooms);
        if (random.nextBoolean()) {
            Collections.shuffle(all, random);
        }
        return String.join("", all);
    }

    private static int some(Random random, int least, int most) {
        switch (random.nextInt(24)) {
            case 0:
                return least - 1;
            case 1:
                return most + 1;
            case 2:
                return least;
            case 3:
                return most;
            case 4:
                return random.nextInt();
            default:
                return least + random.nextInt(most - least + 1);
        }
    }

    private static boolean step(int run, StringBuilder told, int which, Random random, BirthdayRooms h, Model m) {
        int i = some(random, 0, m.n - 1);
        int j = some(random, 0, m.n - 1);
        int d = some(random, 0, 120);
        int n = some(random, 1, 120);
        int half = some(random, 1, 60);
        int w1 = some(random, 0, 1);
        int w2 = some(random, 0, 2);
        int b = some(random, 0, 59);
        int z = some(random, 0, 9999);
        int w4 = some(random, 0, 4);
        int w5 = some(random, 0, 5);
        switch (which) {
            case 0:
                int letter = random.nextInt(3) == 0 ? some(random, 32, 126) : "cr0123456789,;".charAt(random.nextInt(14));
                return check(run, told, "write(" + letter + ")", h.write(letter), m.write(letter));
            case 1:
                if (random.nextInt(4) == 0) {
                    return check(run, told, "wipe()", h.wipe(), m.wipe());
                }
                return check(run, told, "fault()", h.fault(), m.fault());
            case 2:
                return check(run, told, "lay()", h.lay(), m.lay());
            case 3:
                return check(run, told, "cousin(" + i + ", " + w4 + ")", h.cousin(i, w4), m.cousin(i, w4));
            case 4:
                return check(run, told, "room(" + i + ", " + w2 + ")", h.room(i, w2), m.room(i, w2));
            case 5:
                return check(run, told, "pass(" + n + ")", h.pass(n), m.pass(n));
            case 6:
                return check(run, told, "swap(" + i + ", " + j + ")", h.swap(i, j), m.swap(i, j));
            case 7:
                return check(run, told, "alter(" + i + ", " + b + ")", h.alter(i, b), m.alter(i, b));
            case 8:
            case 9:
                return check(run, told, "undo()", h.undo(), m.undo());
            case 10:
                return check(run, told, "has(" + i + ", " + d + ")", h.has(i, d), m.has(i, d));
            case 11:
                return check(run, told, "whose(" + i + ", " + d + ")", h.whose(i, d), m.whose(i, d));
            case 12:
                return check(run, told, "sun(" + i + ", " + n + ")", h.sun(i, n), m.sun(i, n));
            case 13:
                return check(run, told, "cold(" + d + ")", h.cold(d), m.cold(d));
            case 14:
                return check(run, told, "want(" + n + ")", h.want(n), m.want(n));
            case 15:
                for (int k = -1; k <= 3; k++) {
                    String call = "swaps(" + i + ", " + half + ", " + k + ")";
                    if (!check(run, told, call, h.swaps(i, half, k), m.swaps(i, half, k))) {
                        return false;
                    }
                }
                return true;
            case 16:
                return check(run, told, "warm(" + half + ", " + w1 + ")", h.warm(half, w1), m.warm(half, w1));
            case 17:
                return check(run, told, "canHave(" + i + ", " + d + ")", h.canHave(i, d), m.canHave(i, d));
            case 18:
                return check(run, told, "round()", h.round(), m.round());
            case 19:
                return check(run, told, "way(" + i + ", " + j + ", " + w1 + ")", h.way(i, j, w1), m.way(i, j, w1));
            case 20:
            case 21:
                // Mostly what is true with an altered birthday, so that the register has something to find.
                int r = random.nextInt(3) == 0 || !m.isCousin(i) || d < 0 || d > 120 ? j : m.sawWith(i, 7 * run % 60, d);
                return check(run, told, "seen(" + i + ", " + r + ", " + d + ")", h.seen(i, r, d), m.seen(i, r, d));
            case 22:
                return random.nextInt(3) != 0 || check(run, told, "forget()", h.forget(), m.forget());
            case 23:
            case 24:
                return check(run, told, "register(" + i + ", " + w1 + ")", h.register(i, w1), m.register(i, w1));
            case 25:
                return check(run, told, "foundling(" + i + ", " + j + ", " + d + ", " + w1 + ")",
                    h.foundling(i, j, d, w1), m.foundling(i, j, d, w1));
            case 26:
                return check(run, told, "loses(" + w1 + ")", h.loses(w1), m.loses(w1));
            case 27:
                return check(run, told, "next(" + w1 + ")", h.next(w1), m.next(w1));
            case 28:
            case 29:
                return check(run, told, "year(" + z + ", " + n + ", " + w1 + ")", h.year(z, n, w1), m.year(z, n, w1));
            case 30:
                return check(run, told, "keep()", h.keep(), m.keep());
            case 31:
                return check(run, told, "back()", h.back(), m.back());
            default:
                return check(run, told, "count(" + w5 + ")", h.count(w5), m.count(w5));
        }
    }

    private static boolean check(int run, StringBuilder told, String call, int got, int want) {
        told.append(call).append(' ').append(got).append("; ");
        if (got == want) {
            return true;
        }
        wrong++;
        int from = Math.max(0, told.length() - 600);
        System.out.println("run " + run + ": .." + told.substring(from) + "due is " + want);
        return false;
    }

    /** DAYS, ROOMS, BIRTHDAYS. */
    private static final class State {
        int day;
        int[] rooms;
        int[] birthdays;

        State copy() {
            State other = new State();
            other.day = day;
            other.rooms = rooms.clone();
            other.birthdays = birthdays.clone();
            return other;
        }

        int owner(int r) {
            for (int i = 0; i < rooms.length; i++) {
                if (rooms[i] == r) {
                    return i;
                }
            }
            throw new IllegalStateException("nobody has room " + r);
        }

        void swap(int i, int j) {
            int room = rooms[i];
            rooms[i] = rooms[j];
            rooms[j] = room;
        }
    }

    private static final class Model {
        private static final String FIRST = "c0,5,4;c1,17,3;c2,30,6;c0,44,2;c3,52,5;c0,30,1;r2,8;r5,5;r1,9;r6,3;r3,4;r0,7;";

        String text = "";
        List<int[]> cousins;
        List<int[]> rooms;
        int n;
        State now;
        State first;
        List<State> undone = new ArrayList<>();
        List<State> kept = new ArrayList<>();
        List<int[]> seen = new ArrayList<>();

        Model() {
            text = FIRST;
            lay();
            text = "";
        }

        int write(int letter) {
            if (letter < 32 || letter > 126) {
                return BAD;
            }
            if (text.length() == 200) {
                return FULL;
            }
            text += (char) letter;
            return text.length();
        }

        int wipe() {
            int length = text.length();
            text = "";
            return length;
        }

        int fault() {
            return read(new ArrayList<>(), new ArrayList<>());
        }

        private int read(List<int[]> cousins, List<int[]> rooms) {
            int place = 0;
            while (place < text.length()) {
                int end = text.indexOf(';', place);
                String item = end < 0 ? "" : text.substring(place, end + 1);
                if (item.matches("c0?[0-3],[0-5]?[0-9],0?[0-9];") && cousins.size() < 8) {
                    cousins.add(numbers(item));
                } else if (item.matches("r0?[0-9],0?[0-9];") && rooms.size() < 8) {
                    rooms.add(numbers(item));
                } else {
                    return place;
                }
                place = end + 1;
            }
            return NONE;
        }

        private static int[] numbers(String item) {
            return Arrays.stream(item.substring(1, item.length() - 1).split(",")).mapToInt(Integer::parseInt).toArray();
        }

        int lay() {
            List<int[]> newCousins = new ArrayList<>();
            List<int[]> newRooms = new ArrayList<>();
            if (read(newCousins, newRooms) != NONE || newCousins.isEmpty() || newCousins.size() != newRooms.size()) {
                return NO;
            }
            cousins = newCousins;
            rooms = newRooms;
            n = cousins.size();
            first = new State();
            first.rooms = new int[n];
            first.birthdays = new int[n];
            for (int i = 0; i < n; i++) {
                first.rooms[i] = i;
                first.birthdays[i] = cousins.get(i)[1];
            }
            now = first.copy();
            undone.clear();
            kept.clear();
            seen.clear();
            return n;
        }

        boolean isCousin(int i) {
            return i >= 0 && i < n;
        }

        private static boolean out(int number, int least, int most) {
            return number < least || number > most;
        }

        private List<Integer> list(State state) {
            List<Integer> list = new ArrayList<>();
            for (int b = 0; b < 60; b++) {
                for (int i = 0; i < n; i++) {
                    if (state.birthdays[i] == b) {
                        list.add(i);
                    }
                }
            }
            return list;
        }

        private int sunOf(State state, int i, int day) {
            return rooms.get(state.rooms[i])[day % 60 < 30 ? 0 : 1];
        }

        private void oneDay(State state, List<Integer> list) {
            for (int p = 0; p < n; p++) {
                int i = list.get(p);
                if (state.birthdays[i] != state.day % 60) {
                    continue;
                }
                int next = list.get((p + 1) % n);
                int kind = cousins.get(i)[0];
                if (kind == 0) {
                    state.swap(i, next);
                } else if (kind == 1 && state.day / 60 % 4 == 0) {
                    state.swap(i, next);
                } else if (kind == 2) {
                    state.swap(i, list.get((p + 2) % n));
                } else if (kind == 3 && sunOf(state, next, state.day) > sunOf(state, i, state.day)) {
                    state.swap(i, next);
                }
            }
            state.day++;
        }

        private State later(State from, int days) {
            State state = from.copy();
            List<Integer> list = list(state);
            for (int k = 0; k < days; k++) {
                oneDay(state, list);
            }
            return state;
        }

        private int coldBits(State state, int day) {
            int bits = 0;
            for (int i = 0; i < n; i++) {
                if (sunOf(state, i, day) < cousins.get(i)[2]) {
                    bits |= 1 << i;
                }
            }
            return bits;
        }

        private int sunTogether(State from, int i, int days) {
            State state = from.copy();
            List<Integer> list = list(state);
            int together = 0;
            for (int k = 0; k < days; k++) {
                oneDay(state, list);
                together += sunOf(state, i, state.day - 1);
            }
            return together;
        }

        private int coldTogether(State from, int days) {
            State state = from.copy();
            List<Integer> list = list(state);
            int together = 0;
            for (int k = 0; k < days; k++) {
                oneDay(state, list);
                together += Integer.bitCount(coldBits(state, state.day - 1));
            }
            return together;
        }

        int cousin(int i, int what) {
            if (!isCousin(i) || out(what, 0, 4)) {
                return BAD;
            }
            return new int[] {cousins.get(i)[0], now.birthdays[i], cousins.get(i)[2], now.rooms[i], list(now).indexOf(i)}[what];
        }

        int room(int r, int what) {
            if (!isCousin(r) || out(what, 0, 2)) {
                return BAD;
            }
            return what == 2 ? now.owner(r) : rooms.get(r)[what];
        }

        private void act(State state) {
            undone.add(now);
            if (undone.size() > 8) {
                undone.remove(0);
            }
            now = state;
        }

        int pass(int days) {
            if (out(days, 1, 120)) {
                return BAD;
            }
            if (now.day + days > 9999) {
                return NO;
            }
            act(later(now, days));
            return now.day;
        }

        int swap(int i, int j) {
            if (!isCousin(i) || !isCousin(j) || i == j) {
                return BAD;
            }
            State state = now.copy();
            state.swap(i, j);
            act(state);
            return now.rooms[i];
        }

        int alter(int i, int b) {
            if (!isCousin(i) || out(b, 0, 59)) {
                return BAD;
            }
            State state = now.copy();
            state.birthdays[i] = b;
            int before = now.birthdays[i];
            act(state);
            return before;
        }

        int undo() {
            if (undone.isEmpty()) {
                return NO;
            }
            now = undone.remove(undone.size() - 1);
            return undone.size();
        }

        int has(int i, int d) {
            return !isCousin(i) || out(d, 0, 120) ? BAD : later(now, d + 1).rooms[i];
        }

        int whose(int r, int d) {
            return !isCousin(r) || out(d, 0, 120) ? BAD : later(now, d + 1).owner(r);
        }

        int sun(int i, int days) {
            return !isCousin(i) || out(days, 1, 120) ? BAD : sunTogether(now, i, days);
        }

        int cold(int d) {
            return out(d, 0, 120) ? BAD : coldBits(later(now, d + 1), now.day + d);
        }

        int want(int days) {
            return out(days, 1, 120) ? BAD : coldTogether(now, days);
        }

        private List<int[]> pairs() {
            List<int[]> pairs = new ArrayList<>();
            for (int a = 0; a < n; a++) {
                for (int b = a + 1; b < n; b++) {
                    pairs.add(new int[] {a, b});
                }
            }
            return pairs;
        }

        private State swapped(State from, int[] pair) {
            State state = from.copy();
            state.swap(pair[0], pair[1]);
            return state;
        }

        int swaps(int i, int days, int k) {
            if (!isCousin(i) || out(days, 1, 60) || out(k, 0, 2)) {
                return BAD;
            }
            int best = sunTogether(now, i, days);
            int[] codes = {NONE, NONE};
            for (int[] one : pairs()) {
                int much = sunTogether(swapped(now, one), i, days);
                if (much > best) {
                    best = much;
                    codes = new int[] {8 * one[0] + one[1], NONE};
                }
            }
            for (int[] one : pairs()) {
                for (int[] two : pairs()) {
                    int much = sunTogether(swapped(swapped(now, one), two), i, days);
                    if (much > best) {
                        best = much;
                        codes = new int[] {8 * one[0] + one[1], 8 * two[0] + two[1]};
                    }
                }
            }
            return k == 0 ? best : codes[k - 1];
        }

        int warm(int days, int what) {
            if (out(days, 1, 60) || out(what, 0, 1)) {
                return BAD;
            }
            int best = coldTogether(now, days);
            int code = NONE;
            for (int[] one : pairs()) {
                int much = coldTogether(swapped(now, one), days);
                if (much < best) {
                    best = much;
                    code = 8 * one[0] + one[1];
                }
            }
            return what == 0 ? best : code;
        }

        int canHave(int r, int d) {
            if (!isCousin(r) || out(d, 0, 120)) {
                return BAD;
            }
            int bits = 1 << later(now, d + 1).owner(r);
            for (int[] one : pairs()) {
                bits |= 1 << later(swapped(now, one), d + 1).owner(r);
            }
            return bits;
        }

        int round() {
            State state = now.copy();
            List<Integer> list = list(state);
            for (int days = 1; days <= 960; days++) {
                oneDay(state, list);
                if (state.day % 60 == now.day % 60 && state.day / 60 % 4 == now.day / 60 % 4
                        && Arrays.equals(state.rooms, now.rooms)) {
                    return days;
                }
            }
            return NONE;
        }

        int way(int i, int r, int what) {
            if (!isCousin(i) || !isCousin(r) || out(what, 0, 1)) {
                return BAD;
            }
            int own = now.rooms[i];
            int up = 0;
            for (int k = own; k != r; k = (k + 1) % n) {
                up += k == own ? 0 : cousins.get(now.owner(k))[2];
            }
            int down = 0;
            for (int k = own; k != r; k = (k + n - 1) % n) {
                down += k == own ? 0 : cousins.get(now.owner(k))[2];
            }
            return what == 0 ? Math.min(up, down) : up <= down ? 0 : 1;
        }

        int sawWith(int i, int b, int d) {
            State state = first.copy();
            state.birthdays[0] = b;
            return later(state, d + 1).rooms[i];
        }

        int seen(int i, int r, int d) {
            if (!isCousin(i) || !isCousin(r) || out(d, 0, 120)) {
                return BAD;
            }
            if (seen.size() == 8) {
                return FULL;
            }
            seen.add(new int[] {i, r, d});
            return seen.size();
        }

        int forget() {
            int size = seen.size();
            seen.clear();
            return size;
        }

        int register(int i, int what) {
            if (!isCousin(i) || out(what, 0, 1)) {
                return BAD;
            }
            List<Integer> fitting = new ArrayList<>();
            for (int b = 0; b < 60; b++) {
                State state = first.copy();
                state.birthdays[i] = b;
                boolean fits = true;
                for (int[] one : seen) {
                    fits = fits && later(state, one[2] + 1).rooms[one[0]] == one[1];
                }
                if (fits) {
                    fitting.add(b);
                }
            }
            return what == 0 ? fitting.size() : fitting.isEmpty() ? NONE : fitting.get(0);
        }

        int foundling(int i, int r, int d, int part) {
            if (!isCousin(i) || !isCousin(r) || out(d, 0, 120) || out(part, 0, 1)) {
                return BAD;
            }
            int above = 0;
            for (int b = 0; b < 60; b++) {
                State state = now.copy();
                state.birthdays[i] = b;
                above += later(state, d + 1).rooms[i] == r ? 1 : 0;
            }
            int below = 60;
            for (int k = 60; k >= 2; k--) {
                if (above % k == 0 && below % k == 0) {
                    above /= k;
                    below /= k;
                }
            }
            return part == 0 ? above : below;
        }

        int loses(int what) {
            if (out(what, 0, 1)) {
                return BAD;
            }
            int who = 0;
            for (int i = n - 1; i >= 0; i--) {
                if (sunTogether(now, i, 60) <= sunTogether(now, who, 60)) {
                    who = i;
                }
            }
            return what == 0 ? who : sunTogether(now, who, 60);
        }

        int next(int what) {
            if (out(what, 0, 1)) {
                return BAD;
            }
            for (int days = 0;; days++) {
                for (int i : list(now)) {
                    if (now.birthdays[i] == (now.day + days) % 60) {
                        return what == 0 ? i : days;
                    }
                }
            }
        }

        int year(int z, int days, int what) {
            if (out(z, 0, 9999) || out(days, 1, 120) || out(what, 0, 1)) {
                return BAD;
            }
            State state = now.copy();
            int colds = 0;
            for (int k = 0; k < days; k++) {
                long x = 7919L * z + 6151L * k + 1;
                int draw = (int) (Math.floorMod(x * x, 65521L) / 2);
                int one = draw % n;
                int other = draw / 8 % n;
                if (one != other && draw / 64 % 5 == 0) {
                    state.swap(one, other);
                }
                oneDay(state, list(state));
                colds += Integer.bitCount(coldBits(state, state.day - 1));
            }
            return what == 0 ? colds : state.owner(0);
        }

        int keep() {
            if (kept.size() == 2) {
                return FULL;
            }
            kept.add(now.copy());
            return kept.size();
        }

        int back() {
            if (kept.isEmpty()) {
                return NO;
            }
            now = kept.remove(kept.size() - 1);
            undone.clear();
            return kept.size();
        }

        int count(int what) {
            return out(what, 0, 5) ? BAD
                : new int[] {n, now.day, seen.size(), undone.size(), kept.size(), text.length()}[what];
        }
    }
}
