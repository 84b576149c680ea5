import java.util.ArrayDeque;
import java.util.ArrayList;
import java.util.Arrays;
import java.util.List;
import java.util.Random;

/** Runs of 512 calls, drawn by fixed seeds, whose answers are compared with those of a second, slower reckoning. */
public final class ModelTest {
    private static final int RUNS = 400;
    private static final int CALLS = 512;
    private static final String[] CALL_NAMES = {"colour", "type", "apply", "plates", "drift", "correct", "key", "tear",
        "job", "print", "sign", "differs", "claim", "ink", "dot", "unit", "copy", "next", "all"};
    // The calls are named in the order of their promises, behind the new object's.
    private static final int FIRST_PROMISE = 2;
    private static final int[] WEIGHTS = {40, 0, 8, 8, 6, 10, 8, 3, 8, 30, 5, 8, 8, 40, 20, 15, 15, 8, 15};
    private static final String[] RULES = {"black ", "limit ", "trap ", "gain ", "tolerance ", "delay "};
    private static final int[] MOSTS = {100, 400, 1, 40, 9, 50};

    private ModelTest() {
    }

    public static void main(String[] args) {
        for (int run = 0; run < RUNS; run++) {
            Run calls = new Run(run);
            String wrong = calls.wrong();
            Checks.count(calls.promise, "run " + run, wrong);
        }
        Checks.end(1, 0);
    }

    /** One run: the house, the second reckoning, and what is typed into both. */
    private static final class Run {
        private final Random random;
        private final boolean calm;
        private final Calls house = new Calls();
        private final Model model = new Model();
        private String toType = "";
        private int promise = 1;

        Run(int seed) {
            random = new Random(seed);
            calm = seed % 2 == 0;
        }

        /** Returns the first answer that is not as it is reckoned, or null; the promise is that of the last call. */
        String wrong() {
            for (int i = 0; i < CALLS; i++) {
                String name = drawName();
                promise = FIRST_PROMISE + List.of(CALL_NAMES).indexOf(name);
                int[] n = drawArguments(name);
                String got = house.answer(name, n);
                String due = model.answer(name, n);
                if (!got.equals(due)) {
                    return "call " + i + ", " + name + Arrays.toString(n) + " answered " + got + ", due is " + due;
                }
            }
            return null;
        }

        private String drawName() {
            if (!toType.isEmpty()) {
                return "type";
            }
            if (random.nextInt(20) == 0) {
                toType = drawRules();
                return "type";
            }
            int sum = 0;
            for (int weight : WEIGHTS) {
                sum += weight;
            }
            int at = random.nextInt(sum);
            int name = 0;
            while (at >= WEIGHTS[name]) {
                at -= WEIGHTS[name];
                name++;
            }
            return CALL_NAMES[name];
        }

        private String drawRules() {
            StringBuilder text = new StringBuilder(random.nextInt(4) == 0 ? " " : "");
            for (int left = 1 + random.nextInt(3); left > 0; left--) {
                int rule = random.nextInt(RULES.length);
                text.append(RULES[rule]);
                if (rule == 3) {
                    text.append(between(0, 3)).append(' ');
                }
                text.append(between(rule == 1 ? 100 : 0, MOSTS[rule])).append(random.nextInt(4) == 0 ? "  " : " ");
            }
            if (random.nextInt(30) == 0) {
                text.setCharAt(random.nextInt(text.length()), "a0 x9".charAt(random.nextInt(5)));
            }
            return text.toString();
        }

        /** Mostly within the range, with a liking for its ends; rarely out of it. */
        private int between(int least, int most) {
            int kind = random.nextInt(calm ? 400 : 60);
            if (kind == 0) {
                return least - 1;
            }
            if (kind == 1) {
                return most + 1;
            }
            if (kind < 5) {
                return random.nextBoolean() ? least : most;
            }
            return least + random.nextInt(most - least + 1);
        }

        private int light() {
            return random.nextInt(3) == 0 ? between(0, 100) : between(0, 9) * 10;
        }

        private int[] drawArguments(String name) {
            switch (name) {
                case "colour":
                    return new int[] {between(0, 63) & (random.nextBoolean() ? 9 : -1), light(), light(), light()};
                case "type":
                    return drawSign();
                case "drift":
                    return calm ? new int[] {between(0, 3), between(-1, 1), 0}
                        : new int[] {between(0, 3), between(-5, 5), between(-5, 5)};
                case "correct":
                    return calm ? drawRightCorrection() : new int[] {between(0, 3), between(-50, 50), between(-50, 50)};
                case "key":
                    return new int[] {between(0, 3), between(0, 7), calm ? between(38, 54) : between(0, 100)};
                case "job":
                    return new int[] {random.nextBoolean() ? between(1, 200) : between(1, 9)};
                case "print":
                    return new int[] {random.nextInt(4) == 0 ? between(1, 100) : between(1, 15)};
                case "differs":
                case "claim":
                    return new int[] {between(0, 63) & (random.nextBoolean() ? 9 : -1)};
                case "ink":
                    return new int[] {between(0, 63) & (random.nextBoolean() ? 9 : -1), between(0, 3), between(0, 4)};
                case "dot":
                    return new int[] {between(0, 63), between(0, 3)};
                case "unit":
                    return new int[] {between(0, 3), between(0, 9)};
                case "copy":
                    return new int[] {random.nextBoolean() ? between(0, 10) : between(0, 199), between(0, 1)};
                case "all":
                    return new int[] {between(0, 6)};
                default:
                    return new int[0];
            }
        }

        private int[] drawSign() {
            if (random.nextInt(200) == 0) {
                return new int[] {"AZ`{/:\n".charAt(random.nextInt(7))};
            }
            int sign = toType.charAt(0);
            toType = toType.substring(1);
            return new int[] {sign};
        }

        private int[] drawRightCorrection() {
            int unit = random.nextInt(4);
            return new int[] {unit, between(-2, 2) - model.registers[unit][0],
                between(-2, 2) - model.registers[unit][1]};
        }
    }

    /** The second reckoning: it keeps what was done, and works each answer out anew. */
    private static final class Model {
        private static final String INDEX = Calls.INDEX;
        private static final String ARGUMENT = Calls.ARGUMENT;
        private static final String STATE = Calls.STATE;

        private final int[][] lights = new int[64][];
        private final int[][] plates = new int[64][4];
        private int[][] proof = null;
        private String signs = "";
        private int black = 50;
        private int limit = 300;
        private int trap = 0;
        private int tolerance = 2;
        private int delay = 10;
        private final int[] gains = {20, 20, 20, 20};
        private final int[][] registers = new int[4][2];
        private final int[][] drifts = new int[4][2];
        private final int[][] keys = new int[4][8];
        private final List<int[]> corrections = new ArrayList<>();
        private int webRightFrom = 0;
        private final List<Character> fates = new ArrayList<>();
        private int copies = 0;
        private final ArrayDeque<Integer> line = new ArrayDeque<>();
        private final List<Integer> history = new ArrayList<>();

        Model() {
            for (int[] row : keys) {
                Arrays.fill(row, 50);
            }
            for (int cell = 0; cell < 64; cell++) {
                lights[cell] = new int[] {100, 100, 100};
            }
        }

        String answer(String name, int[] n) {
            switch (name) {
                case "colour":
                    return colour(n);
                case "type":
                    return type((char) n[0]);
                case "apply":
                    return "" + apply();
                case "plates":
                    return "" + makePlates();
                case "drift":
                    if (out(n[0], 0, 3)) {
                        return INDEX;
                    }
                    if (out(n[1], -5, 5) || out(n[2], -5, 5)) {
                        return ARGUMENT;
                    }
                    drifts[n[0]] = new int[] {n[1], n[2]};
                    return "";
                case "correct":
                    return correct(n);
                case "key":
                    return key(n);
                case "tear":
                    webRightFrom = fates.size() + 20;
                    return "20";
                case "job":
                    return job(n[0]);
                case "print":
                    return print(n[0]);
                case "sign":
                    return sign();
                default:
                    return question(name, n);
            }
        }

        private String question(String name, int[] n) {
            switch (name) {
                case "differs":
                case "claim":
                    return difference(name, n[0]);
                case "ink":
                    return ink(n[0], n[1], n[2]);
                case "dot":
                    return out(n[0], 0, 63) || out(n[1], 0, 3) ? INDEX : "" + dot(n[0], n[1]);
                case "unit":
                    return unit(n[0], n[1]);
                case "copy":
                    return copy(n[0], n[1]);
                case "next":
                    return line.isEmpty() ? "-1" : "" + line.peekFirst();
                default:
                    return all(n[0]);
            }
        }

        private static boolean out(int number, int least, int most) {
            return number < least || number > most;
        }

        private String colour(int[] n) {
            if (out(n[0], 0, 63)) {
                return INDEX;
            }
            if (out(n[1], 0, 100) || out(n[2], 0, 100) || out(n[3], 0, 100)) {
                return ARGUMENT;
            }
            lights[n[0]] = new int[] {n[1], n[2], n[3]};
            return "";
        }

        private String type(char sign) {
            if ("abcdefghijklmnopqrstuvwxyz0123456789 ".indexOf(sign) < 0) {
                return ARGUMENT;
            }
            if (signs.length() == 60) {
                return STATE;
            }
            signs += sign;
            return "" + signs.length();
        }

        private int apply() {
            String[] parts = signs.trim().isEmpty() ? new String[0] : signs.trim().split(" +");
            signs = "";
            List<int[]> found = new ArrayList<>();
            int at = 0;
            while (at < parts.length) {
                int rule = List.of(RULES).indexOf(parts[at] + " ");
                int numbers = rule == 3 ? 2 : 1;
                if (rule < 0 || at + numbers >= parts.length) {
                    return -(at + 1);
                }
                for (int i = 1; i <= numbers; i++) {
                    if (!parts[at + i].matches("[0-9]{1,3}")) {
                        return -(at + 1);
                    }
                }
                int number = Integer.parseInt(parts[at + numbers]);
                int ink = Integer.parseInt(parts[at + 1]);
                if (out(number, rule == 1 ? 100 : 0, MOSTS[rule]) || rule == 3 && ink > 3) {
                    return -(at + 1);
                }
                found.add(new int[] {rule, ink, number});
                at += numbers + 1;
            }
            for (int[] rule : found) {
                set(rule[0], rule[1], rule[2]);
            }
            return found.size();
        }

        private void set(int rule, int ink, int number) {
            switch (rule) {
                case 0 -> black = number;
                case 1 -> limit = number;
                case 2 -> trap = number;
                case 3 -> gains[ink] = number;
                case 4 -> tolerance = number;
                default -> delay = number;
            }
        }

        private int[] split(int cell) {
            int[] inks = {100 - lights[cell][0], 100 - lights[cell][1], 100 - lights[cell][2], 0};
            inks[3] = Math.min(inks[0], Math.min(inks[1], inks[2])) * black / 100;
            int three = 0;
            for (int ink = 0; ink < 3; ink++) {
                inks[ink] -= inks[3];
                three += inks[ink];
            }
            if (three + inks[3] > limit) {
                for (int ink = 0; ink < 3; ink++) {
                    inks[ink] = inks[ink] * (limit - inks[3]) / three;
                }
            }
            return inks;
        }

        private int wanted(int cell, int ink) {
            int most = split(cell)[ink];
            if (trap == 0 || ink == 3) {
                return most;
            }
            for (int side = 0; side < 64; side++) {
                int far = Math.abs(side / 8 - cell / 8) + Math.abs(side % 8 - cell % 8);
                if (far == 1 && light(side) > light(cell)) {
                    most = Math.max(most, split(side)[ink]);
                }
            }
            return most;
        }

        private int light(int cell) {
            return lights[cell][0] + lights[cell][1] + lights[cell][2];
        }

        private int prints(int tint, int ink) {
            return tint + gains[ink] * tint * (100 - tint) / 2500;
        }

        private int tintFor(int cell, int ink) {
            int least = 100;
            for (int tint = 100; tint >= 0; tint--) {
                if (prints(tint, ink) >= wanted(cell, ink)) {
                    least = tint;
                }
            }
            return least;
        }

        private int makePlates() {
            int others = 0;
            for (int cell = 0; cell < 64; cell++) {
                for (int ink = 0; ink < 4; ink++) {
                    int before = plates[cell][ink];
                    plates[cell][ink] = tintFor(cell, ink);
                    others += before == plates[cell][ink] ? 0 : 1;
                }
            }
            return others;
        }

        private String correct(int[] n) {
            if (out(n[0], 0, 3)) {
                return INDEX;
            }
            if (out(n[1], -50, 50) || out(n[2], -50, 50)) {
                return ARGUMENT;
            }
            if (corrections.size() == 20) {
                return STATE;
            }
            corrections.add(new int[] {n[0], n[1], n[2], fates.size() + delay});
            if (delay == 0) {
                come();
                return "0";
            }
            return "" + corrections.size();
        }

        private void come() {
            for (int[] correction : corrections) {
                if (correction[3] == fates.size()) {
                    registers[correction[0]][0] += correction[1];
                    registers[correction[0]][1] += correction[2];
                }
            }
            corrections.removeIf(correction -> correction[3] == fates.size());
        }

        private String key(int[] n) {
            if (out(n[0], 0, 3) || out(n[1], 0, 7)) {
                return INDEX;
            }
            if (out(n[2], 0, 100)) {
                return ARGUMENT;
            }
            String before = "" + keys[n[0]][n[1]];
            keys[n[0]][n[1]] = n[2];
            return before;
        }

        private int density(int unit, int column) {
            int sum = -400;
            for (int cell = column; cell < 64; cell += 8) {
                sum += plates[cell][unit];
            }
            int eighth = (sum < 0 ? -1 : 1) * (Math.abs(sum) / 8);
            return 50 + keys[unit][column] - (eighth < 0 ? -1 : 1) * (Math.abs(eighth) / 10);
        }

        private char fate() {
            if (fates.size() < webRightFrom) {
                return 'w';
            }
            boolean wrongDensity = false;
            for (int unit = 0; unit < 4; unit++) {
                for (int axis = 0; axis < 2; axis++) {
                    if (out(registers[unit][axis] - registers[3][axis], -tolerance, tolerance)) {
                        return 'r';
                    }
                }
                for (int column = 0; column < 8; column++) {
                    wrongDensity |= out(density(unit, column), 90, 110);
                }
            }
            return wrongDensity ? 'd' : 'g';
        }

        private String job(int count) {
            if (out(count, 1, 200)) {
                return ARGUMENT;
            }
            if (!line.isEmpty()) {
                return STATE;
            }
            copies = count;
            history.clear();
            for (int copy = 0; copy < count; copy++) {
                line.add(copy);
            }
            return "";
        }

        private String print(int count) {
            if (out(count, 1, 100)) {
                return ARGUMENT;
            }
            if (fates.size() + count > 20000) {
                return STATE;
            }
            int good = 0;
            for (int i = 0; i < count; i++) {
                char fate = fate();
                if (!line.isEmpty()) {
                    int copy = line.removeFirst();
                    history.add(copy);
                    if (fate != 'g') {
                        line.addLast(copy);
                    }
                }
                good += fate == 'g' ? 1 : 0;
                fates.add(fate);
                for (int unit = 0; unit < 4 && fates.size() % 10 == 0; unit++) {
                    registers[unit][0] += drifts[unit][0];
                    registers[unit][1] += drifts[unit][1];
                }
                come();
            }
            return "" + good;
        }

        private String sign() {
            int sum = 0;
            proof = new int[64][4];
            for (int cell = 0; cell < 64; cell++) {
                for (int ink = 0; ink < 4; ink++) {
                    proof[cell][ink] = prints(plates[cell][ink], ink);
                    sum += proof[cell][ink];
                }
            }
            return "" + sum;
        }

        private String difference(String name, int cell) {
            if (out(cell, 0, 63)) {
                return INDEX;
            }
            if (proof == null) {
                return STATE;
            }
            int sum = 0;
            for (int ink = 0; ink < 4; ink++) {
                sum += Math.abs(proof[cell][ink] - prints(plates[cell][ink], ink));
            }
            return name.equals("claim") ? "" + (sum > 5) : "" + sum;
        }

        private String ink(int cell, int ink, int what) {
            if (out(cell, 0, 63) || out(ink, 0, 3)) {
                return INDEX;
            }
            switch (what) {
                case 0:
                    return "" + split(cell)[ink];
                case 1:
                    return "" + wanted(cell, ink);
                case 2:
                    return "" + tintFor(cell, ink);
                case 3:
                    return "" + plates[cell][ink];
                case 4:
                    return "" + prints(plates[cell][ink], ink);
                default:
                    return ARGUMENT;
            }
        }

        private boolean dot(int cell, int ink) {
            // The errors and dots take up all tints ahead: what is carried is their sum less 100 for each dot.
            int carried = 0;
            for (int ahead = cell / 8 * 8; ahead < cell; ahead++) {
                carried += plates[ahead][ink] - (dot(ahead, ink) ? 100 : 0);
            }
            return carried + plates[cell][ink] >= 50;
        }

        private String unit(int unit, int what) {
            if (out(unit, 0, 3)) {
                return INDEX;
            }
            if (out(what, 0, 9)) {
                return ARGUMENT;
            }
            return "" + (what < 2 ? registers[unit][what] : density(unit, what - 2));
        }

        private String copy(int copy, int what) {
            if (out(copy, 0, copies - 1)) {
                return INDEX;
            }
            if (out(what, 0, 1)) {
                return ARGUMENT;
            }
            if (what == 0) {
                return line.contains(copy) ? "0" : "1";
            }
            return "" + history.stream().filter(printed -> printed == copy).count();
        }

        private String all(int what) {
            switch (what) {
                case 0:
                    return "" + fates.size();
                case 1:
                    return "" + count("g");
                case 2:
                    return "" + count("wrd");
                case 3:
                    return "" + count("r");
                case 4:
                    return "" + count("d");
                case 5:
                    return "" + line.size();
                case 6:
                    return "" + corrections.size();
                default:
                    return ARGUMENT;
            }
        }

        private long count(String kinds) {
            return fates.stream().filter(fate -> kinds.indexOf(fate) >= 0).count();
        }
    }
}
