/** A gravure house: from a picture of cells over plates and a press to the copies and the claims about them. */
public final class GravureHouse {
    public static final int NONE = -1;
    public static final int CYAN = 0, MAGENTA = 1, YELLOW = 2, BLACK = 3;

    private static final int INKS = 4;
    private static final int SIDE = 8;
    private static final int CELLS = 64;
    private static final int FULL = 100;

    private static final int MOST_SIGNS = 60;
    private static final int MOST_FIGURES = 3;

    private static final int MOST_DRIFT = 5;
    private static final int DRIFT_COPIES = 10;
    private static final int MOST_CORRECTION = 50;
    private static final int MOST_TO_COME = 20;
    private static final int MIDDLE_KEY = 50;
    private static final int LEAST_DENSITY = 90;
    private static final int MOST_DENSITY = 110;
    private static final int LEAD_IN = 20;

    private static final int MOST_JOB = 200;
    private static final int MOST_AT_ONCE = 100;
    private static final int MOST_PRINTED = 20000;
    private static final int MOST_DIFFERENCE = 5;

    private final Rules rules = new Rules();
    private final Script script = new Script();
    private final Picture picture = new Picture();
    private final PlateSet plateSet = new PlateSet();
    private final Registers registers = new Registers();
    private final Press press = new Press();
    private final Job work = new Job();
    private final Proof proof = new Proof();

    public GravureHouse() {
    }

    // ---- the picture, rules

    public void colour(int cell, int red, int green, int blue)
            throws IndexOutOfBoundsException, IllegalArgumentException {
        needIndex(cell, CELLS);
        needRange(red, 0, FULL);
        needRange(green, 0, FULL);
        needRange(blue, 0, FULL);
        picture.paint(cell, red, green, blue);
    }

    public int type(char sign) throws IllegalArgumentException, IllegalStateException {
        if (!Script.takes(sign)) {
            throw new IllegalArgumentException("neither a small letter nor a figure nor a blank");
        }
        if (script.isFull()) {
            throw new IllegalStateException("no more signs can be typed");
        }
        return script.add(sign);
    }

    public int apply() {
        return script.carryOut(rules);
    }

    public int plates() {
        return plateSet.make(picture, rules);
    }

    // ---- the press

    public void drift(int unit, int x, int y) throws IndexOutOfBoundsException, IllegalArgumentException {
        needIndex(unit, INKS);
        needRange(x, -MOST_DRIFT, MOST_DRIFT);
        needRange(y, -MOST_DRIFT, MOST_DRIFT);
        registers.setDrift(unit, x, y);
    }

    public int correct(int unit, int x, int y)
            throws IndexOutOfBoundsException, IllegalArgumentException, IllegalStateException {
        needIndex(unit, INKS);
        needRange(x, -MOST_CORRECTION, MOST_CORRECTION);
        needRange(y, -MOST_CORRECTION, MOST_CORRECTION);
        if (registers.toCome() >= MOST_TO_COME) {
            throw new IllegalStateException("too many corrections are to come");
        }
        if (rules.delay() == 0) {
            registers.move(unit, x, y);
            return 0;
        }
        return registers.putOff(unit, x, y, press.printed() + rules.delay());
    }

    public int key(int unit, int column, int setting) throws IndexOutOfBoundsException, IllegalArgumentException {
        needIndex(unit, INKS);
        needIndex(column, SIDE);
        needRange(setting, 0, FULL);
        return press.turnKey(unit, column, setting);
    }

    public int tear() {
        return press.breakWeb();
    }

    public void job(int copies) throws IllegalArgumentException, IllegalStateException {
        needRange(copies, 1, MOST_JOB);
        if (work.toPrint() > 0) {
            throw new IllegalStateException("the job ahead is not done");
        }
        work.begin(copies);
    }

    public int print(int copies) throws IllegalArgumentException, IllegalStateException {
        needRange(copies, 1, MOST_AT_ONCE);
        if (press.printed() + copies > MOST_PRINTED) {
            throw new IllegalStateException("too many copies");
        }
        // Neither keys nor plates change while copies are printed.
        boolean densitiesRight = press.densitiesRight(plateSet);
        int good = 0;
        for (int i = 0; i < copies; i++) {
            boolean isGood = press.run(registers, rules.tolerance(), densitiesRight);
            work.take(isGood);
            if (isGood) {
                good++;
            }
        }
        return good;
    }

    // ---- proofs

    public int sign() {
        return proof.take(plateSet, rules);
    }

    public int differs(int cell) throws IndexOutOfBoundsException, IllegalStateException {
        needIndex(cell, CELLS);
        needProof();
        return proof.difference(cell, plateSet, rules);
    }

    public boolean claim(int cell) throws IndexOutOfBoundsException, IllegalStateException {
        needIndex(cell, CELLS);
        needProof();
        return proof.difference(cell, plateSet, rules) > MOST_DIFFERENCE;
    }

    // ---- what is asked

    public int ink(int cell, int ink, int what) throws IndexOutOfBoundsException, IllegalArgumentException {
        needIndex(cell, CELLS);
        needIndex(ink, INKS);
        switch (what) {
            case 0:
                return picture.aheadOfTraps(cell, ink, rules);
            case 1:
                return picture.wanted(cell, ink, rules);
            case 2:
                return PlateSet.leastTint(picture.wanted(cell, ink, rules), rules.gain(ink));
            case 3:
                return plateSet.tint(cell, ink);
            case 4:
                return plateSet.printed(cell, ink, rules);
            default:
                throw new IllegalArgumentException("nothing that can be asked of an ink");
        }
    }

    public boolean dot(int cell, int ink) throws IndexOutOfBoundsException {
        needIndex(cell, CELLS);
        needIndex(ink, INKS);
        return plateSet.hasDot(cell, ink);
    }

    public int unit(int unit, int what) throws IndexOutOfBoundsException, IllegalArgumentException {
        needIndex(unit, INKS);
        needRange(what, 0, 1 + SIDE);
        if (what == 0) {
            return registers.x(unit);
        }
        if (what == 1) {
            return registers.y(unit);
        }
        return press.density(unit, what - 2, plateSet);
    }

    public int copy(int copy, int what) throws IndexOutOfBoundsException, IllegalArgumentException {
        needIndex(copy, work.copies());
        needRange(what, 0, 1);
        if (what == 0) {
            return work.isGood(copy) ? 1 : 0;
        }
        return work.timesPrinted(copy);
    }

    public int next() {
        return work.first();
    }

    public int all(int what) throws IllegalArgumentException {
        switch (what) {
            case 0:
                return press.printed();
            case 1:
                return press.good();
            case 2:
                return press.printed() - press.good();
            case 3:
                return press.wasteByRegister();
            case 4:
                return press.wasteByDensity();
            case 5:
                return work.toPrint();
            case 6:
                return registers.toCome();
            default:
                throw new IllegalArgumentException("no such sum");
        }
    }

    // ---- what calls need

    private static void needIndex(int index, int count) {
        if (index < 0 || index >= count) {
            throw new IndexOutOfBoundsException("no such cell, ink, unit, column or copy");
        }
    }

    private static void needRange(int number, int least, int most) {
        if (number < least || number > most) {
            throw new IllegalArgumentException("out of range");
        }
    }

    private void needProof() {
        if (!proof.isSigned()) {
            throw new IllegalStateException("no proof");
        }
    }

    /** The words that rules begin with, and the numbers that are right behind them. */
    enum RuleWord {
        SHARE("black", 1, 0, 100),
        LIMIT("limit", 1, 100, 400),
        TRAP("trap", 1, 0, 1),
        GAIN("gain", 2, 0, 40),
        TOLERANCE("tolerance", 1, 0, 9),
        DELAY("delay", 1, 0, 50);

        private static final RuleWord[] ALL = values();

        private final String text;
        private final int numbers;
        private final int least;
        private final int most;

        RuleWord(String text, int numbers, int least, int most) {
            this.text = text;
            this.numbers = numbers;
            this.least = least;
            this.most = most;
        }
    }

    /** The rules as they are. */
    static final class Rules {
        private int share = 50;
        private int limit = 300;
        private boolean trap = false;
        private int tolerance = 2;
        private int delay = 10;
        private final int[] gains = new int[INKS];

        Rules() {
            for (int ink = 0; ink < INKS; ink++) {
                gains[ink] = 20;
            }
        }

        int share() {
            return share;
        }

        int limit() {
            return limit;
        }

        boolean trap() {
            return trap;
        }

        int tolerance() {
            return tolerance;
        }

        int delay() {
            return delay;
        }

        int gain(int ink) {
            return gains[ink];
        }

        void setGain(int ink, int number) {
            if (ink >= 0 && ink < INKS) {
                gains[ink] = number;
            }
        }

        void set(RuleWord word, int number) {
            if (word == RuleWord.SHARE) {
                share = number;
            } else if (word == RuleWord.LIMIT) {
                limit = number;
            } else if (word == RuleWord.TRAP) {
                trap = number == 1;
            } else if (word == RuleWord.TOLERANCE) {
                tolerance = number;
            } else if (word == RuleWord.DELAY) {
                delay = number;
            }
        }
    }

    /** The signs that were typed; its parts are the words and numbers among them. */
    static final class Script {
        private final char[] signs = new char[MOST_SIGNS];
        private final int[] begins = new int[MOST_SIGNS];
        private final int[] ends = new int[MOST_SIGNS];
        private int length = 0;
        private int parts = 0;

        static boolean takes(char sign) {
            return sign >= 'a' && sign <= 'z' || isFigure(sign) || sign == ' ';
        }

        private static boolean isFigure(char sign) {
            return sign >= '0' && sign <= '9';
        }

        boolean isFull() {
            return length >= MOST_SIGNS;
        }

        int add(char sign) {
            if (length < MOST_SIGNS) {
                signs[length] = sign;
                length++;
            }
            return length;
        }

        /** Returns how many rules there are, or minus the place of the word that is refused. */
        int carryOut(Rules rules) {
            split();
            int answer = checkParts();
            if (answer > 0) {
                setParts(rules);
            }
            length = 0;
            return answer;
        }

        private void split() {
            parts = 0;
            for (int i = 0; i < length; i++) {
                if (!isBlank(i) && isBlank(i - 1)) {
                    begins[parts] = i;
                }
                if (!isBlank(i) && isBlank(i + 1)) {
                    ends[parts] = i + 1;
                    parts++;
                }
            }
        }

        /** What lies ahead of the signs and behind them parts words as a blank does. */
        private boolean isBlank(int place) {
            return place < 0 || place >= length || signs[place] == ' ';
        }

        private int checkParts() {
            int count = 0;
            int numbersBehind = 0;
            for (int part = 0; part < parts; part++) {
                if (numbersBehind > 0) {
                    numbersBehind--;
                    continue;
                }
                RuleWord word = wordAt(part);
                if (word == null || !hasRightNumbers(word, part)) {
                    return -(part + 1);
                }
                numbersBehind = word.numbers;
                count++;
            }
            return count;
        }

        private void setParts(Rules rules) {
            for (int part = 0; part < parts; part++) {
                // A part that is no word is a number of the rule ahead of it: all parts were checked.
                RuleWord word = wordAt(part);
                if (word != null) {
                    set(rules, word, part);
                }
            }
        }

        private void set(Rules rules, RuleWord word, int part) {
            int number = numberAt(part + word.numbers);
            if (word == RuleWord.GAIN) {
                rules.setGain(numberAt(part + 1), number);
            } else {
                rules.set(word, number);
            }
        }

        private boolean hasRightNumbers(RuleWord word, int part) {
            if (word == RuleWord.GAIN) {
                int ink = numberAt(part + 1);
                if (ink < 0 || ink >= INKS) {
                    return false;
                }
            }
            int number = numberAt(part + word.numbers);
            return number >= word.least && number <= word.most;
        }

        private RuleWord wordAt(int part) {
            for (RuleWord word : RuleWord.ALL) {
                if (reads(part, word.text)) {
                    return word;
                }
            }
            return null;
        }

        private boolean reads(int part, String text) {
            int begin = begins[part];
            int count = ends[part] - begin;
            if (count != text.length()) {
                return false;
            }
            for (int i = 0; i < count; i++) {
                if (signs[begin + i] != text.charAt(i)) {
                    return false;
                }
            }
            return true;
        }

        /** Returns the number that the part is, or NONE, which is below each range. */
        private int numberAt(int part) {
            if (part < 0 || part >= parts || ends[part] - begins[part] > MOST_FIGURES) {
                return NONE;
            }
            int number = 0;
            for (int i = begins[part]; i < ends[part]; i++) {
                if (!isFigure(signs[i])) {
                    return NONE;
                }
                number = number * 10 + (signs[i] - '0');
            }
            return number;
        }
    }

    /** The cells, and what they want of the inks. */
    static final class Picture {
        // Cyan takes away red, magenta green, yellow blue: a row for each, in the order of the inks.
        private final int[][] lights = new int[BLACK][CELLS];

        Picture() {
            for (int cell = 0; cell < CELLS; cell++) {
                paint(cell, FULL, FULL, FULL);
            }
        }

        void paint(int cell, int red, int green, int blue) {
            lights[CYAN][cell] = red;
            lights[MAGENTA][cell] = green;
            lights[YELLOW][cell] = blue;
        }

        int aheadOfTraps(int cell, int ink, Rules rules) {
            int cyan = FULL - lights[CYAN][cell];
            int magenta = FULL - lights[MAGENTA][cell];
            int yellow = FULL - lights[YELLOW][cell];
            int black = Math.min(cyan, Math.min(magenta, yellow)) * rules.share() / 100;
            if (ink == BLACK) {
                return black;
            }
            int three = cyan + magenta + yellow - 3 * black;
            int own = FULL - lights[ink][cell] - black;
            if (three <= 0 || three + black <= rules.limit()) {
                return own;
            }
            return own * (rules.limit() - black) / three;
        }

        int wanted(int cell, int ink, Rules rules) {
            int greatest = aheadOfTraps(cell, ink, rules);
            if (ink == BLACK || !rules.trap()) {
                return greatest;
            }
            int column = cell % SIDE;
            if (cell >= SIDE) {
                greatest = Math.max(greatest, fromSide(cell, cell - SIDE, ink, rules));
            }
            if (cell < CELLS - SIDE) {
                greatest = Math.max(greatest, fromSide(cell, cell + SIDE, ink, rules));
            }
            if (column > 0) {
                greatest = Math.max(greatest, fromSide(cell, cell - 1, ink, rules));
            }
            if (column < SIDE - 1) {
                greatest = Math.max(greatest, fromSide(cell, cell + 1, ink, rules));
            }
            return greatest;
        }

        private int fromSide(int cell, int side, int ink, Rules rules) {
            return light(side) > light(cell) ? aheadOfTraps(side, ink, rules) : 0;
        }

        private int light(int cell) {
            return lights[CYAN][cell] + lights[MAGENTA][cell] + lights[YELLOW][cell];
        }
    }

    /** The tints of the plates, the curve by which they print, and their dots. */
    static final class PlateSet {
        private final int[][] tints = new int[INKS][CELLS];

        private static int curve(int tint, int gain) {
            return tint + gain * tint * (FULL - tint) / 2500;
        }

        static int leastTint(int wanted, int gain) {
            int tint = 0;
            while (tint < FULL && curve(tint, gain) < wanted) {
                tint++;
            }
            return tint;
        }

        /** Returns how many tints are other than before. */
        int make(Picture picture, Rules rules) {
            int others = 0;
            for (int ink = 0; ink < INKS; ink++) {
                for (int cell = 0; cell < CELLS; cell++) {
                    int tint = leastTint(picture.wanted(cell, ink, rules), rules.gain(ink));
                    if (tint != tints[ink][cell]) {
                        tints[ink][cell] = tint;
                        others++;
                    }
                }
            }
            return others;
        }

        int tint(int cell, int ink) {
            return tints[ink][cell];
        }

        int printed(int cell, int ink, Rules rules) {
            return curve(tints[ink][cell], rules.gain(ink));
        }

        boolean hasDot(int cell, int ink) {
            boolean dotted = false;
            int error = 0;
            for (int at = cell - cell % SIDE; at <= cell; at++) {
                error += tints[ink][at];
                dotted = error >= 50;
                if (dotted) {
                    error -= 100;
                }
            }
            return dotted;
        }

        int columnSum(int ink, int column) {
            int sum = 0;
            for (int row = 0; row < SIDE; row++) {
                sum += tints[ink][row * SIDE + column];
            }
            return sum;
        }
    }

    /** How far the units are off, how they drift, and the corrections that are to come. */
    static final class Registers {
        private final int[] xs = new int[INKS];
        private final int[] ys = new int[INKS];
        private final int[] driftXs = new int[INKS];
        private final int[] driftYs = new int[INKS];
        private final int[] dues = new int[MOST_TO_COME];
        private final int[] dueUnits = new int[MOST_TO_COME];
        private final int[] dueXs = new int[MOST_TO_COME];
        private final int[] dueYs = new int[MOST_TO_COME];
        private int toCome = 0;

        int x(int unit) {
            return xs[unit];
        }

        int y(int unit) {
            return ys[unit];
        }

        int toCome() {
            return toCome;
        }

        void setDrift(int unit, int x, int y) {
            driftXs[unit] = x;
            driftYs[unit] = y;
        }

        void move(int unit, int x, int y) {
            xs[unit] += x;
            ys[unit] += y;
        }

        /** Keeps a correction until so many copies were printed; returns how many are to come. */
        int putOff(int unit, int x, int y, int due) {
            if (toCome < MOST_TO_COME) {
                keepAt(toCome, unit, x, y, due);
                toCome++;
            }
            return toCome;
        }

        private void keepAt(int place, int unit, int x, int y, int due) {
            dues[place] = due;
            dueUnits[place] = unit;
            dueXs[place] = x;
            dueYs[place] = y;
        }

        boolean areRight(int tolerance) {
            for (int unit = 0; unit < INKS; unit++) {
                if (Math.abs(xs[unit] - xs[BLACK]) > tolerance || Math.abs(ys[unit] - ys[BLACK]) > tolerance) {
                    return false;
                }
            }
            return true;
        }

        /** Lets come what is due behind the copy that was printed last. */
        void follow(int printed) {
            if (printed % DRIFT_COPIES == 0) {
                for (int unit = 0; unit < INKS; unit++) {
                    move(unit, driftXs[unit], driftYs[unit]);
                }
            }
            int kept = 0;
            for (int i = 0; i < toCome; i++) {
                if (dues[i] <= printed) {
                    move(dueUnits[i], dueXs[i], dueYs[i]);
                } else {
                    keepAt(kept, dueUnits[i], dueXs[i], dueYs[i], dues[i]);
                    kept++;
                }
            }
            toCome = kept;
        }
    }

    /** The keys, the web, and the sums of what was printed. */
    static final class Press {
        private final int[][] keys = new int[INKS][SIDE];
        private int toLeadIn = 0;
        private int printed = 0;
        private int good = 0;
        private int wasteByRegister = 0;
        private int wasteByDensity = 0;

        Press() {
            for (int unit = 0; unit < INKS; unit++) {
                for (int column = 0; column < SIDE; column++) {
                    keys[unit][column] = MIDDLE_KEY;
                }
            }
        }

        int printed() {
            return printed;
        }

        int good() {
            return good;
        }

        int wasteByRegister() {
            return wasteByRegister;
        }

        int wasteByDensity() {
            return wasteByDensity;
        }

        int turnKey(int unit, int column, int setting) {
            int before = keys[unit][column];
            keys[unit][column] = setting;
            return before;
        }

        int breakWeb() {
            toLeadIn = LEAD_IN;
            return toLeadIn;
        }

        int density(int unit, int column, PlateSet plateSet) {
            int m = (plateSet.columnSum(unit, column) - 400) / 8;
            return 100 + keys[unit][column] - MIDDLE_KEY - m / 10;
        }

        boolean densitiesRight(PlateSet plateSet) {
            for (int unit = 0; unit < INKS; unit++) {
                for (int column = 0; column < SIDE; column++) {
                    int density = density(unit, column, plateSet);
                    if (density < LEAST_DENSITY || density > MOST_DENSITY) {
                        return false;
                    }
                }
            }
            return true;
        }

        /** Prints a copy; returns whether it is good. */
        boolean run(Registers registers, int tolerance, boolean densitiesRight) {
            boolean isGood = judge(registers.areRight(tolerance), densitiesRight);
            printed++;
            registers.follow(printed);
            return isGood;
        }

        private boolean judge(boolean registersRight, boolean densitiesRight) {
            if (toLeadIn > 0) {
                toLeadIn--;
                return false;
            }
            if (!registersRight) {
                wasteByRegister++;
                return false;
            }
            if (!densitiesRight) {
                wasteByDensity++;
                return false;
            }
            good++;
            return true;
        }
    }

    /** A job's copies, and the line in which those stand that are not good yet. */
    static final class Job {
        private final int[] times = new int[MOST_JOB];
        private final boolean[] goods = new boolean[MOST_JOB];
        // The line is a ring, for a copy that is waste goes from its head to its end.
        private final int[] line = new int[MOST_JOB];
        private int copies = 0;
        private int head = 0;
        private int waiting = 0;

        int copies() {
            return copies;
        }

        int toPrint() {
            return waiting;
        }

        boolean isGood(int copy) {
            return goods[copy];
        }

        int timesPrinted(int copy) {
            return times[copy];
        }

        int first() {
            return waiting > 0 ? line[head] : NONE;
        }

        void begin(int count) {
            for (int copy = 0; copy < count && copy < MOST_JOB; copy++) {
                times[copy] = 0;
                goods[copy] = false;
                line[copy] = copy;
            }
            copies = count;
            head = 0;
            waiting = count;
        }

        /** Takes the copy that was printed, if it has a number. */
        void take(boolean isGood) {
            if (waiting == 0) {
                return;
            }
            int copy = line[head];
            times[copy]++;
            if (isGood) {
                goods[copy] = true;
                waiting--;
            } else {
                line[(head + waiting) % MOST_JOB] = copy;
            }
            head = (head + 1) % MOST_JOB;
        }
    }

    /** What each cell printed of each ink when the client signed. */
    static final class Proof {
        private final int[][] told = new int[INKS][CELLS];
        private boolean signed = false;

        boolean isSigned() {
            return signed;
        }

        /** Returns the sum of all that the proof tells. */
        int take(PlateSet plateSet, Rules rules) {
            int sum = 0;
            for (int ink = 0; ink < INKS; ink++) {
                for (int cell = 0; cell < CELLS; cell++) {
                    told[ink][cell] = plateSet.printed(cell, ink, rules);
                    sum += told[ink][cell];
                }
            }
            signed = true;
            return sum;
        }

        int difference(int cell, PlateSet plateSet, Rules rules) {
            int sum = 0;
            for (int ink = 0; ink < INKS; ink++) {
                sum += Math.abs(plateSet.printed(cell, ink, rules) - told[ink][cell]);
            }
            return sum;
        }
    }
}
