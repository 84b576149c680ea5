/** A house whose calls are told as text, such as "ink 0 3 0", and answer as text. */
final class Calls {
    static final String INDEX = "index";
    static final String ARGUMENT = "argument";
    static final String STATE = "state";

    private static final int MOST_CALLS = 512;

    private final GravureHouse house = new GravureHouse();
    private int calls = 0;

    /** Plays rows of calls; returns the first that is wrong, with its answer, or null. */
    String play(String rows) {
        for (String row : rows.split("\n")) {
            String wrong = row.isBlank() ? null : playRow(row.trim());
            if (wrong != null) {
                return wrong;
            }
        }
        return calls <= MOST_CALLS ? null : calls + " calls, of which the document promises " + MOST_CALLS;
    }

    private String playRow(String row) {
        String[] sides = row.split(" = ");
        String due = sides.length > 1 ? sides[1] : null;
        String[] words = sides[0].split(" ");
        if (words[0].equals("each")) {
            return playEach(Integer.parseInt(words[1]), Integer.parseInt(words[2]), behind(sides[0], 3), due);
        }
        if (words.length > 1 && words[1].equals("*")) {
            return playEach(1, Integer.parseInt(words[0]), behind(sides[0], 2), due);
        }
        return playCall(sides[0], due);
    }

    private String playEach(int from, int to, String call, String due) {
        for (int number = from; number <= to; number++) {
            String here = Integer.toString(number);
            String wrong = playCall(call.replace("#", here), due == null ? null : due.replace("#", here));
            if (wrong != null) {
                return wrong;
            }
        }
        return null;
    }

    private String playCall(String call, String due) {
        String got = answer(call);
        boolean threw = got.equals(INDEX) || got.equals(ARGUMENT) || got.equals(STATE) || got.contains("Exception");
        if (due == null ? threw : !got.equals(due)) {
            return call + " answered " + got + ", due is " + (due == null ? "no exception" : due);
        }
        return null;
    }

    private String answer(String call) {
        String[] words = call.split(" ");
        if (words[0].equals("types")) {
            return typed(behind(call, 1));
        }
        if (words[0].equals("rules")) {
            typed(behind(call, 1));
            return answer("apply", new int[0]);
        }
        int[] numbers = new int[words.length - 1];
        for (int i = 0; i < numbers.length; i++) {
            numbers[i] = Integer.parseInt(words[i + 1]);
        }
        return answer(words[0], numbers);
    }

    private String typed(String signs) {
        String last = "";
        for (char sign : signs.toCharArray()) {
            last = answer("type", new int[] {sign});
        }
        return last;
    }

    private static String behind(String text, int words) {
        String[] parts = text.split(" ", words + 1);
        return parts.length > words ? parts[words] : "";
    }

    /** Makes the call; an exception is answered by its word, and one that no promise names by its own text. */
    String answer(String name, int[] n) {
        calls++;
        try {
            return change(name, n);
        } catch (RuntimeException e) {
            if (e.getClass() == IndexOutOfBoundsException.class) {
                return INDEX;
            }
            if (e.getClass() == IllegalArgumentException.class) {
                return ARGUMENT;
            }
            return e.getClass() == IllegalStateException.class ? STATE : e.toString();
        }
    }

    private String change(String name, int[] n) {
        switch (name) {
            case "colour":
                house.colour(n[0], n[1], n[2], n[3]);
                return "";
            case "type":
                return "" + house.type((char) n[0]);
            case "apply":
                return "" + house.apply();
            case "plates":
                return "" + house.plates();
            case "drift":
                house.drift(n[0], n[1], n[2]);
                return "";
            case "correct":
                return "" + house.correct(n[0], n[1], n[2]);
            case "key":
                return "" + house.key(n[0], n[1], n[2]);
            case "tear":
                return "" + house.tear();
            case "job":
                house.job(n[0]);
                return "";
            case "print":
                return "" + house.print(n[0]);
            case "sign":
                return "" + house.sign();
            default:
                return question(name, n);
        }
    }

    private String question(String name, int[] n) {
        switch (name) {
            case "differs":
                return "" + house.differs(n[0]);
            case "claim":
                return "" + house.claim(n[0]);
            case "ink":
                return "" + house.ink(n[0], n[1], n[2]);
            case "dot":
                return "" + house.dot(n[0], n[1]);
            case "unit":
                return "" + house.unit(n[0], n[1]);
            case "copy":
                return "" + house.copy(n[0], n[1]);
            case "next":
                return "" + house.next();
            case "all":
                return "" + house.all(n[0]);
            default:
                throw new UnsupportedOperationException("no such call: " + name);
        }
    }
}
