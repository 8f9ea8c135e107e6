import java.util.Arrays;
import java.util.Random;

/** Promise 4 and 6: many texts, made by a fixed rule, on which the program must answer as the second reading does. */
public final class ModelTest {
    private static final Check check = new Check();
    private static final String[] ATOMS = {"0", "1", "2", "nil", "t", "'a", "'(1 2)", "'(a (b . c) 3)", "268435455", "()"};
    private static final String[] ONE = {"car", "cdr", "consp", "natp", "symbolp"};
    private static final String[] TWO = {"cons", "cons", "cons", "equal", "+", "-", "<"};
    private static final String[] NAMES = {"f", "g", "h", "k"};
    private static final String[] PARAMETERS = {"", "x", "x y", "y x", "x y z"};
    private static final String[] LOOPS = {
        "(defun f (x y) (if (consp x) (f (cdr x) (cons (car x) y)) y))",
        "(defun g (n x) (if (< n 1) x (g (- n 1) (cons x x))))",
        "(defun h (n) (if (< n 1) nil (cons n (h (- n 1)))))",
        "(defun k (n) (cond ((< n 2) n) (t (+ (k (- n 1)) (k (- n 2))))))",
        "(defun k (n) (or (< n 1) (and (list n n) (k (- n 1)))))",
        "(defun g (n x) (let ((y (list x))) (if (< n 1) (equal x y) (g (- n 1) y))))",
        "(defun h (n) (if (consp n) (+ (h (car n)) (h (cdr n))) 1))",
    };
    private static final String[] USES = {
        "(g 4 1)", "(g 11 '(1))", "(h 6)", "(h 30)", "(k 7)", "(k 40)", "(f '(1 2 3 4 5) nil)", "(f (h 5) (h 2))",
        "(equal (g 6 1) (g 6 1))", "(equal (h 9) (h 9))", "(h (g 5 2))", "(list (k 3) (h 3) (g 2 3))", "(f 1)",
        "(equal (g 190 1) (g 190 1))", "(g 195 1)", "(let ((x (h 4)) (y (h 5))) (list (k 9) x y))",
    };
    private static final String[] WIDE = {"list", "car (list", "and", "f", "g", "h 1 (f", "let ((v 1) (w 2)) (list v w"};
    private static final String ALPHABET = "()'. \n;abfx12+-<=*?Z";
    private static final int[] SIZES = {-7, 3, 4, 5, 6, 8, 12, 20, 50, 99, 199, 200, 201, 9999};
    private static final int[] FUELS = {0, 1, 2, 3, 19999, 20000};

    private static final int KINDS_OF_COUNT = 9;

    /** What later calls answer is free. */
    private static final int MOST_CALLS = 512;

    private static int compared;

    private final Random random;

    private ModelTest(int seed) {
        random = new Random(seed);
    }

    public static void main(String[] args) throws InterruptedException {
        int desks = args.length > 0 ? Integer.parseInt(args[0]) : 10000;
        Thread thread = new Thread(null, () -> compareAll(desks), "deep", 64L << 20);
        thread.start();
        thread.join();
        check.due("desks that were compared to the end", compared, desks);
        check.end();
    }

    private static void compareAll(int desks) {
        int[] errors = new int[12];
        for (int seed = 0; seed < desks; seed++) {
            new ModelTest(seed).compare(seed, errors);
            compared++;
        }
        for (int error = 0; error < errors.length; error++) {
            check.due("texts that end with " + error, errors[error] > 0, true);
        }
    }

    private void compare(int seed, int[] errors) {
        int size = pick(SIZES);
        ListSpeaker desk = new ListSpeaker(size);
        Model model = new Model(Math.max(4, Math.min(200, size)));
        int callsLeft = MOST_CALLS;
        for (int run = 0; run < 12; run++) {
            String text = text();
            callsLeft -= text.length() + 1 + KINDS_OF_COUNT;
            if (callsLeft < 0) {
                return;
            }
            int fuel = fuel();
            Check.typeAll(desk, text);
            int error = desk.run(fuel);
            String when = "desk " + seed + ", size " + size + ", fuel " + fuel + ": " + text.replace("\n", "\\n");
            check.due(when, error, model.carryOut(text, fuel));
            int[] counts = new int[KINDS_OF_COUNT];
            for (int what = 0; what < KINDS_OF_COUNT; what++) {
                counts[what] = desk.count(what);
            }
            check.due(when + ": counts", Arrays.toString(counts), Arrays.toString(model.counts()));
            String output = model.printed();
            int shown = Math.min(callsLeft, Math.min(counts[0], output.length()));
            check.due(when + ": output", Check.printed(desk, shown), output.substring(0, shown));
            callsLeft -= shown;
            errors[error]++;
        }
    }

    private int fuel() {
        switch (random.nextInt(6)) {
            case 0: return random.nextInt(60);
            case 1: return pick(FUELS);
            default: return random.nextInt(20001);
        }
    }

    private String text() {
        StringBuilder all = new StringBuilder(random.nextInt(8) == 0 ? crowd() : "");
        for (int n = 1 + random.nextInt(5); n > 0; n--) {
            all.append(piece()).append(random.nextInt(9) == 0 ? ";x\n" : " ");
        }
        if (random.nextInt(4) == 0) {
            spoil(all);
        }
        return all.substring(0, Math.min(300, all.length()));
    }

    private String piece() {
        switch (random.nextInt(12)) {
            case 0: case 1: return pick(LOOPS);
            case 2: case 3: return pick(USES);
            case 4: case 5:
                String parameters = pick(PARAMETERS);
                return "(defun " + pick(NAMES) + " (" + parameters + ") " + form(2 + random.nextInt(3), parameters) + ")";
            case 6: return dataOf(random.nextInt(14));
            case 7: return names(1 + random.nextInt(16));
            case 8: return random.nextInt(3) == 0 ? wide() : "(defun " + name() + " () " + random.nextInt(3) + ")";
            default: return form(1 + random.nextInt(4), "");
        }
    }

    /** About as many functions, symbols or pairs of the store as there may be, within the calls of one desk. */
    private String crowd() {
        switch (random.nextInt(3)) {
            case 0:
                StringBuilder all = new StringBuilder();
                for (char c = 'a'; c < 'm' + random.nextInt(7); c++) {
                    all.append("(defun ").append(c).append("()1)");
                }
                return all.toString();
            case 1: return names(30 + random.nextInt(40));
            default: return "(defun " + name() + "()'(" + ("'".repeat(9) + "1").repeat(5 + random.nextInt(18)) + "))";
        }
    }

    /** Needs about as many places as the stack has. */
    private String wide() {
        String head = pick(WIDE);
        return "(" + head + " 1".repeat(94 + random.nextInt(7)) + " " + form(1, "") + (head.contains("(") ? "))" : ")");
    }

    private String names(int count) {
        StringBuilder all = new StringBuilder("'(");
        for (int i = 0; i < count; i++) {
            all.append(name()).append(' ');
        }
        return all.append(')').toString();
    }

    private String name() {
        return (char) ('a' + random.nextInt(26)) + (random.nextInt(3) == 0 ? "" : "" + random.nextInt(3));
    }

    private String dataOf(int depth) {
        StringBuilder text = new StringBuilder("'");
        int brackets = 0;
        for (int i = 0; i < depth; i++) {
            if (random.nextInt(4) == 0) {
                text.append('\'');
            } else {
                text.append(random.nextInt(3) == 0 ? "(1 . " : "(");
                brackets++;
            }
        }
        if (random.nextInt(10) == 0) {
            return "'(" + ("'".repeat(10) + "1").repeat(17 + random.nextInt(5)) + ")";
        }
        return text + pick(ATOMS) + ")".repeat(brackets);
    }

    private void spoil(StringBuilder text) {
        for (int n = 1 + random.nextInt(2); n > 0 && text.length() > 0; n--) {
            int at = random.nextInt(text.length());
            char c = ALPHABET.charAt(random.nextInt(ALPHABET.length()));
            switch (random.nextInt(3)) {
                case 0: text.deleteCharAt(at); break;
                case 1: text.setCharAt(at, c); break;
                default: text.insert(at, c); break;
            }
        }
    }

    private String form(int depth, String variables) {
        if (depth == 0 || random.nextInt(8) == 0) {
            String[] known = variables.trim().split(" +");
            boolean useVariable = !known[0].isEmpty() && random.nextInt(5) < 3;
            return useVariable ? known[random.nextInt(known.length)] : pick(ATOMS);
        }
        switch (random.nextInt(11)) {
            case 0: return "(if" + forms(3, depth, variables) + ")";
            case 1: return let(depth, variables);
            case 2: return cond(depth, variables);
            case 3: return "(and" + forms(random.nextInt(4), depth, variables) + ")";
            case 4: return "(or" + forms(random.nextInt(4), depth, variables) + ")";
            case 5: return "(list" + forms(random.nextInt(4), depth, variables) + ")";
            case 6: return "(" + pick(ONE) + forms(1, depth, variables) + ")";
            case 7: case 8: return "(" + pick(TWO) + forms(2, depth, variables) + ")";
            case 9: return random.nextInt(30) == 0 ? "(error 1)" : "(" + pick(NAMES) + forms(1, depth, variables) + ")";
            default: return "(" + pick(NAMES) + forms(random.nextInt(4), depth, variables) + ")";
        }
    }

    private String forms(int count, int depth, String variables) {
        StringBuilder all = new StringBuilder();
        for (int i = 0; i < count; i++) {
            all.append(' ').append(form(depth - 1, variables));
        }
        return all.toString();
    }

    private String let(int depth, String variables) {
        switch (random.nextInt(4)) {
            case 0: return "(let ()" + forms(1, depth, variables) + ")";
            case 1: return "(let ((x" + forms(1, depth, variables) + "))" + forms(1, depth, variables + " x") + ")";
            case 2: return "(let ((v" + forms(1, depth, variables) + "))" + forms(1, depth, variables + " v") + ")";
            default: return "(let ((v" + forms(1, depth, variables) + ") (w" + forms(1, depth, variables) + "))"
                + forms(1, depth, variables + " v w") + ")";
        }
    }

    private String cond(int depth, String variables) {
        StringBuilder all = new StringBuilder("(cond");
        for (int n = random.nextInt(3); n > 0; n--) {
            all.append(" (").append(forms(2, depth, variables)).append(')');
        }
        return all.append(')').toString();
    }

    private String pick(String[] choices) {
        return choices[random.nextInt(choices.length)];
    }

    private int pick(int[] choices) {
        return choices[random.nextInt(choices.length)];
    }
}
