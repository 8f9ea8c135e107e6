/** Promise 4: the edges of the stack and of the fuel, sentence by sentence. */
public final class StackEdgesTest {
    private static final Check check = new Check();
    private static final String LOOP = "(defun f (n) (if (< n 1) n (f (- n 1))))";

    /** Forms and the steps that they take. */
    private static final Object[][] STEPS = {
        {"5", 1}, {"nil", 1}, {"t", 1}, {"()", 1}, {"'a", 1}, {"'(1 2 3)", 1}, {"(quote x)", 1},
        {"(if t 1 2)", 3}, {"(if nil 1 2)", 3}, {"(let () 1)", 2}, {"(let ((a 1)) a)", 3},
        {"(let ((a 1) (b 2)) (+ a b))", 6}, {"(cond)", 1}, {"(cond (nil 1))", 2}, {"(cond (1 2))", 3},
        {"(cond (nil 1) (nil 2) (3 4))", 5}, {"(and)", 1}, {"(and 1)", 2}, {"(and nil 1)", 2}, {"(and 1 2)", 3},
        {"(or)", 1}, {"(or nil)", 2}, {"(or 1 2)", 2}, {"(or nil 2)", 3}, {"(list)", 1}, {"(list 1)", 2},
        {"(list 1 2 3)", 4}, {"(cons 1 2)", 3}, {"(car 1)", 2}, {"(cdr '(1))", 2}, {"(consp (natp (symbolp 1)))", 4},
        {"(+ 1 2)", 3}, {"(- 1 2)", 3}, {"(< 1 2)", 3}, {"(equal 1 2)", 3}, {"(equal '(1) 1)", 3}, {"(equal '(1) '(1))", 4},
        {"(equal '(1) '(2))", 4}, {"(equal '(1 2) '(1 2))", 5}, {"(equal '((1) 2) '((1) 2))", 6},
        {"(equal '((1) 2) '((3) 2))", 5}, {"(equal '(1 (2)) '(3 (2)))", 4}, {"(defun g () 1)", 0},
        {"(defun g () (car 1))(g)", 3}, {"(defun g (x) (h x))(defun h (x) x)(g 1)", 5}, {"1 2 3", 3}, {"", 0},
    };

    public static void main(String[] args) {
        hundredPlaces();
        everyValueNeedsAPlace();
        theNilOfAListNeedsAPlace();
        theEmptyPlaceNeedsAPlace();
        variablesOfALetTakePlaces();
        placesAreGivenBack();
        everyFormTakesItsSteps();
        theLastStep();
        fuelComesBeforeAllElse();
        stepsAreThoseOfAllForms();
        lookingTakesNoSteps();
        check.end();
    }

    private static void hundredPlaces() {
        check.sentence("the STACK, which has at most 100 places (DEEP: one more is needed)");
        ListSpeaker fits = new ListSpeaker(4);
        check.says(fits, Check.above(99, "1"), "!3\n");
        check.counts("100 places", fits, 8, 100);
        check.counts("100 places", fits, 6, 101);
        ListSpeaker deep = new ListSpeaker(4);
        check.says(deep, Check.above(100, "1"), "!9\n");
        check.counts("101 places", deep, 8, 100);
        check.counts("101 places", deep, 6, 102);
        ListSpeaker calls = new ListSpeaker(4);
        check.says(calls, "(defun f () (car (f))) (f)", "f\n!9\n");
        check.counts("calls without an end", calls, 8, 100);
        // 100 calls stand open, each after two steps, and the 101st has taken its one
        check.counts("calls without an end", calls, 6, 1 + 2 * 100);
        check.says(calls, "1", "1\n");
        check.counts("behind it", calls, 8, 1);
    }

    private static void everyValueNeedsAPlace() {
        String[] values = {
            "1", "t", "nil", "()", "'a", "(and)", "(or)", "(cond)", "(list)", "(let () 1)", "(if 1 2 3)", "(and 1 2)",
            "(or nil 1)", "(cond (1 2))", "(cond (nil 2))", "(car 1)",
        };
        for (String value : values) {
            check.says(Check.above(99, value), "!3\n");
            check.says(Check.above(100, value), "!9\n");
        }
        check.says("(let ((x 1)) (g" + " x".repeat(99) + "))", "!3\n");
        check.says("(let ((x 1)) (g" + " x".repeat(100) + "))", "!9\n");
        check.says(Check.above(98, "(cons 1 2)"), "!3\n");
        check.says(Check.above(99, "(cons 1 2)"), "!9\n");
    }

    private static void theNilOfAListNeedsAPlace() {
        check.sentence("(list A ..): all A, then nil is put on the stack");
        check.says(new ListSpeaker(200), "(car (list" + " 1".repeat(99) + "))", "1\n");
        check.says(new ListSpeaker(200), "(car (list" + " 1".repeat(100) + "))", "!9\n");
        check.says(Check.above(98, "(car (list 1))"), "!3\n");
        check.says(Check.above(99, "(car (list 1))"), "!9\n");
        ListSpeaker desk = new ListSpeaker(4);
        check.says(desk, "(list" + " 1".repeat(100) + ")", "!9\n");
        check.counts("no pair was made before it", desk, 4, 0);
    }

    private static void theEmptyPlaceNeedsAPlace() {
        check.sentence("A place without a value is put on the stack");
        ListSpeaker fits = new ListSpeaker(4);
        check.says(fits, "(defun f () 1) " + Check.above(98, "(f)"), "f\n!3\n");
        check.counts("an empty place and a value", fits, 8, 100);
        ListSpeaker body = new ListSpeaker(4);
        check.says(body, "(defun f () 1) " + Check.above(99, "(f)"), "f\n!9\n");
        check.counts("DEEP in the body", body, 6, 1 + 99 + 2);
        ListSpeaker place = new ListSpeaker(4);
        check.says(place, "(defun f () 1) " + Check.above(100, "(f)"), "f\n!9\n");
        check.counts("DEEP before the body", place, 6, 1 + 100 + 1);
        check.says(Check.above(100, "(f)"), "!3\n");
        check.says("(defun f (x) x) " + Check.above(100, "(f)"), "f\n!4\n");
        check.says("(defun f (x) x) " + Check.above(97, "(f 1)"), "f\n!3\n");
        check.says("(defun f (x) x) " + Check.above(98, "(f 1)"), "f\n!9\n");
    }

    private static void variablesOfALetTakePlaces() {
        check.sentence("then they are taken out from under its value.");
        check.says(Check.above(98, "(let ((a 1)) a)"), "!3\n");
        check.says(Check.above(99, "(let ((a 1)) a)"), "!9\n");
        check.says(Check.above(97, "(let ((a 1) (b 2)) b)"), "!3\n");
        check.says(Check.above(98, "(let ((a 1) (b 2)) b)"), "!9\n");
        check.says(Check.above(97, "(let ((a 1)) a) (let ((b 2)) b)"), "!3\n");
    }

    private static void placesAreGivenBack() {
        check.sentence("A is evaluated and taken off");
        check.says(Check.above(99, "(if (if (if 1 2 3) 4 5) 6 7)"), "!3\n");
        check.sentence("each A being taken off");
        check.says(Check.above(99, "(cond (nil 1) (nil 2) (3 4))"), "!3\n");
        check.sentence("otherwise on with the rest; the last one is the value");
        check.says(Check.above(99, "(and 1 2 3 4 5)"), "!3\n");
        check.says(Check.above(99, "(or nil nil nil 4)"), "!3\n");
        check.sentence("then its value takes the place of all this.");
        check.says("(defun f (x) x) " + Check.above(95, "(f (f (f 1))) (f 1) (f 1)"), "f\n!3\n");
    }

    private static void everyFormTakesItsSteps() {
        check.sentence("and takes a STEP before all else");
        for (Object[] row : STEPS) {
            ListSpeaker desk = new ListSpeaker(9);
            check.due(row[0] + " with fuel enough", Check.run(desk, (String) row[0], 20000), 0);
            check.counts((String) row[0], desk, 6, (Integer) row[1]);
        }
    }

    private static void theLastStep() {
        check.sentence("(FUEL: there is none left)");
        for (Object[] row : STEPS) {
            String text = (String) row[0];
            int steps = (Integer) row[1];
            check.due(text + " with all its fuel", Check.run(new ListSpeaker(9), text, steps), 0);
            for (int fuel = 0; fuel < steps; fuel++) {
                ListSpeaker desk = new ListSpeaker(9);
                check.due(text + " with fuel " + fuel, Check.run(desk, text, fuel), 5);
                check.counts(text, desk, 6, fuel);
            }
        }
    }

    private static void fuelComesBeforeAllElse() {
        check.sentence("and takes a STEP before all else");
        check.says(new ListSpeaker(4), Check.above(100, "1"), 101, "!5\n");
        check.says(new ListSpeaker(4), Check.above(100, "1"), 102, "!9\n");
        check.says(new ListSpeaker(4), "(error 1)", 0, "!5\n");
        check.says(new ListSpeaker(4), "(error 1)", 1, "!5\n");
        check.says(new ListSpeaker(4), "(error 1)", 2, "!8\n");
        check.says(new ListSpeaker(4), "(g)", 0, "!5\n");
        check.says(new ListSpeaker(4), "(g)", 1, "!3\n");
        check.says(new ListSpeaker(4), "(+ 268435455 1)", 2, "!5\n");
        check.says(new ListSpeaker(4), "(+ 268435455 1)", 3, "!7\n");
        check.says(new ListSpeaker(4), "(list 1 2 3 4 5)", 5, "!5\n");
        check.says(new ListSpeaker(4), "(list 1 2 3 4 5)", 6, "!6\n");
    }

    private static void stepsAreThoseOfAllForms() {
        check.sentence("with so many steps in all");
        ListSpeaker desk = new ListSpeaker(4);
        check.says(desk, "1 2 3 4", 3, "1\n2\n3\n!5\n");
        check.counts("three forms", desk, 7, 3);
        check.says(desk, "1 2 3", 3, "1\n2\n3\n");
        // 2 steps for the call, 8 for each turn, 5 for the last one
        check.says(desk, LOOP + "(f 2499) 1", 20000, "f\n0\n1\n");
        check.counts("every step was taken", desk, 6, 20000);
        check.says(desk, "(f 2499) 1", 19999, "0\n!5\n");
        check.counts("one too few", desk, 6, 19999);
        check.says(desk, "(f 2499) 1 2", 20000, "0\n1\n!5\n");
        check.counts("one too many", desk, 6, 20000);
        check.says(desk, "(f 268435455)", 20000, "!5\n");
        check.counts("a loop without an end", desk, 6, 20000);
    }

    private static void lookingTakesNoSteps() {
        check.sentence("Before anything is evaluated, the whole form is looked at");
        ListSpeaker desk = new ListSpeaker(4);
        check.says(desk, "(list 1 2 3 x)", 0, "!2\n");
        check.counts("UNKNOWN", desk, 6, 0);
        check.counts("UNKNOWN", desk, 8, 0);
        check.says(desk, "(list (error 1) (1))", 0, "!1\n");
        check.says(desk, "(list (error 1) (cons 1))", 0, "!4\n");
        check.says(desk, "(list 1 2 (list 3 4 5 (if 1 2)))", 20000, "!1\n");
        check.counts("no pairs were made", desk, 4, 0);
        check.counts("no steps were taken", desk, 6, 0);
        check.says(desk, "(defun f (x) (car x)) (defun f (x) (car x))", 0, "f\nf\n");
        check.counts("definitions take none", desk, 6, 0);
        check.counts("definitions take no places", desk, 8, 0);
    }
}
