/** Promise 4: the edges of calls and of tails, sentence by sentence. */
public final class CallEdgesTest {
    private static final Check check = new Check();

    public static void main(String[] args) {
        argumentsAreEvaluatedInOrder();
        undefined();
        arguments();
        noOtherVariables();
        theValueTakesThePlace();
        tailsTakeThePlace();
        everyTail();
        whatIsNoTail();
        tailsOfAFormAreNone();
        tailsMayHaveMoreOrFewerArguments();
        tailsAreRefusedAsCallsAre();
        argumentsOfATailNeedPlaces();
        check.end();
    }

    private static void argumentsAreEvaluatedInOrder() {
        check.sentence("a CALL: all A in order.");
        check.says("(f (error 1) (+ 268435455 1))", "!8\n");
        check.says("(f (+ 268435455 1) (error 1))", "!7\n");
        check.says("(defun f (x y) (list x y)) (f 1 2)", "f\n(1 2)\n");
        check.says("(defun f () 5) (f)", "f\n5\n");
    }

    private static void undefined() {
        check.sentence("UNDEFINED, if F is no function then");
        check.says("(f)", "!3\n");
        check.says("(f 1 2 3 4 5 6 7)", "!3\n");
        check.says("(f (error 1))", "!8\n");
        check.says("(if 1 2 (f))", "2\n");
        check.says("(let ((f 1)) (f))", "!3\n");
        check.says("(nil 1)", "!3\n");
        check.says("(t)", "!3\n");
        ListSpeaker desk = new ListSpeaker(9);
        check.says(desk, "(defun f () (g 1)) (f)", "f\n!3\n");
        check.says(desk, "(defun g (x) (car (h x))) (f)", "g\n!3\n");
        check.says(desk, "(defun h (x) (cons x x)) (f) (g 2)", "h\n1\n2\n");
    }

    private static void arguments() {
        check.sentence("ARGUMENTS, if it has not as many PARAMETERS.");
        String[] names = {"", "a", "a b", "a b c", "a b c d", "a b c d e"};
        for (int parameters = 0; parameters < names.length; parameters++) {
            for (int given = 0; given <= 7; given++) {
                check.says("(defun f (" + names[parameters] + ") 9) (f" + " 1".repeat(given) + ")",
                    given == parameters ? "f\n9\n" : "f\n!4\n");
            }
        }
        check.says("(defun f (x) x) (f 1 (error 2))", "f\n!8\n");
        check.says("(defun f (x) x) (if 1 2 (f))", "f\n2\n");
        check.says("(defun f (x) (g)) (f)", "f\n!4\n");
    }

    private static void noOtherVariables() {
        check.sentence("its parameters being variables with these values (no others are there)");
        check.says("(defun f () x) (let ((x 1)) (f))", "!2\n");
        check.says("(defun f (x) (g)) (defun g () x)", "f\n!2\n");
        check.says("(defun f (x) (list x (g 2) x)) (defun g (x) x) (let ((x 3)) (list (f 1) x))", "f\ng\n((1 2 1) 3)\n");
    }

    private static void theValueTakesThePlace() {
        check.sentence("then its value takes the place of all this.");
        check.says("(defun f (a b c) (let ((d 1)) (list a b c d))) (list 7 (f 1 2 3) 8 (f 4 5 6) 9)",
            "f\n(7 (1 2 3 1) 8 (4 5 6 1) 9)\n");
        placesAre("(defun f () 1) (f)", 2);
        placesAre("(defun f (x y) 1) (f 1 2)", 4);
        placesAre("(defun f (a b c d e) e) (f 1 2 3 4 5)", 7);
        placesAre("(defun f (x) x) (cons (f 1) (f 2))", 4);
    }

    private static void placesAre(String text, int want) {
        ListSpeaker desk = new ListSpeaker(9);
        check.ends(desk, text, 0);
        check.counts(text, desk, 8, want);
    }

    private static void tailsTakeThePlace() {
        check.sentence("But in a TAIL of a function's body its arguments take the place of that function's own, what is above its "
            + "empty place goes, and this stays.");
        placesAre("(defun f (x) (g x x)) (defun g (x y) 1) (f 1)", 4);
        placesAre("(defun f (x) (car (g x x))) (defun g (x y) 1) (f 1)", 6);
        placesAre("(defun f (x) (let ((a 1)) (g))) (defun g () 1) (f 1)", 3);
        placesAre("(defun f () (g)) (defun g () (h)) (defun h () 1) (f)", 2);
        ListSpeaker desk = new ListSpeaker(4);
        check.says(desk, "(defun f (n x) (if (< n 1) x (let ((y (list n n))) (f (- n 1) y)))) (f 99 nil)", "f\n(1 1)\n");
        check.counts("99 turns with a let", desk, 8, 6);
        check.says(desk, "(defun g (n x) (if (< n 1) (h x) (g (- n 1) (list n n)))) (defun h (x) (car x)) (list 5 (g 99 nil) 6)",
            "g\nh\n(5 1 6)\n");
        check.counts("5, n, x, the empty place, n - 1, n, n, nil", desk, 8, 8);
    }

    private static void everyTail() {
        check.sentence("(Tails: the body; of a tail: B and C of if, B of let, the B of cond, the last A of and and or.)");
        ListSpeaker endless = new ListSpeaker(4);
        check.says(endless, "(defun f () (f)) (f)", "f\n!5\n");
        check.counts("the body", endless, 8, 1);
        turns("(if (< n 1) 'end (f (- n 1)))");
        turns("(if (< 0 n) (f (- n 1)) 'end)");
        turns("(let ((m (- n 1))) (if (< n 1) 'end (f m)))");
        turns("(let () (if (< n 1) 'end (f (- n 1))))");
        turns("(cond ((< n 1) 'end) (t (f (- n 1))))");
        turns("(cond ((< 0 n) (f (- n 1))) (t 'end))");
        turns("(or (and (< n 1) 'end) (f (- n 1)))");
        turns("(if (< n 1) 'end (and (f (- n 1))))");
        turns("(if (< n 1) 'end (and 1 2 (f (- n 1))))");
        turns("(if (< n 1) 'end (or (f (- n 1))))");
        turns("(if (< n 1) 'end (or nil nil (f (- n 1))))");
        turns("(if (< n 1) 'end (cond (nil 1) (1 (let ((a 2)) (and a (or nil (if nil 3 (f (- n 1)))))))))");
    }

    /** With 300 turns the stack would not do if the call were no tail. */
    private static void turns(String body) {
        check.says("(defun f (n) " + body + ") (f 300)", "f\nend\n");
    }

    private static void whatIsNoTail() {
        deep("(car (f))");
        deep("(list (f))");
        deep("(cons 1 (f))");
        deep("(if (f) 1 2)");
        deep("(let ((a (f))) 1)");
        deep("(cond ((f) 1))");
        deep("(cond (nil 1) ((f) 1))");
        deep("(and (f) 1)");
        deep("(and 1 (f) 2)");
        deep("(or (f) 1)");
        deep("(or nil (f) 2)");
        deep("(car (if 1 (f) 2))");
        deep("(car (if nil 1 (f)))");
        deep("(car (let () (f)))");
        deep("(car (cond (1 (f))))");
        deep("(car (cond (nil 1) (1 (f))))");
        deep("(car (and (f)))");
        deep("(car (and 1 (f)))");
        deep("(car (or (f)))");
        deep("(car (or nil (f)))");
        check.says("(defun f (x) (f (f x))) (f 1)", "f\n!9\n");
        check.says("(defun f () (g)) (defun g () (car (f))) (f)", "f\ng\n!9\n");
    }

    private static void deep(String body) {
        check.says("(defun f () " + body + ") (f)", "f\n!9\n");
    }

    private static void tailsOfAFormAreNone() {
        check.sentence("But in a TAIL of a function's body");
        check.says("(defun f (x) x) (let ((a 1)) (f a)) (if 1 (f 2) 3) (cond (1 (f 4))) (and 1 (f 5)) (or nil (f 6))",
            "f\n1\n2\n4\n5\n6\n");
        placesAre("(defun f (x) x) (let ((a 1) (b 2)) (f a))", 5);
        placesAre("(defun f (x) x) (if 1 (f 1) 2)", 3);
        placesAre("(defun f (x) x) (if nil 1 (f 2))", 3);
        placesAre("(defun f (x) x) (cond (nil 1) (1 (f 2)))", 3);
        placesAre("(defun f (x) x) (and 1 (or nil (f 2)))", 3);
    }

    private static void tailsMayHaveMoreOrFewerArguments() {
        check.sentence("its arguments take the place of that function's own");
        check.says("(defun f (a b c d e) (g e)) (defun g (a) (h)) (defun h () 7) (list 1 (f 1 2 3 4 5) 2)", "f\ng\nh\n(1 7 2)\n");
        check.says("(defun f () (g 1)) (defun g (a) (h a 2 3 4 5)) (defun h (a b c d e) (list e d c b a)) (list 1 (f) 2)",
            "f\ng\nh\n(1 (5 4 3 2 1) 2)\n");
        check.says("(defun f (a b) (if a (f b nil) b)) (list 1 (f 2 3) 4)", "f\n(1 nil 4)\n");
        check.says("(defun f (a b n) (if (< n 1) (list a b) (f b a (- n 1)))) (f 1 2 3)", "f\n(2 1)\n");
        check.says("(defun f (n x) (cond ((< n 1) x) ((consp x) (g n x 1)) (t (f (- n 1) (list x))))) (defun g (n x y) (f (- n y) "
            + "(car x))) (list 8 (f 5 0) 9)", "f\ng\n(8 (0) 9)\n");
    }

    private static void tailsAreRefusedAsCallsAre() {
        check.sentence("UNDEFINED, if F is no function then");
        check.says("(defun f () (g)) (f)", "f\n!3\n");
        check.sentence("ARGUMENTS, if it has not as many PARAMETERS.");
        check.says("(defun f (x) (f)) (f 1)", "f\n!4\n");
        check.says("(defun f (x) (f x x)) (f 1)", "f\n!4\n");
    }

    /** The value of f is the last one of a call that nobody has defined: that call is reached if there were places enough. */
    private static void argumentsOfATailNeedPlaces() {
        check.sentence("(DEEP: one more is needed)");
        String tail = "(defun f () (h 1)) (defun h (x) x) ";
        String noTail = "(defun f () (car (h 1))) (defun h (x) x) ";
        String toFewer = "(defun f (a b) (h 1)) (defun h (x) x) ";
        check.says(tail + Check.above(97, "(f)"), "f\nh\n!3\n");
        check.says(tail + Check.above(98, "(f)"), "f\nh\n!9\n");
        check.says(noTail + Check.above(96, "(f)"), "f\nh\n!3\n");
        check.says(noTail + Check.above(97, "(f)"), "f\nh\n!9\n");
        check.says(toFewer + Check.above(96, "(f 1 2)"), "f\nh\n!3\n");
        check.says(toFewer + Check.above(97, "(f 1 2)"), "f\nh\n!9\n");
    }
}
