/** Promise 4: each of the errors 1 to 11, and which of several comes first. */
public final class ErrorsTest {
    private static final Check check = new Check();

    public static void main(String[] args) {
        syntax();
        syntaxOfDefinitions();
        unknown();
        undefined();
        arguments();
        whatIsSeenFirst();
        nothingIsEvaluatedBefore();
        fuel();
        deep();
        redefined();
        full();
        errorsEndTheRun();
        wrongFuel();
        check.end();
    }

    private static void syntax() {
        String[] wrong = {
            "(1)", "((f) 1)", "('f 1)", "(f . 1)", "(f 1 . 2)", "(car . 1)", "(cons 1 . 2)", "(nil . t)",
            "(quote)", "(quote 1 2)", "(quote . 1)", "(if)", "(if 1 2)", "(if 1 2 3 4)",
            "(let)", "(let ())", "(let () 1 2)", "(let a 1)", "(let 5 1)", "(let (a) 1)", "(let ((a)) 1)",
            "(let ((a 1 2)) 1)", "(let ((a . 1)) 1)", "(let ((a 1) . b) 1)", "(let ((1 1)) 1)", "(let (((a) 1)) 1)",
            "(let ((a 1) (a 2)) a)", "(let ((a 1) (b 2) (b 3)) a)", "(let ((nil 1)) 1)", "(let ((t 1)) 1)", "(let ((quote 1)) 1)",
            "(let ((defun 1)) 1)", "(let ('1) 1)", "(cond 1)", "(cond ())", "(cond (1))", "(cond (1 2 3))",
            "(cond (1 2) . 3)", "(cond (1 . 2))", "(and . 1)", "(or 1 . 2)", "(list 1 . 2)",
            "(car (defun f () 1))", "(if nil (defun f () 1) 2)", "(f (g (1)))", "(and nil (1))",
        };
        for (String text : wrong) {
            check.says(text, "!1\n");
        }
    }

    private static void syntaxOfDefinitions() {
        String[] wrong = {
            "(defun)", "(defun f)", "(defun f ())", "(defun f () 1 2)", "(defun f () 1 . 2)", "(defun . f)",
            "(defun 1 () 1)", "(defun (f) () 1)", "(defun nil () 1)", "(defun t () 1)", "(defun error () 1)",
            "(defun defun () 1)", "(defun < () 1)", "(defun list () 1)", "(defun f 1 1)", "(defun f x 1)",
            "(defun f (x . y) 1)", "(defun f (1) 1)", "(defun f ((x)) 1)", "(defun f (x y x) 1)", "(defun f (x y y) 1)", "(defun f (nil) 1)",
            "(defun f (t) 1)", "(defun f (quote) 1)", "(defun f (defun) 1)", "(defun f 'x 1)",
            "(defun f (a b c d e g) 1)", "(defun f () (defun g () 1))", "(defun f () (if 1 2))", "(defun f () (1))",
        };
        for (String text : wrong) {
            ListSpeaker desk = new ListSpeaker(9);
            check.says(desk, text, "!1\n");
            check.counts(text, desk, 1, 0);
        }
        check.says("(defun f (a b c d e) 1)", "f\n");
    }

    private static void unknown() {
        check.says("x", "!2\n");
        check.says("car", "!2\n");
        check.says("quote", "!2\n");
        check.says("defun", "!2\n");
        check.says("(if nil x 1)", "!2\n");
        check.says("(or 1 x)", "!2\n");
        check.says("(let ((a 1) (b a)) b)", "!2\n");
        check.says("(list (let ((a 1)) a) a)", "!2\n");
        check.says("(defun f (x) y)", "!2\n");
        check.says("(defun f (x) f)", "!2\n");
        check.says("(defun f () x) (let ((x 1)) (f))", "!2\n");
        check.says("(defun f () (g)) (defun g () 1) (let ((x 1)) (f)) (defun h (x) (k)) (defun k () x)",
            "f\ng\n1\nh\n!2\n");
    }

    private static void undefined() {
        check.says("(f)", "!3\n");
        check.says("(f 1 2 3 4 5 6 7)", "!3\n");
        check.says("(nil 1)", "!3\n");
        check.says("(t)", "!3\n");
        check.says("(f (error 1))", "!8\n");
        check.says("(defun f () (g)) (f)", "f\n!3\n");
        check.says("(if t 1 (f))", "1\n");
        check.says("(let ((f 1)) (f))", "!3\n");
    }

    private static void arguments() {
        String[] one = {"car", "cdr", "consp", "natp", "symbolp", "error"};
        for (String name : one) {
            check.says("(" + name + ")", "!4\n");
            check.says("(" + name + " 1 2)", "!4\n");
        }
        String[] two = {"cons", "equal", "+", "-", "<"};
        for (String name : two) {
            check.says("(" + name + ")", "!4\n");
            check.says("(" + name + " 1)", "!4\n");
            check.says("(" + name + " 1 2 3)", "!4\n");
        }
        check.says("(defun f (x) x) (f)", "f\n!4\n");
        check.says("(defun f (x) x) (f 1 2)", "f\n!4\n");
        check.says("(defun f (x) x) (f 1 (error 2))", "f\n!8\n");
        check.says("(defun f () 1) (f 1)", "f\n!4\n");
        check.says("(defun f (x) (f)) (f 1)", "f\n!4\n");
        check.says("(if nil (car) 1)", "!4\n");
        check.says("(defun f () (car))", "!4\n");
        check.says("(error 1)", "!8\n");
        check.says("(error (car 1))", "!8\n");
    }

    /** From left to right; for each list its shape or how many there are, then what is in it. */
    private static void whatIsSeenFirst() {
        check.says("(list x (car))", "!2\n");
        check.says("(list (car) x)", "!4\n");
        check.says("(list x (1))", "!2\n");
        check.says("(list (1) x)", "!1\n");
        check.says("(car x y)", "!4\n");
        check.says("(cons (if) . 1)", "!1\n");
        check.says("(cons (if))", "!4\n");
        check.says("(if x y)", "!1\n");
        check.says("(let ((a x) (a 1)) 2)", "!1\n");
        check.says("(let ((a x) (b)) 2)", "!1\n");
        check.says("(let ((a x)) (car))", "!2\n");
        check.says("(let ((a 1)) (car) x)", "!1\n");
        check.says("(cond (x 1) (2))", "!1\n");
        check.says("(cond (1 (car)) (x 2))", "!4\n");
        check.says("(cond (1 x) ((car) 2))", "!2\n");
        check.says("(defun f (x x) y)", "!1\n");
        check.says("(f x 1 . 2)", "!1\n");
        check.says("(f (g x) (car))", "!2\n");
    }

    private static void nothingIsEvaluatedBefore() {
        ListSpeaker desk = new ListSpeaker(4);
        check.says(desk, "(list 1 2 3 x)", 0, "!2\n");
        check.counts("UNKNOWN", desk, 6, 0);
        check.counts("UNKNOWN", desk, 8, 0);
        check.says(desk, "(list (error 1) (1))", 0, "!1\n");
        check.says(desk, "(list (error 1) (cons 1))", 0, "!4\n");
        check.counts("no pairs were made", desk, 4, 0);
    }

    private static void fuel() {
        check.says(new ListSpeaker(4), "1", 0, "!5\n");
        check.says(new ListSpeaker(4), "1", 1, "1\n");
        check.says(new ListSpeaker(4), "1 2", 1, "1\n!5\n");
        check.says(new ListSpeaker(4), "(defun f () 1)", 0, "f\n");
        check.says(new ListSpeaker(4), "(car (cdr 1))", 2, "!5\n");
        check.says(new ListSpeaker(4), "(car (cdr 1))", 3, "nil\n");
        check.says(new ListSpeaker(4), "(equal '(1 2) '(1 2))", 4, "!5\n");
        check.says(new ListSpeaker(4), "(equal '(1 2) '(1 2))", 5, "t\n");
        check.says(new ListSpeaker(4), "(equal '((1) . 2) '((2) . 2))", 5, "nil\n");
        check.says(new ListSpeaker(4), "(error 1)", 1, "!5\n");
        check.says(new ListSpeaker(4), "(f)", 1, "!3\n");
        check.says(new ListSpeaker(4), "(f)", 0, "!5\n");
        check.says(new ListSpeaker(4), "(defun f () (f)) (f)", 20000, "f\n!5\n");
    }

    private static void deep() {
        ListSpeaker desk = new ListSpeaker(4);
        check.says(desk, "(defun f () (car (f))) (f)", "f\n!9\n");
        check.counts("DEEP", desk, 8, 100);
        // 100 calls stand open, each after its two steps, and the 101st has taken one step
        check.counts("DEEP", desk, 6, 1 + 2 * 100);
        String wide = "(g " + "1 ".repeat(99) + "1)";
        check.says(new ListSpeaker(4), wide, "!3\n");
        check.says(new ListSpeaker(4), "(g " + "1 ".repeat(100) + "1)", "!9\n");
        check.says(new ListSpeaker(200), "(list " + "1 ".repeat(100) + ")", "!9\n");
        check.says(new ListSpeaker(200), "(car (list " + "1 ".repeat(99) + "))", "1\n");
        check.says(new ListSpeaker(200), "(g " + "1 ".repeat(99) + "(and))", "!3\n");
        check.says(new ListSpeaker(200), "(g " + "1 ".repeat(100) + "(and))", "!9\n");
        check.says(new ListSpeaker(200), "(g " + "1 ".repeat(100) + "(or))", "!9\n");
        check.says(new ListSpeaker(200), "(g " + "1 ".repeat(100) + "(cond))", "!9\n");
        check.says(new ListSpeaker(200), "(g " + "1 ".repeat(100) + "'a)", "!9\n");
        check.says(new ListSpeaker(200), "(defun f () 1) (g " + "1 ".repeat(99) + "(f))", "f\n!9\n");
        check.says(new ListSpeaker(200), "(defun f () 1) (g " + "1 ".repeat(98) + "(f))", "f\n!3\n");
        check.says(new ListSpeaker(200), "(g " + "1 ".repeat(100) + "1)", 101, "!5\n");
        check.says(new ListSpeaker(200), "(g " + "1 ".repeat(100) + "1)", 102, "!9\n");
        check.says(new ListSpeaker(200), "(g " + "1 ".repeat(100) + "(h))", 102, "!3\n");
        check.says(new ListSpeaker(200), "(defun h (x) x) (g " + "1 ".repeat(100) + "(h))", "h\n!4\n");
    }

    private static void redefined() {
        check.says("(defun f (x) x) (defun f (y) y)", "f\n!10\n");
        check.says("(defun f (x) 1) (defun f (x) 2)", "f\n!10\n");
        check.says("(defun f (x) 1) (defun f () 1)", "f\n!10\n");
        check.says("(defun f (x y) 1) (defun f (y x) 1)", "f\n!10\n");
        check.says("(defun f (x) 1) (defun f (x) y)", "f\n!2\n");
        check.says("(defun f (x) 1) (defun f (x x) 1)", "f\n!1\n");
        check.says("(defun f (x) (f '(1 2))) (defun f (x) (f '(1 2)))", "f\nf\n");
        ListSpeaker desk = new ListSpeaker(4);
        check.says(desk, "(defun f (x) 1)", "f\n");
        check.says(desk, "(defun f (x) 2)", "!10\n");
        check.says(desk, "(f 0)", "1\n");
        check.says(desk, "(defun f (x) 1)", 0, "f\n");
        check.counts("the same again takes no steps", desk, 6, 0);
    }

    private static void full() {
        ListSpeaker desk = new ListSpeaker(4);
        for (char c = 'a'; c < 'q'; c++) {
            check.says(desk, "(defun " + c + " () 1)", c + "\n");
        }
        check.counts("16 functions", desk, 1, 16);
        check.says(desk, "(defun q () 1)", "!11\n");
        check.says(desk, "(defun q () x)", "!2\n");
        check.says(desk, "(defun p () 1)", "p\n");
        check.says(desk, "(defun p () 2)", "!10\n");
        check.counts("still 16 functions", desk, 1, 16);
        check.counts("their pairs", desk, 3, 64);
        check.says(desk, "(q)", "!3\n");
    }

    private static void errorsEndTheRun() {
        ListSpeaker desk = new ListSpeaker(4);
        check.says(desk, "1 (car x) 2", "1\n!2\n");
        check.due("the text went", desk.clear(), 0);
        check.counts("one form was done", desk, 7, 1);
        check.says(desk, "3", "3\n");
    }

    private static void wrongFuel() {
        ListSpeaker desk = new ListSpeaker(4);
        check.says(desk, "(defun f (x) x) (f (list 1 2))", "f\n(1 2)\n");
        Check.typeAll(desk, "(f 3)");
        int[] counts = new int[9];
        for (int what = 0; what < 9; what++) {
            counts[what] = desk.count(what);
        }
        int[] wrong = {-1, 20001, Integer.MIN_VALUE, Integer.MAX_VALUE};
        for (int fuel : wrong) {
            check.due("run(" + fuel + ") throws", throwsAt(desk, fuel), true);
        }
        for (int what = 0; what < 9; what++) {
            check.counts("nothing changed", desk, what, counts[what]);
        }
        check.due("the output stays", Check.printed(desk), "f\n(1 2)\n");
        check.due("run(20000)", desk.run(20000), 0);
        check.due("the text stayed", Check.printed(desk), "3\n");
        check.due("run(0) of nothing", desk.run(0), 0);
    }

    private static boolean throwsAt(ListSpeaker desk, int fuel) {
        try {
            desk.run(fuel);
            return false;
        } catch (IllegalArgumentException e) {
            return true;
        }
    }
}
