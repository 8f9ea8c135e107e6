/** Promise 4: the edges of defun, sentence by sentence. */
public final class DefinitionEdgesTest {
    private static final Check check = new Check();
    private static final String[] FIRST = {
        "nil", "t", "quote", "if", "let", "cond", "and", "or", "list", "defun", "cons", "car", "cdr", "consp", "natp", "symbolp",
        "equal", "+", "-", "<", "error",
    };

    public static void main(String[] args) {
        notInsideAnotherForm();
        names();
        shapes();
        fiveParameters();
        differentParameters();
        bodiesAreLookedAt();
        redefined();
        theSameAgain();
        theSeventeenth();
        callsBeforeTheDefinition();
        functionsStay();
        check.end();
    }

    private static void notInsideAnotherForm() {
        check.sentence("(defun F (V ..) B), not inside another form");
        refused("(car (defun f () 1))");
        refused("(list (defun f () 1))");
        refused("(let ((a (defun f () 1))) 2)");
        refused("(defun f () (defun g () 1))");
        refused("(defun f () (if nil (defun g () 1) 2))");
    }

    private static void refused(String text) {
        ListSpeaker desk = new ListSpeaker(9);
        check.says(desk, text, "!1\n");
        check.counts(text, desk, 1, 0);
        check.counts(text, desk, 3, 0);
    }

    private static void names() {
        check.sentence("F is a symbol that is not one of the 21");
        for (String name : FIRST) {
            refused("(defun " + name + " (x) x)");
        }
        refused("(defun 1 () 1)");
        refused("(defun () () 1)");
        refused("(defun (f) () 1)");
        refused("(defun 'f () 1)");
        check.says("(defun * (x) x) (* 4) (defun = () 5) (=) (defun ? () 6) (?)", "*\n4\n=\n5\n?\n6\n");
        check.says("(defun errors () 7) (errors) (defun ni () 8) (ni) (defun a () 9) (a)", "errors\n7\nni\n8\na\n9\n");
        check.says("(defun f (f) (if f (f nil) 'end)) (f 1)", "f\nend\n");
    }

    private static void shapes() {
        check.sentence("(defun F (V ..) B), not inside another form");
        String[] wrong = {
            "(defun)", "(defun f)", "(defun f ())", "(defun f () 1 2)", "(defun f () 1 . 2)", "(defun f () . 1)", "(defun . f)",
            "(defun f 1 1)", "(defun f x 1)", "(defun f t 1)", "(defun f (x . y) 1)", "(defun f (x . 1) 1)", "(defun f 'x 1)",
            "(defun f (1) 1)", "(defun f ((x)) 1)", "(defun f (x 2) 1)",
        };
        for (String text : wrong) {
            refused(text);
        }
    }

    private static void fiveParameters() {
        check.sentence("at most 5 parameters");
        check.says("(defun f () 9) (f)", "f\n9\n");
        check.says("(defun f (a b c d) (list d c b a)) (f 1 2 3 4)", "f\n(4 3 2 1)\n");
        check.says("(defun f (a b c d e) (list e d c b a)) (f 1 2 3 4 5)", "f\n(5 4 3 2 1)\n");
        refused("(defun f (a b c d e g) 1)");
        refused("(defun f (a b c d e g h) 1)");
        refused("(defun f (a b c d e g) x)");
    }

    private static void differentParameters() {
        check.sentence("different symbols, not nil, t, quote or defun");
        String[] wrong = {
            "(x x)", "(x y x)", "(x y y)", "(a b c d a)", "(a b c d d)", "(nil)", "(t)", "(quote)", "(defun)", "(a nil)", "(a b c d t)",
        };
        for (String parameters : wrong) {
            refused("(defun f " + parameters + " 1)");
        }
        check.says("(defun f (if car list) (list if car list)) (f 1 2 3)", "f\n(1 2 3)\n");
    }

    private static void bodiesAreLookedAt() {
        check.sentence("B is looked at as above, with them as variables.");
        check.says("(defun f (x) x)", "f\n");
        check.says("(defun f (x) y)", "!2\n");
        check.says("(defun f (x) f)", "!2\n");
        check.says("(defun f (x) (if x y 1))", "!2\n");
        check.says("(defun f (x) (car x x))", "!4\n");
        check.says("(defun f (x) (if x))", "!1\n");
        check.says("(defun f (x) (1))", "!1\n");
        check.says("(defun f (x) (list y (1)))", "!2\n");
        check.says("(defun f (x x) y)", "!1\n");
        ListSpeaker desk = new ListSpeaker(9);
        check.says(desk, "(defun f (x) y)", "!2\n");
        check.counts("refused", desk, 1, 0);
        check.says(desk, "(f 1)", "!3\n");
        check.says(desk, "(defun f (x) x) (f 1)", "f\n1\n");
    }

    private static void redefined() {
        check.sentence("REDEFINED, if F is a function with other parameters or another body (not equal).");
        check.says("(defun f (x) x) (defun f (y) y)", "f\n!10\n");
        check.says("(defun f (x) 1) (defun f (y) 1)", "f\n!10\n");
        check.says("(defun f (x) 1) (defun f () 1)", "f\n!10\n");
        check.says("(defun f () 1) (defun f (x) 1)", "f\n!10\n");
        check.says("(defun f (x y) 1) (defun f (y x) 1)", "f\n!10\n");
        check.says("(defun f (x y) 1) (defun f (x) 1)", "f\n!10\n");
        check.says("(defun f (x) 1) (defun f (x) 2)", "f\n!10\n");
        check.says("(defun f (x) '(1 2 3)) (defun f (x) '(1 2 4))", "f\n!10\n");
        check.says("(defun f () (and)) (defun f () t)", "f\n!10\n");
        check.says("(defun f (x) 1) (defun f (x) y)", "f\n!2\n");
        check.says("(defun f (x) 1) (defun f (x x) 1)", "f\n!1\n");
        ListSpeaker desk = new ListSpeaker(4);
        check.says(desk, "(defun f (x) 1)", "f\n");
        check.says(desk, "(defun f (x) 2) (f 0)", "!10\n");
        check.says(desk, "(f 0)", "1\n");
        check.counts("one function", desk, 1, 1);
    }

    private static void theSameAgain() {
        ListSpeaker desk = new ListSpeaker(4);
        check.says(desk, "(defun f (x) (if x '(1 . 2) (f 'x)))", "f\n");
        int stored = desk.count(3);
        check.says(desk, "(defun f (x) (if x '(1 . 2) (f 'x)))", 0, "f\n");
        check.says(desk, "(defun f (x . ()) (if x (quote (1 . 2)) . ((f 'x)))) (f nil)", "f\n(1 . 2)\n");
        check.counts("one function", desk, 1, 1);
        check.counts("its pairs", desk, 3, stored);
    }

    private static void theSeventeenth() {
        check.sentence("FULL, if it would be the 17th.");
        ListSpeaker desk = new ListSpeaker(4);
        for (char c = 'a'; c < 'p'; c++) {
            check.says(desk, "(defun " + c + "()1)", c + "\n");
        }
        check.counts("15 functions", desk, 1, 15);
        check.says(desk, "(defun p()1)", "p\n");
        check.counts("16 functions", desk, 1, 16);
        check.says(desk, "(defun q()1)", "!11\n");
        check.counts("still 16 functions", desk, 1, 16);
        check.counts("their pairs", desk, 3, 64);
        check.says(desk, "(p) (q)", "1\n!3\n");
        check.says(desk, "(defun q()x)", "!2\n");
        check.says(desk, "(defun a()1) (defun p()1)", "a\np\n");
        check.says(desk, "(defun p()2)", "!10\n");
    }

    private static void callsBeforeTheDefinition() {
        check.sentence("Then F is a function (a call may stand in a body before that).");
        check.says("(defun f (n) (if (< 0 n) (g (- n 1)) 'f)) (defun g (n) (if (< 0 n) (f (- n 1)) 'g)) (f 4) (f 5)",
            "f\ng\nf\ng\n");
        check.says("(defun f (n) (g n n)) (defun g (n) n) (f 1)", "f\ng\n!4\n");
        check.says("(f) (defun f () 1)", "!3\n");
    }

    private static void functionsStay() {
        ListSpeaker desk = new ListSpeaker(4);
        check.says(desk, "(defun f () 1) (defun g () x) (defun h () 2)", "f\n!2\n");
        check.counts("what was defined before an error", desk, 1, 1);
        check.says(desk, "(f)", "1\n");
        check.says(desk, "(h)", "!3\n");
        desk.clear();
        check.says(desk, "(f)", "1\n");
    }
}
