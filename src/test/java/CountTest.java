/** Promise 6: count. */
public final class CountTest {
    private static final Check check = new Check();

    public static void main(String[] args) {
        beforeTheFirstRun();
        anotherWhat();
        characters();
        functions();
        symbols();
        pairsInTheStore();
        pairsMade();
        collections();
        steps();
        forms();
        places();
        latestRunAlone();
        check.end();
    }

    private static void areDue(String when, ListSpeaker desk, int... due) {
        for (int what = 0; what < due.length; what++) {
            check.counts(when, desk, what, due[what]);
        }
    }

    private static void beforeTheFirstRun() {
        check.sentence("No functions, no text.");
        ListSpeaker desk = new ListSpeaker(9);
        areDue("new", desk, 0, 0, 21, 0, 0, 0, 0, 0, 0);
        Check.typeAll(desk, "(defun f (x) (list x)) (f");
        areDue("typed", desk, 0, 0, 21, 0, 0, 0, 0, 0, 0);
        desk.clear();
        areDue("cleared", desk, 0, 0, 21, 0, 0, 0, 0, 0, 0);
    }

    private static void anotherWhat() {
        check.sentence("NONE for another what.");
        int[] others = {-1, 9, -2, 10, 256, 65536, Integer.MIN_VALUE, Integer.MAX_VALUE};
        ListSpeaker desk = new ListSpeaker(9);
        for (int what : others) {
            check.counts("before the first run", desk, what, -1);
        }
        check.ends(desk, "(list 1 2)", 0);
        for (int what : others) {
            check.counts("behind a run", desk, what, -1);
        }
    }

    private static void characters() {
        check.sentence("what = 0 how many characters of output there are");
        counted("", 0, 0);
        counted("1", 0, 2);
        counted("12 'abc ()", 0, 3 + 4 + 4);
        counted("(defun f () 1)", 0, 2);
        counted("'(a . b)", 0, 8);
        ListSpeaker desk = new ListSpeaker(9);
        check.ends(desk, "1 x", 2);
        check.counts("an error is printed too", desk, 0, 2 + 3);
    }

    private static void counted(String text, int what, int want) {
        ListSpeaker desk = new ListSpeaker(9);
        check.ends(desk, text, 0);
        check.counts(text, desk, what, want);
    }

    private static void functions() {
        check.sentence("1 functions");
        counted("", 1, 0);
        counted("(car 1)", 1, 0);
        counted("(defun f () 1)", 1, 1);
        counted("(defun f () 1) (defun f () 1)", 1, 1);
        counted("(defun f () (g)) (defun h () 1)", 1, 2);
    }

    private static void symbols() {
        check.sentence("2 symbols");
        counted("", 2, 21);
        counted("(car '(nil t))", 2, 21);
        counted("'a", 2, 22);
        counted("'(a b (a . b))", 2, 23);
        counted("; a\n1", 2, 21);
        counted("(defun f (x y) (g x y))", 2, 25);
    }

    private static void pairsInTheStore() {
        check.sentence("3 pairs in the store");
        counted("'(1 2 3)", 3, 0);
        counted("(defun f () 1)", 3, 4);
        counted("(defun f (x) 'x)", 3, 7);
        counted("(defun f (x) '(x . x)) (f 1)", 3, 8);
        counted("(defun f (x y) (list x y)) (defun f (x y) (list x y))", 3, 9);
        counted("(defun f () ()) (defun g () 2)", 3, 8);
    }

    private static void pairsMade() {
        check.sentence("4 pairs made by cons and list that were not collected yet");
        counted("'(1 2 3)", 4, 0);
        counted("(cons 1 2)", 4, 1);
        counted("(list)", 4, 0);
        counted("(list 1 2 3)", 4, 3);
        counted("(car (list 1 2 3)) (cons 1 2)", 4, 4);
        counted("(list 1 2 3 4 5 6 7 8 9)", 4, 9);
        counted("(list 1 2 3 4 5 6 7 8 9) (cons 1 2)", 4, 1);
    }

    private static void collections() {
        check.sentence("5 collections in all");
        counted("(list 1 2 3 4 5 6 7 8 9)", 5, 0);
        counted("(list 1 2 3 4 5 6 7 8 9) (cons 1 2)", 5, 1);
        ListSpeaker desk = new ListSpeaker(4);
        for (int made = 1; made <= 20; made++) {
            check.says(desk, "(cons 1 2)", "(1 . 2)\n");
            check.counts("behind " + made, desk, 5, (made - 1) / 4);
        }
    }

    private static void steps() {
        check.sentence("6 steps of the latest run");
        counted("", 6, 0);
        counted("1", 6, 1);
        counted("'(a b)", 6, 1);
        counted("(if nil 1 2)", 6, 3);
        counted("(let ((a 1) (b 2)) a)", 6, 4);
        counted("(cond (nil 1) (t 2) (t 3))", 6, 4);
        counted("(and 1 nil 2)", 6, 3);
        counted("(or nil 1 2)", 6, 3);
        counted("(list 1 2 3)", 6, 4);
        counted("(cons 1 (+ 2 3))", 6, 5);
        counted("(equal '(1 2) '(1 2))", 6, 5);
        counted("(defun f (x) (car x)) (defun f (x) (car x))", 6, 0);
        counted("(defun f (x) (car x)) (f 1)", 6, 4);
    }

    private static void forms() {
        check.sentence("7 forms that were carried out in the latest run without an error");
        counted("", 7, 0);
        counted("; 1", 7, 0);
        counted("1", 7, 1);
        counted("1 '(2 3) (defun f () 1) (f)", 7, 4);
        counted("(defun f () 1) (defun f () 1)", 7, 2);
        ListSpeaker desk = new ListSpeaker(4);
        check.ends(desk, "1 2 (car x) 3", 2);
        check.counts("two before an error", desk, 7, 2);
        check.ends(desk, "(error 1) 3", 8);
        check.counts("none before an error", desk, 7, 0);
        check.ends(desk, "1 (", 1);
        check.counts("one before what is no datum", desk, 7, 1);
    }

    private static void places() {
        check.sentence("8 the most places of the stack that were taken at once in the latest run.");
        counted("", 8, 0);
        counted("1", 8, 1);
        counted("(car (cdr 1))", 8, 1);
        counted("(cons 1 2)", 8, 2);
        counted("(list)", 8, 1);
        counted("(list 1 2 3)", 8, 4);
        counted("(if 1 2 3)", 8, 1);
        counted("(and 1 2 3)", 8, 1);
        counted("(or nil nil 3)", 8, 1);
        counted("(cond (nil 1) (2 3))", 8, 1);
        counted("(let ((a 1) (b 2)) 3)", 8, 3);
        counted("(let () 3)", 8, 1);
        counted("(cons 1 (let ((a 1)) (let ((b 2)) (+ a b))))", 8, 5);
        counted("(defun f (x) x)", 8, 0);
        counted("(defun f (x) x) (f 1)", 8, 3);
        counted("(cons 1 2) 1", 8, 2);
        ListSpeaker desk = new ListSpeaker(4);
        check.ends(desk, "(list 1 2 (error 3))", 8);
        check.counts("before an error", desk, 8, 3);
    }

    private static void latestRunAlone() {
        check.sentence("in the latest run");
        ListSpeaker desk = new ListSpeaker(4);
        check.says(desk, "(defun f (x) (list x x)) (f 1) (f 'a) (f 2)", "f\n(1 1)\n(a a)\n(2 2)\n");
        areDue("first run", desk, 20, 1, 24, 8, 2, 1, 15, 4, 5);
        check.says(desk, "7", "7\n");
        areDue("second run", desk, 2, 1, 24, 8, 2, 1, 1, 1, 1);
        check.says(desk, "(f b", "!1\n");
        areDue("third run", desk, 3, 1, 25, 8, 2, 1, 0, 0, 0);
        check.says(desk, "", "");
        areDue("fourth run", desk, 0, 1, 25, 8, 2, 1, 0, 0, 0);
    }
}
