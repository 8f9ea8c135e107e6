/** Promise 6: count. */
public final class CountTest {
    private static final Check check = new Check();

    public static void main(String[] args) {
        knowsNothingElse();
        steps();
        stepsOfEqual();
        places();
        latestRunAlone();
        check.end();
    }

    private static void knowsNothingElse() {
        ListSpeaker desk = new ListSpeaker(9);
        int[] others = {-1, 9, 10, Integer.MIN_VALUE, Integer.MAX_VALUE};
        for (int what : others) {
            check.counts("another what", desk, what, ListSpeaker.NONE);
        }
    }

    private static void steps() {
        stepsAre("", 0);
        stepsAre("1", 1);
        stepsAre("'(a b)", 1);
        stepsAre("(if nil 1 2)", 3);
        stepsAre("(let ((a 1) (b 2)) a)", 4);
        stepsAre("(let () 1)", 2);
        stepsAre("(cond)", 1);
        stepsAre("(cond (nil 1) (t 2) (t 3))", 4);
        stepsAre("(and)", 1);
        stepsAre("(and 1 nil 2)", 3);
        stepsAre("(or)", 1);
        stepsAre("(or nil 1 2)", 3);
        stepsAre("(list 1 2 3)", 4);
        stepsAre("(cons 1 (+ 2 3))", 5);
        stepsAre("(defun f (x) (car x)) (defun f (x) (car x))", 0);
        stepsAre("(defun f (x) (car x)) (f 1)", 4);
    }

    private static void stepsAre(String text, int want) {
        ListSpeaker desk = new ListSpeaker(9);
        Check.typeAll(desk, text);
        check.due(text, desk.run(100), 0);
        check.counts(text, desk, 6, want);
    }

    /** 3 steps for the form and what is in it, then one each time that two pairs are compared. */
    private static void stepsOfEqual() {
        stepsAre("(equal 1 1)", 3);
        stepsAre("(equal '(1) 1)", 3);
        stepsAre("(equal '(1) '(1))", 4);
        stepsAre("(equal '(1 2 3) '(1 2 3))", 6);
        stepsAre("(equal '(1 2 3) '(2 2 3))", 4);
        stepsAre("(equal '((1 2) 3) '((1 4) 3))", 6);
        stepsAre("(equal '((1 2) 3) '((1 2) 4))", 7);
        stepsAre("(equal '(1 (2)) '((2) 1))", 4);
        stepsAre("(let ((x '(1 2 3))) (equal x x))", 2 + 3 + 3);
        ListSpeaker desk = new ListSpeaker(20);
        check.says(desk, "(let ((x (cons 1 1))) (let ((y (cons x x))) (equal (cons y y) (cons y y))))", "t\n");
        check.counts("shared pairs are compared each time", desk, 6, 1 + 3 + 1 + 3 + 7 + 7);
        check.says(desk, "(let ((x (cons 1 1))) (let ((y (cons x x))) (equal (cons y y) (cons y y))))", 18, "!5\n");
        check.counts("all fuel is spent", desk, 6, 18);
    }

    private static void places() {
        placesAre("", 0);
        placesAre("1", 1);
        placesAre("(car (cdr 1))", 1);
        placesAre("(cons 1 2)", 2);
        placesAre("(list 1 2 3)", 4);
        placesAre("(list)", 1);
        placesAre("(if 1 2 3)", 1);
        placesAre("(and 1 2 3)", 1);
        placesAre("(or nil nil 3)", 1);
        placesAre("(cond (nil 1) (2 3))", 1);
        placesAre("(let ((a 1) (b 2)) 3)", 3);
        placesAre("(let () 3)", 1);
        placesAre("(cons 1 (let ((a 1)) (let ((b 2)) (+ a b))))", 5);
        placesAre("(defun f () 1) (f)", 2);
        placesAre("(defun f (x y) 1) (f 1 2)", 4);
        placesAre("(defun f (x) (g x x)) (defun g (x y) 1) (f 1)", 4);
        placesAre("(defun f (x) (car (g x x))) (defun g (x y) 1) (f 1)", 6);
        placesAre("(defun f (x) (let ((a 1)) (g))) (defun g () 1) (f 1)", 3);
        placesAre("(cons 1 2) 1", 2);
    }

    private static void placesAre(String text, int want) {
        ListSpeaker desk = new ListSpeaker(9);
        Check.typeAll(desk, text);
        check.due(text, desk.run(100), 0);
        check.counts(text, desk, 8, want);
    }

    private static void latestRunAlone() {
        ListSpeaker desk = new ListSpeaker(4);
        check.says(desk, "(defun f (x) (list x x)) (f 1) (f 'a) (f 2)", "f\n(1 1)\n(a a)\n(2 2)\n");
        int[] first = {20, 1, 24, 8, 2, 1, 15, 4, 5};
        for (int what = 0; what < first.length; what++) {
            check.counts("first run", desk, what, first[what]);
        }
        check.says(desk, "7", "7\n");
        int[] second = {2, 1, 24, 8, 2, 1, 1, 1, 1};
        for (int what = 0; what < second.length; what++) {
            check.counts("second run", desk, what, second[what]);
        }
        check.says(desk, "(f b", "!1\n");
        int[] third = {3, 1, 25, 8, 2, 1, 0, 0, 0};
        for (int what = 0; what < third.length; what++) {
            check.counts("third run", desk, what, third[what]);
        }
    }
}
