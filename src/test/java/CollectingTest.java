/** Promise 4: ROOM and collections. */
public final class CollectingTest {
    private static final Check check = new Check();

    public static void main(String[] args) {
        makesSizePairs();
        collectsWhatIsOutOfReach();
        keepsWhatIsInReach();
        keepsTheTwoOfThePair();
        tailCallsForget();
        readPairsTakeNoRoom();
        check.end();
    }

    private static void makesSizePairs() {
        ListSpeaker desk = new ListSpeaker(4);
        check.says(desk, "(list 1 2 3 4)", "(1 2 3 4)\n");
        check.counts("as many as there is room for", desk, 4, 4);
        check.counts("no need to collect", desk, 5, 0);
        check.says(desk, "(list 1 2 3 4 5)", "!6\n");
        check.counts("one before the first, one before the fifth", desk, 5, 2);
        check.counts("what was made before the error", desk, 4, 4);
    }

    private static void collectsWhatIsOutOfReach() {
        ListSpeaker desk = new ListSpeaker(4);
        check.says(desk, "(list 1 2 3) (list 4 5)", "(1 2 3)\n(4 5)\n");
        check.counts("the first list went", desk, 5, 1);
        check.counts("(5), and then (4 5)", desk, 4, 2);
        check.says(desk, "1", "1\n");
        check.counts("nothing is collected without need", desk, 4, 2);
        check.says(desk, "(defun f (n) (if (< n 1) 'ok (f (- n (car (cons 1 n)))))) (f 41)", "f\nok\n");
        // 2 free ones, then 4 with each collection: 39 pairs more need 10 collections, the last of which leaves 1 free
        check.counts("after 41 pairs", desk, 5, 11);
        check.counts("after 41 pairs", desk, 4, 3);
    }

    private static void keepsWhatIsInReach() {
        ListSpeaker desk = new ListSpeaker(6);
        check.says(desk, "(defun w (n) (if (< n 1) nil (w (- n (car (list 1))))))"
            + "(let ((a (list 1 (list 2 3) 4))) (let ((b (w 9))) (list (car (cdr a)) b)))", "w\n!6\n");
        check.says(new ListSpeaker(8), "(defun w (n) (if (< n 1) nil (w (- n (car (list 1))))))"
            + "(let ((a (list 1 (list 2 3) 4))) (let ((b (w 9))) (list a b)))", "w\n((1 (2 3) 4) nil)\n");
        check.says(new ListSpeaker(5), "(defun d (x) (list (car (list 7 8)) x)) (list 0 (car (d (cons 5 6))))", "d\n(0 7)\n");
        check.says(new ListSpeaker(4), "(let ((x (list 1 2))) (let ((y (cons x x))) (cons y y)))",
            "(((1 2) 1 2) (1 2) 1 2)\n");
    }

    private static void keepsTheTwoOfThePair() {
        ListSpeaker desk = new ListSpeaker(4);
        check.says(desk, "(list 1 2) (cons (cons 1 2) (cons 3 4))", "(1 2)\n((1 . 2) 3 . 4)\n");
        check.counts("the two lists went when the third pair was to be made", desk, 5, 1);
        check.counts("and three are there", desk, 4, 3);
        check.says(new ListSpeaker(4), "(cons (cons 1 2) (cons (cons 3 4) (cons 5 6)))", "!6\n");
        check.says(new ListSpeaker(5), "(cons (cons 1 2) (cons (cons 3 4) (cons 5 6)))", "((1 . 2) (3 . 4) 5 . 6)\n");
    }

    private static void tailCallsForget() {
        ListSpeaker desk = new ListSpeaker(4);
        check.says(desk, "(defun f (n x) (if (< n 1) x (f (- n 1) (list n n)))) (f 30 nil)", "f\n(1 1)\n");
        check.counts("stack of a tail call", desk, 8, 7);
        check.says(desk, "(defun g (n x) (if (< n 1) x (let ((y (list n n))) (g (- n 1) y)))) (g 30 nil)", "g\n(1 1)\n");
        check.counts("stack of a tail call in a let", desk, 8, 6);
        check.says(desk, "(defun h (n x) (if (< n 1) x (car (list (h (- n 1) (list n n)))))) (h 3 nil)", "h\n!6\n");
    }

    private static void readPairsTakeNoRoom() {
        ListSpeaker desk = new ListSpeaker(4);
        check.says(desk, "(defun f () '(1 2 3 4 5 6)) (cons (f) '(7 8 9 10))", "f\n((1 2 3 4 5 6) 7 8 9 10)\n");
        check.counts("one pair", desk, 4, 1);
        check.says(desk, "(list 1 2 3 (f))", "(1 2 3 (1 2 3 4 5 6))\n");
        check.says(desk, "(f)", "(1 2 3 4 5 6)\n");
        check.counts("one collection", desk, 5, 1);
    }
}
