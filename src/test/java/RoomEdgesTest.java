/** Promise 4: the edges of the room and of collections, sentence by sentence. */
public final class RoomEdgesTest {
    private static final Check check = new Check();

    public static void main(String[] args) {
        sizePairsNeedNoCollection();
        theNextOneDoes();
        collectsForEveryPairThatFindsNoRoom();
        whatCannotBeReachedGoes();
        valuesOnTheStackStay();
        theTwoOfThePairStay();
        whatATailLeftBehindGoes();
        roomIsForThoseOfConsAndListAlone();
        noRoom();
        noRoomForOneMore();
        check.end();
    }

    private static void sizePairsNeedNoCollection() {
        check.sentence("SIZE pairs can be made by cons and list.");
        ListSpeaker desk = new ListSpeaker(4);
        check.says(desk, "(list 1 2 3 4)", "(1 2 3 4)\n");
        countsAre(desk, 4, 0);
        ListSpeaker single = new ListSpeaker(4);
        for (int made = 1; made <= 4; made++) {
            check.says(single, "(cons 1 2)", "(1 . 2)\n");
            countsAre(single, made, 0);
        }
        ListSpeaker large = new ListSpeaker(200);
        check.says(large, "(defun f (n) (if (< n 1) 'end (f (- n (car (list 1)))))) (f 200)", "f\nend\n");
        countsAre(large, 200, 0);
    }

    private static void countsAre(ListSpeaker desk, int made, int collections) {
        check.counts("pairs", desk, 4, made);
        check.counts("collections", desk, 5, collections);
    }

    private static void theNextOneDoes() {
        check.sentence("When one is to be made and SIZE are there, there is a COLLECTION");
        ListSpeaker desk = new ListSpeaker(4);
        check.says(desk, "(list 1 2 3 4) 5", "(1 2 3 4)\n5\n");
        countsAre(desk, 4, 0);
        check.says(desk, "(cons 1 2)", "(1 . 2)\n");
        countsAre(desk, 1, 1);
        ListSpeaker large = new ListSpeaker(200);
        check.says(large, "(defun f (n) (if (< n 1) 'end (f (- n (car (list 1)))))) (f 201)", "f\nend\n");
        countsAre(large, 1, 1);
        check.says(large, "(list) (car '(1 2)) (f 0)", "nil\n1\nend\n");
        countsAre(large, 1, 1);
    }

    private static void collectsForEveryPairThatFindsNoRoom() {
        ListSpeaker desk = new ListSpeaker(4);
        check.says(desk, "(let ((x (list 1 2 3))) (list (car (cons 1 x)) (car (cons 2 x)) (car (cons 3 x))))", "!6\n");
        // (cons 1 x) takes the last room; (cons 2 x), (cons 3 x) and the last list find none
        countsAre(desk, 4, 4);
        ListSpeaker other = new ListSpeaker(4);
        check.says(other, "(let ((x (list 1 2 3))) (+ (car (cons 1 x)) (+ (car (cons 2 x)) (car (cons 3 x)))))", "6\n");
        countsAre(other, 4, 2);
        ListSpeaker many = new ListSpeaker(4);
        check.says(many, "(list 1 2) (defun f (n) (if (< n 1) 'ok (f (- n (car (cons 1 n)))))) (f 41)", "(1 2)\nf\nok\n");
        // 2 free ones, then 4 with each collection: 39 pairs more need 10 collections, the last of which leaves 1 free
        countsAre(many, 3, 10);
    }

    private static void whatCannotBeReachedGoes() {
        check.sentence("all that cannot be reached from the values on the stack (the two of the pair among them) go.");
        ListSpeaker desk = new ListSpeaker(4);
        check.says(desk, "(list 1 2 3 4) (list 5 6 7 8) (list 1 2 3 4)", "(1 2 3 4)\n(5 6 7 8)\n(1 2 3 4)\n");
        countsAre(desk, 4, 2);
        check.says(desk, "(car (list 1 2 3 4)) (let ((a (list 1 2))) 3)", "1\n3\n");
        countsAre(desk, 2, 4);
        check.says(desk, "(let ((a (list 1 2))) (let ((b (cons a a))) (cdr b)))", "(1 2)\n");
        countsAre(desk, 3, 5);
        check.says(desk, "(error (cons 1 2))", "!8\n");
        countsAre(desk, 4, 5);
        check.says(desk, "(cons 1 2)", "(1 . 2)\n");
        countsAre(desk, 1, 6);
    }

    private static void valuesOnTheStackStay() {
        check.says(new ListSpeaker(4), "(let ((a (cons 1 2)) (b (car (list 3 4)))) (cons (+ b (car (list 5))) a))", "(8 1 . 2)\n");
        check.says(new ListSpeaker(8), "(defun w (n) (if (< n 1) nil (w (- n (car (list 1))))))"
            + "(let ((a (list 1 (list 2 3) 4))) (let ((b (w 9))) (list a b)))", "w\n((1 (2 3) 4) nil)\n");
        check.says(new ListSpeaker(4), "(defun f (x) (g (car (list 1 2)) x)) (defun g (n x) (cons (car (list 5)) (cons n x))) "
            + "(f (cons 8 9))", "f\ng\n(5 1 8 . 9)\n");
        check.says(new ListSpeaker(4), "(let ((x (list 1 2))) (let ((y (cons x x))) (cons y y)))", "(((1 2) 1 2) (1 2) 1 2)\n");
        check.says(new ListSpeaker(5), "(list (cons 1 2) (car (list 3)) (car (list 4 5)))", "((1 . 2) 3 4)\n");
        // what is reached on many ways must not hide what is reached on one
        check.says(new ListSpeaker(20), "(defun f (n x) (if (< n 1) x (f (- n 1) (cons x x)))) (defun w (n) (if (< n 1) 0 (w (- n (car "
            + "(list 1)))))) (let ((y (list 1 2 3)) (x (f 10 1))) (let ((z (w 30))) y))", "f\nw\n(1 2 3)\n");
    }

    private static void theTwoOfThePairStay() {
        ListSpeaker desk = new ListSpeaker(4);
        check.says(desk, "(list 1 2) (cons (cons 1 2) (cons 3 4))", "(1 2)\n((1 . 2) 3 . 4)\n");
        countsAre(desk, 3, 1);
        ListSpeaker car = new ListSpeaker(4);
        check.says(car, "(list 1 2 3) (cons (cons 1 2) 5)", "(1 2 3)\n((1 . 2) . 5)\n");
        countsAre(car, 2, 1);
        ListSpeaker cdr = new ListSpeaker(4);
        check.says(cdr, "(list 1 2 3) (cons 5 (cons 1 2))", "(1 2 3)\n(5 1 . 2)\n");
        countsAre(cdr, 2, 1);
        ListSpeaker list = new ListSpeaker(4);
        check.says(list, "(list 1 2) (list 1 (cons 2 3) 4)", "(1 2)\n(1 (2 . 3) 4)\n");
        countsAre(list, 4, 1);
    }

    private static void whatATailLeftBehindGoes() {
        check.sentence("what is above its empty place goes");
        check.says(new ListSpeaker(4), "(defun f (n x) (if (< n 1) x (f (- n 1) (list n n)))) (f 30 nil)", "f\n(1 1)\n");
        check.says(new ListSpeaker(4), "(defun f (x) (let ((y (list 1 2))) (g))) (defun g () (list 1 2 3 4)) (f (list 1 2))",
            "f\ng\n(1 2 3 4)\n");
        check.says(new ListSpeaker(4), "(defun f (x) (let ((y (list 1 2))) (car (g)))) (defun g () (list 1 2 3 4)) (f (list 1 2))",
            "f\ng\n!6\n");
    }

    private static void roomIsForThoseOfConsAndListAlone() {
        check.sentence("SIZE pairs can be made by cons and list.");
        ListSpeaker desk = new ListSpeaker(4);
        check.says(desk, "(defun f () '(1 2 3 4 5 6)) (cons (f) '(7 8 9 10))", "f\n((1 2 3 4 5 6) 7 8 9 10)\n");
        countsAre(desk, 1, 0);
        check.says(desk, "(list 1 2 3 (f))", "(1 2 3 (1 2 3 4 5 6))\n");
        countsAre(desk, 4, 1);
        check.says(desk, "(f)", "(1 2 3 4 5 6)\n");
        countsAre(desk, 4, 1);
    }

    private static void noRoom() {
        check.sentence("ROOM: SIZE are still there.");
        for (int size = 4; size <= 98; size++) {
            ListSpeaker fits = new ListSpeaker(size);
            check.ends(fits, "(car (list" + " 1".repeat(size) + "))", 0);
            countsAre(fits, size, 0);
            ListSpeaker full = new ListSpeaker(size);
            check.says(full, "(car (list" + " 1".repeat(size + 1) + "))", "!6\n");
            countsAre(full, size, 1);
        }
        ListSpeaker desk = new ListSpeaker(4);
        check.says(desk, "(list 1 2 3 4 5)", "!6\n");
        check.says(desk, "(list 1 2 3 4 5)", "!6\n");
        countsAre(desk, 4, 3);
        check.says(desk, "(list 1 2 3 4)", "(1 2 3 4)\n");
        countsAre(desk, 4, 4);
    }

    /** Of the room for four, three are taken by what is still needed, or all four. */
    private static void noRoomForOneMore() {
        check.says(new ListSpeaker(4), "(let ((x (list 1 2 3))) (list (car (list 7))))", "(7)\n");
        check.says(new ListSpeaker(4), "(let ((x (list 1 2 3 4))) (list 7))", "!6\n");
        check.says(new ListSpeaker(4), "(cons (cons 1 2) (cons (cons 3 4) 5))", "((1 . 2) (3 . 4) . 5)\n");
        check.says(new ListSpeaker(4), "(cons (cons 1 2) (cons (cons 3 4) (cons 5 6)))", "!6\n");
        check.says(new ListSpeaker(5), "(cons (cons 1 2) (cons (cons 3 4) (cons 5 6)))", "((1 . 2) (3 . 4) 5 . 6)\n");
    }
}
