/** Promise 5: output. */
public final class OutputTest {
    private static final Check check = new Check();

    public static void main(String[] args) {
        refusesWhatIsNotThere();
        prints();
        keepsTheFirstFourHundred();
        endsForSharedPairs();
        printsDeepCars();
        isThatOfTheLatestRun();
        check.end();
    }

    private static void refusesWhatIsNotThere() {
        ListSpeaker desk = new ListSpeaker(9);
        int[] wrong = {0, -1, 1, Integer.MIN_VALUE, Integer.MAX_VALUE};
        for (int k : wrong) {
            check.due("output(" + k + ") of a new one throws", throwsAt(desk, k), true);
        }
        check.says(desk, "42", "42\n");
        check.due("output(0)", (int) desk.output(0), (int) '4');
        check.due("output(2)", (int) desk.output(2), 10);
        check.due("output(3) throws", throwsAt(desk, 3), true);
        check.due("output(-1) throws", throwsAt(desk, -1), true);
        check.counts("nothing changed", desk, 0, 3);
    }

    private static void prints() {
        check.says("0 9 10 100 120034 268435455", "0\n9\n10\n100\n120034\n268435455\n");
        check.says("'(a . (b . (c . d))) '((a . b) . (c . d)) '((a) . nil)", "(a b c . d)\n((a . b) c . d)\n((a))\n");
        check.says("'(nil . nil) '(nil nil . t) (cons nil 0)", "(nil)\n(nil nil . t)\n(nil . 0)\n");
        check.says("'(1 ((2) 3) (((4))))", "(1 ((2) 3) (((4))))\n");
        check.says("(defun abc-12 () 1)", "abc-12\n");
    }

    private static void keepsTheFirstFourHundred() {
        ListSpeaker desk = new ListSpeaker(9);
        String row = "123456789";
        check.says(desk, "(defun f () '(" + row + " " + row + " " + row + " " + row + " abcd)) (f)(f)(f)(f)(f)(f)(f)(f)",
            "f\n" + ("(" + row + " " + row + " " + row + " " + row + " abcd)\n").repeat(8));
        Check.typeAll(desk, "(f)".repeat(9) + "x");
        check.due("an error whose line is cut off", desk.run(100), 2);
        check.due("cut off", Check.printed(desk), ("(" + row + " " + row + " " + row + " " + row + " abcd)\n").repeat(9)
            .substring(0, 400));
        check.counts("cut off", desk, 0, 400);
        check.counts("forms go on when the paper is full", desk, 7, 9);
        check.due("output(399)", desk.output(399), '3');
        check.due("output(400) throws", throwsAt(desk, 400), true);
        Check.typeAll(desk, "(f)".repeat(8) + "'(" + "1".repeat(9) + " abcdef ab) (error 1)");
        check.due("run", desk.run(100), 8);
        check.due("the error's line is cut off", Check.printed(desk).substring(376), "(111111111 abcdef ab)\n!8");
    }

    private static void endsForSharedPairs() {
        ListSpeaker desk = new ListSpeaker(200);
        Check.typeAll(desk, "(defun f (n x) (if (< n 1) x (f (- n 1) (cons x x)))) (f 190 1)");
        check.due("run", desk.run(20000), 0);
        check.counts("a value that is far too long", desk, 0, 400);
        check.due("it begins with brackets", Check.printed(desk).substring(0, 200), "f\n" + "(".repeat(190) + "1 . 1) 1");
    }

    private static void printsDeepCars() {
        ListSpeaker desk = new ListSpeaker(200);
        check.says(desk, "(defun f (n x) (if (< n 1) x (f (- n 1) (cons x nil)))) (f 190 7)",
            "f\n" + "(".repeat(190) + "7" + ")".repeat(190) + "\n");
    }

    private static void isThatOfTheLatestRun() {
        ListSpeaker desk = new ListSpeaker(9);
        check.says(desk, "'(1 2 3)", "(1 2 3)\n");
        check.says(desk, "4", "4\n");
        check.says(desk, "", "");
        check.due("output(0) throws", throwsAt(desk, 0), true);
    }

    private static boolean throwsAt(ListSpeaker desk, int k) {
        try {
            desk.output(k);
            return false;
        } catch (IndexOutOfBoundsException e) {
            return true;
        }
    }
}
