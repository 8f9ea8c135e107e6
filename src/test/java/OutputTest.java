/** Promise 5, and OUTPUT: what is printed, and how much of it is kept. */
public final class OutputTest {
    private static final Check check = new Check();

    /** Prints 49 characters and a 10. */
    private static final String FIFTY = "(defun f()'(123456789 123456789 123456789 123456789 abc (a)))";
    private static final String FIFTY_PRINTED = "(123456789 123456789 123456789 123456789 abc (a))\n";

    public static void main(String[] args) {
        firstAndLast();
        noneBelow();
        noneBehind();
        noOutputAtAll();
        theLatestRun();
        printsValues();
        printsPairs();
        printsNames();
        keepsFourHundred();
        cutsWhateverComes();
        goesOnWhenFull();
        endsForSharedPairs();
        printsDeepCars();
        check.end();
    }

    private static void firstAndLast() {
        check.sentence("Character k of the output of the latest run.");
        ListSpeaker desk = new ListSpeaker(9);
        check.ends(desk, "42", 0);
        check.due("output(0)", (int) desk.output(0), (int) '4');
        check.due("output(1)", (int) desk.output(1), (int) '2');
        check.due("output(2)", (int) desk.output(2), 10);
        check.due("output(0) again", (int) desk.output(0), (int) '4');
    }

    private static void noneBelow() {
        check.sentence("IndexOutOfBoundsException when there is none.");
        ListSpeaker desk = new ListSpeaker(9);
        check.ends(desk, "42", 0);
        throwsAt(desk, -1, Integer.MIN_VALUE, -2, -3, -400);
        check.counts("nothing changed", desk, 0, 3);
    }

    private static void noneBehind() {
        ListSpeaker desk = new ListSpeaker(9);
        check.ends(desk, "(list 1 2 3)", 0);
        check.due("output(7)", (int) desk.output(7), 10);
        throwsAt(desk, 8, 9, 399, 400, Integer.MAX_VALUE);
        check.ends(desk, "1", 0);
        check.due("output(1)", (int) desk.output(1), 10);
        throwsAt(desk, 2, 7);
    }

    private static void noOutputAtAll() {
        throwsAt(new ListSpeaker(9), 0, -1, 1, Integer.MIN_VALUE, Integer.MAX_VALUE);
        ListSpeaker desk = new ListSpeaker(9);
        check.ends(desk, "", 0);
        throwsAt(desk, 0);
        check.ends(desk, "42", 0);
        check.ends(desk, " ;x", 0);
        throwsAt(desk, 0, 1, 2);
    }

    private static void throwsAt(ListSpeaker desk, int... places) {
        for (int k : places) {
            check.due("output(" + k + ") throws", Check.thrownBy(() -> desk.output(k)), "IndexOutOfBoundsException");
        }
    }

    private static void theLatestRun() {
        check.sentence("Character k of the output of the latest run.");
        ListSpeaker desk = new ListSpeaker(9);
        check.says(desk, "'(1 2 3)", "(1 2 3)\n");
        Check.typeAll(desk, "4 5");
        check.due("before the next run", Check.printed(desk), "(1 2 3)\n");
        check.says(desk, "", "4\n5\n");
        check.says(desk, "x", "!2\n");
        check.says(desk, "", "");
    }

    private static void printsValues() {
        check.sentence("Of a form its value is printed, or F, then a 10");
        check.says("0 9 10 99 100 120034 99999999 100000000 268435455", "0\n9\n10\n99\n100\n120034\n99999999\n100000000\n268435455\n");
        check.says("007 'abcdefgh '+-*<=?09 () t", "7\nabcdefgh\n+-*<=?09\nnil\nt\n");
        check.says("(defun abc-1234 () 1) (defun ? () 1)", "abc-1234\n?\n");
    }

    private static void printsPairs() {
        check.sentence("a pair: ( and the data of the list with a 32 between them, and if it does not end with nil, 32 . 32 and its "
            + "last CDR, and ).");
        check.says("'(1) '(1 2) '(1 2 3) '((1)) '(() ())", "(1)\n(1 2)\n(1 2 3)\n((1))\n(nil nil)\n");
        check.says("'(1 . 2) '(1 2 . 3) '(nil . t) (cons nil 0)", "(1 . 2)\n(1 2 . 3)\n(nil . t)\n(nil . 0)\n");
        check.says("'(nil . nil) '(1 . nil) '(1 . (2 . (3 . nil)))", "(nil)\n(1)\n(1 2 3)\n");
        check.says("'(a . (b . (c . d))) '((a . b) . (c . d)) '((a) . nil)", "(a b c . d)\n((a . b) c . d)\n((a))\n");
        check.says("'(1 ((2) 3) (((4)))) '(((1 . 2)) . 3)", "(1 ((2) 3) (((4))))\n(((1 . 2)) . 3)\n");
    }

    private static void printsNames() {
        check.sentence("numbers and symbols as they are read");
        String names = "nil t quote if let cond and or list defun cons car cdr consp natp symbolp equal + - < error a *";
        check.says("'(" + names + ")", "(" + names + ")\n");
        check.says("''a '(quote . a) '(quote a b) '(a 'b)", "(quote a)\n(quote . a)\n(quote a b)\n(a (quote b))\n");
    }

    private static void keepsFourHundred() {
        check.sentence("OUTPUT of a run keeps its first 400 characters.");
        ListSpeaker desk = new ListSpeaker(9);
        check.says(desk, FIFTY, "f\n");
        keeps(desk, "(f)".repeat(7) + calls(49), FIFTY_PRINTED.repeat(7) + printedBy(49), 0);
        ListSpeaker exact = new ListSpeaker(9);
        check.says(exact, FIFTY, "f\n");
        keeps(exact, "(f)".repeat(8), FIFTY_PRINTED.repeat(8), 0);
        check.counts("exactly 400", exact, 0, 400);
        check.due("output(399)", (int) exact.output(399), 10);
        throwsAt(exact, 400);
        ListSpeaker more = new ListSpeaker(9);
        check.says(more, FIFTY, "f\n");
        keeps(more, "(f)".repeat(8) + "1", FIFTY_PRINTED.repeat(8) + "1\n", 0);
        check.counts("402 were printed", more, 0, 400);
        check.due("output(399)", (int) more.output(399), 10);
        throwsAt(more, 400, 401);
    }

    /** Forms that print so many characters, 2 or more. */
    private static String calls(int characters) {
        return printedBy(characters).replace('\n', ' ');
    }

    private static String printedBy(int characters) {
        int odd = characters % 2;
        return "10\n".repeat(odd) + "5\n".repeat((characters - 3 * odd) / 2);
    }

    /** Looks at the last 60 that are kept, since each look is one of a desk's 512 calls. */
    private static void keeps(ListSpeaker desk, String text, String whole, int error) {
        check.ends(desk, text, error);
        String kept = whole.substring(0, Math.min(400, whole.length()));
        check.counts(text, desk, 0, kept.length());
        for (int k = Math.max(0, kept.length() - 60); k < kept.length(); k++) {
            check.due(text + ": output(" + k + ")", desk.output(k), kept.charAt(k));
        }
    }

    /** Each kind of line, begun from 1 to 30 characters before the end of what is kept. */
    private static void cutsWhateverComes() {
        String[][] lines = {
            {"268435455", "268435455\n"}, {"'abcdefgh", "abcdefgh\n"}, {"'(1 (2 . 3) ab)", "(1 (2 . 3) ab)\n"},
            {"(defun longname () 1)", "longname\n"},
        };
        for (String[] line : lines) {
            for (int before = 370; before <= 399; before++) {
                keepsBehind(before, line[0], line[1], 0);
            }
        }
        for (int before = 390; before <= 404; before++) {
            keepsBehind(before, "(error 1)", "!8\n", 8);
        }
    }

    /** So many characters are printed before the last form. */
    private static void keepsBehind(int before, String form, String line, int error) {
        ListSpeaker desk = new ListSpeaker(9);
        check.says(desk, FIFTY, "f\n");
        int rest = before - 7 * FIFTY_PRINTED.length();
        keeps(desk, "(f)".repeat(7) + calls(rest) + form, FIFTY_PRINTED.repeat(7) + printedBy(rest) + line, error);
    }

    private static void goesOnWhenFull() {
        ListSpeaker desk = new ListSpeaker(9);
        check.says(desk, FIFTY, "f\n");
        check.ends(desk, "(f)".repeat(20) + "(defun g () 7)", 0);
        check.counts("forms go on", desk, 7, 21);
        check.counts("full", desk, 0, 400);
        check.says(desk, "(g)", "7\n");
        check.ends(desk, "(f)".repeat(8) + "(h)", 3);
        check.counts("the error is not printed any more", desk, 0, 400);
        check.due("output(399)", (int) desk.output(399), 10);
    }

    private static void endsForSharedPairs() {
        ListSpeaker desk = new ListSpeaker(200);
        check.ends(desk, "(defun f (n x) (if (< n 1) x (f (- n 1) (cons x x)))) (f 190 1)", 0);
        check.counts("a value that is far too long", desk, 0, 400);
        for (int k = 2; k < 192; k++) {
            check.due("output(" + k + ")", desk.output(k), '(');
        }
        String next = "1 . 1) 1 . 1) (1 . 1) 1 . 1) ((1 . 1) 1 . 1) (1 . 1) 1 . 1)";
        for (int k = 0; k < next.length(); k++) {
            check.due("output(" + (192 + k) + ")", desk.output(192 + k), next.charAt(k));
        }
    }

    private static void printsDeepCars() {
        ListSpeaker desk = new ListSpeaker(200);
        check.ends(desk, "(defun f (n x) (if (< n 1) x (f (- n 1) (cons x nil)))) (f 198 7)", 0);
        String want = "f\n" + "(".repeat(198) + "7" + ")".repeat(198) + "\n";
        check.counts("198 brackets each", desk, 0, 400);
        for (int k = 0; k < 400; k++) {
            check.due("output(" + k + ")", desk.output(k), want.charAt(k));
        }
    }
}
