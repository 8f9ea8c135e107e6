/** Promise 4: TEXT, SYNTAX and the store. */
public final class ReadingTest {
    private static final Check check = new Check();

    public static void main(String[] args) {
        blanksAndRemarks();
        numbers();
        symbols();
        lists();
        levels();
        wrongTexts();
        symbolsAreKept();
        symbolsAreFull();
        theStoreIsFull();
        theStoreIsReleased();
        check.end();
    }

    private static void blanksAndRemarks() {
        check.says("", "");
        check.says(" \n \n", "");
        check.says("; a (remark to the end", "");
        check.says("1;one\n2 ;two", "1\n2\n");
        check.says(";;\n;\n 3", "3\n");
        check.says("(+ 1;)\n2)", "3\n");
        check.says("'a;b\n'b", "a\nb\n");
        check.says("1\t2", "!1\n");
        check.says("1\r", "!1\n");
    }

    private static void numbers() {
        check.says("0 007 10", "0\n7\n10\n");
        check.says("268435455", "268435455\n");
        check.says("268435456", "!1\n");
        check.says("00000000000000000000268435455", "268435455\n");
        check.says("2684354550", "!1\n");
        check.says("4294967297", "!1\n");
        check.says("99999999999999999999999999999999999999", "!1\n");
        check.says("18446744073709551617", "!1\n");
        check.says("1a", "!1\n");
        check.says("1.5", "!1\n");
        check.says("-1", "!2\n");
    }

    private static void symbols() {
        check.says("'a 'z 'abcdefgh", "a\nz\nabcdefgh\n");
        check.says("'abcdefghi", "!1\n");
        check.says("'+-*<=? '?9 'a0-9b", "+-*<=?\n?9\na0-9b\n");
        check.says("'A", "!1\n");
        check.says("'>", "!1\n");
        check.says("'a.b", "!1\n");
        check.says("'..", "!1\n");
        check.says("'a/b", "!1\n");
        check.says("'`", "!1\n");
        check.says("'{", "!1\n");
        check.says("'\u0161", "!1\n");
    }

    private static void lists() {
        check.says("() '() '( )", "nil\nnil\nnil\n");
        check.says("'(1 2 3)", "(1 2 3)\n");
        check.says("'(1(2)3)", "(1 (2) 3)\n");
        check.says("'(1 . 2) '(1 2 . 3)", "(1 . 2)\n(1 2 . 3)\n");
        check.says("'(1 . (2 . (3 . nil)))", "(1 2 3)\n");
        check.says("'(1 . ())", "(1)\n");
        check.says("'( 1 . 2 ;x\n ) '( 1 2 )", "(1 . 2)\n(1 2)\n");
        check.says("'(1 .'x)", "(1 quote x)\n");
        check.says("'(a;x\n.;y\nb)", "(a . b)\n");
        check.says("''a '('a b) ''()", "(quote a)\n((quote a) b)\n(quote nil)\n");
        check.says("'a'b", "a\nb\n");
        check.says("1'b(+ 1 1)'()", "1\nb\n2\nnil\n");
    }

    /** A datum may lie in 12 others. */
    private static void levels() {
        check.says("'" + "(".repeat(11) + "1" + ")".repeat(11), "(".repeat(11) + "1" + ")".repeat(11) + "\n");
        check.says("'" + "(".repeat(12) + "1" + ")".repeat(12), "!1\n");
        check.says("'" + "(".repeat(12) + ")".repeat(12), "(".repeat(11) + "nil" + ")".repeat(11) + "\n");
        check.says("'" + "(".repeat(13) + ")".repeat(13), "!1\n");
        check.says("'".repeat(12) + "a", "(quote ".repeat(11) + "a" + ")".repeat(11) + "\n");
        check.says("'".repeat(13) + "a", "!1\n");
        check.says("'" + "(1 . ".repeat(11) + "2" + ")".repeat(11), "(" + "1 ".repeat(11) + ". 2)\n");
        check.says("'" + "(1 . ".repeat(12) + "2" + ")".repeat(12), "!1\n");
        check.says("(car ".repeat(12) + "1" + ")".repeat(12), "nil\n");
        check.says("(car ".repeat(13) + "1" + ")".repeat(13), "!1\n");
    }

    private static void wrongTexts() {
        String[] wrong = {
            ")", ".", "'", "')", "'.", "(", "(1", "(1 ", "(1 (2)", "'(1 .", "'(1 . 2", "'(. 1)", "'( . )", "'(1 . )",
            "'(1 . 2 3)", "'(1 . . 2)", "'(1 . 2 . 3)", "'(1 ')", "#", "(1;)", "\"a\"", "'(1 .2)", "'(1 2.)",
        };
        for (String text : wrong) {
            check.says(text, "!1\n");
        }
        check.says("1 2 ) 3", "1\n2\n!1\n");
    }

    private static void symbolsAreKept() {
        ListSpeaker desk = new ListSpeaker(4);
        check.says(desk, "'(a b a car)", "(a b a car)\n");
        check.counts("two new ones", desk, 2, 23);
        check.says(desk, "(b c", "!1\n");
        check.counts("one more in a text that ends too early", desk, 2, 24);
        check.says(desk, ") d", "!1\n");
        check.counts("what comes behind an error is not read", desk, 2, 24);
        check.says(desk, "'((((((((((((e", "!1\n");
        check.counts("a symbol that lies too deep is not read", desk, 2, 24);
        Check.typeAll(desk, "'g");
        desk.clear();
        check.counts("a text that was cleared is not read", desk, 2, 24);
    }

    private static void symbolsAreFull() {
        ListSpeaker desk = new ListSpeaker(4);
        StringBuilder names = new StringBuilder("'(");
        for (int i = 0; i < 39; i++) {
            names.append((char) ('a' + i % 26)).append(i / 26).append(' ');
        }
        Check.typeAll(desk, names + ")");
        check.due("39 new symbols", desk.run(9), 0);
        check.counts("39 new symbols", desk, 2, 60);
        check.says(desk, "'(a0 m1 error)", "(a0 m1 error)\n");
        check.says(desk, "1 'z9 2", "1\n!11\n");
        check.says(desk, "z9)", "!11\n");
        check.says(desk, "Z9", "!1\n");
        check.counts("full", desk, 2, 60);
    }

    private static void theStoreIsFull() {
        ListSpeaker desk = new ListSpeaker(4);
        check.due("400 pairs", errorOf(desk, "(quote (" + dense(18) + " 1".repeat(20) + "))"), 0);
        check.due("401 pairs", errorOf(desk, "(quote (" + dense(18) + " 1".repeat(21) + "))"), 11);
        check.counts("an error releases the pairs", desk, 3, 0);
        check.due("400 pairs, then no end", errorOf(desk, "'(" + dense(18) + " 1".repeat(22)), 1);
        check.due("401 pairs, then no end", errorOf(desk, "'(" + dense(18) + " 1".repeat(23)), 11);
        check.due("398 pairs, then two for the '", errorOf(desk, "'(" + dense(18) + " 1".repeat(20) + ")"), 0);
        check.due("399 pairs, then two for the '", errorOf(desk, "'(" + dense(18) + " 1".repeat(21) + ")"), 11);
        check.due("a last cdr needs no pair", errorOf(desk, "(quote (" + dense(18) + " 1".repeat(20) + " . 1))"), 0);
        check.says(desk, "(defun f () '(1 . 2))", "f\n");
        check.counts("pairs of a function", desk, 3, 7);
        check.due("393 more", errorOf(desk, "(quote (" + dense(18) + " 1".repeat(13) + "))"), 0);
        check.due("394 more", errorOf(desk, "(quote (" + dense(18) + " 1".repeat(14) + "))"), 11);
    }

    /** 21 pairs each: two for each of 10 ', and one for the list that this stands in. */
    private static String dense(int times) {
        return ("'".repeat(10) + "1").repeat(times);
    }

    private static int errorOf(ListSpeaker desk, String text) {
        Check.typeAll(desk, text);
        return desk.run(20);
    }

    private static void theStoreIsReleased() {
        ListSpeaker desk = new ListSpeaker(4);
        check.says(desk, "'(1 2 3)", "(1 2 3)\n");
        check.counts("a form that is done", desk, 3, 0);
        check.says(desk, "(defun f (x) (car x))", "f\n");
        check.counts("a new function", desk, 3, 7);
        check.says(desk, "(defun f (x) (car x)) (f '(9))", "f\n9\n");
        check.counts("the same function again", desk, 3, 7);
        check.says(desk, "(defun f (x) (cdr x))", "!10\n");
        check.counts("a refused function", desk, 3, 7);
        check.says(desk, "(defun g () 1) (h", "g\n!1\n");
        check.counts("a new function before an error", desk, 3, 11);
        check.says(desk, "(defun h (x) '(a . b)) (car (1", "h\n!1\n");
        check.counts("a dotted pair and a quote", desk, 3, 19);
    }
}
