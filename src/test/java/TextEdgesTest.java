/** Promise 4: the edges of TEXT and SYNTAX, sentence by sentence. */
public final class TextEdgesTest {
    private static final Check check = new Check();

    public static void main(String[] args) {
        smallestAndLargestNumber();
        nilIsAList();
        onlyTwoCharactersAreBlank();
        remarksEnd();
        tokensEnd();
        numbersOfAnyLength();
        dotsByThemselves();
        symbolsOfOneToEight();
        everyCharacterInARow();
        everyCharacterBeforeARow();
        everyCharacterInANumber();
        quotesAreLists();
        emptyBrackets();
        lastCdrs();
        otherTokens();
        numbersTooGreat();
        dotsAndBracketsWhereNoneMayBe();
        textsThatEndTooEarly();
        insideOfTwelve();
        insideOfThirteen();
        check.end();
    }

    private static void smallestAndLargestNumber() {
        check.sentence("DATA are NUMBERS 0 .. 268435455, SYMBOLS, and PAIRS of two data");
        check.says("0", "0\n");
        check.says("268435455", "268435455\n");
        check.says("'(0 . 268435455) '(268435455 . 0) '(0) ''0", "(0 . 268435455)\n(268435455 . 0)\n(0)\n(quote 0)\n");
        check.says("(list (natp 0) (natp 268435455))", "(t t)\n");
    }

    private static void nilIsAList() {
        check.sentence("A LIST is the symbol nil or a pair whose CDR is a list.");
        check.says("(let nil 8)", "8\n");
        check.says("(defun f nil 8) (f . nil)", "f\n8\n");
        check.says("(+ 1 . (2 . nil))", "3\n");
        check.says("(car . ('(5)))", "5\n");
        check.says("(+ 1 . 2)", "!1\n");
        check.says("(car . 5)", "!1\n");
        check.says("(f . t)", "!1\n");
    }

    private static void onlyTwoCharactersAreBlank() {
        check.sentence("blanks are the characters 32 and 10");
        check.says(" ", "");
        check.says("\n", "");
        check.says(" \n \n\n  1\n \n2 \n", "1\n2\n");
        char[] others = {0, 8, 9, 11, 12, 13, 14, 31, 33, 127, 133, 160, 255, 256 + 32, 256 + 10, '\u2003', '\uffff'};
        for (char c : others) {
            check.says("" + c, "!1\n");
            check.says("1" + c + "2", "!1\n");
            check.says("1 " + c + " 2", "1\n!1\n");
        }
    }

    private static void remarksEnd() {
        check.sentence("and ; with all behind it up to a 10 or the end.");
        check.says(";", "");
        check.says(";\n", "");
        check.says("; (car . ) ' 1 #", "");
        check.says("1;2", "1\n");
        check.says("1;2\n3", "1\n3\n");
        check.says(";\n4", "4\n");
        check.says(";;;\n;\n\n5;", "5\n");
        check.says("; ; \r 1\n6", "6\n");
        check.says("(+ 1 ; )\n 2)", "3\n");
        check.says("(+ 1 2;)", "!1\n");
        check.says("';a\nb", "b\n");
        check.says(";".repeat(299) + "\n", "");
        check.says(";".repeat(298) + "\n7", "7\n");
    }

    private static void tokensEnd() {
        check.sentence("A TOKEN: ( or ) or '; or a longest row of other characters that are no blanks.");
        check.says("1'a(+ 1 1)()'b2", "1\na\n2\nnil\nb2\n");
        check.says("'(1(2)3'4)", "(1 (2) 3 (quote 4))\n");
        check.says("'(a'b)", "(a (quote b))\n");
        check.says("'((a)(b)())", "((a) (b) nil)\n");
        check.says("'12a", "!1\n");
        check.says("'a12 12", "a12\n12\n");
    }

    private static void numbersOfAnyLength() {
        check.sentence("A row of digits is a number");
        check.says("00", "0\n");
        check.says("0".repeat(300), "0\n");
        check.says("0".repeat(291) + "268435455", "268435455\n");
        check.says("0".repeat(299) + "9", "9\n");
        check.says("000000001 123456789 0123456789", "1\n123456789\n123456789\n");
    }

    private static void dotsByThemselves() {
        check.sentence(". (by itself) is a DOT");
        check.says("'(1 . 2)", "(1 . 2)\n");
        check.says("'(1 .(2))", "(1 2)\n");
        check.says("'((1).(2))", "((1) 2)\n");
        check.says("'(1 .'a)", "(1 quote a)\n");
        check.says("'(1 .;x\n2)", "(1 . 2)\n");
        check.says("'( 1\n.\n2 ;x\n )", "(1 . 2)\n");
        check.says("'(a;x\n.;y\nb)", "(a . b)\n");
        String[] noDots = {"'(1 .2)", "'(1. 2)", "'(1.2)", "'(1 .. 2)", "'(1 ... 2)", "'(a .b)", "'(a. b)"};
        for (String text : noDots) {
            check.says(text, "!1\n");
        }
    }

    private static void symbolsOfOneToEight() {
        check.sentence("a row of 1 to 8 of a .. z + - * < = ? that does not begin with a digit is a symbol");
        String row = "a+b-c*d<";
        for (int length = 1; length <= 8; length++) {
            check.says("'" + row.substring(0, length), row.substring(0, length) + "\n");
        }
        check.says("'abcdefgh 'abcdefg 'bcdefgh", "abcdefgh\nabcdefg\nbcdefgh\n");
        check.says("(equal 'abcdefgh 'abcdefgi)", "nil\n");
        check.says("(equal 'abcdefgh 'abcdefg)", "nil\n");
        check.says("'abcdefghi", "!1\n");
        check.says("'a12345678", "!1\n");
        check.says("'" + "z".repeat(256), "!1\n");
        check.says("'" + "z".repeat(299), "!1\n");
        check.sentence("(digits may stand in it)");
        check.says("'a0 'a1234567 '?9? '-1 '+0", "a0\na1234567\n?9?\n-1\n+0\n");
        check.says("-1", "!2\n");
        check.says("'0a", "!1\n");
        check.says("'9-", "!1\n");
    }

    private static void everyCharacterInARow() {
        check.sentence("a row of 1 to 8 of a .. z + - * < = ? that does not begin with a digit is a symbol");
        for (int c = 0; c < 600; c++) {
            String want = isLetter(c) || isDigit(c) ? "a" + (char) c + "b\n" : behindOne(c, "a\n", "!2\n", "b\n");
            check.says("'a" + (char) c + "b", want);
        }
    }

    private static void everyCharacterBeforeARow() {
        for (int c = 0; c < 600; c++) {
            String want = "!1\n";
            if (isLetter(c)) {
                want = (char) c + "b\n";
            } else if (c == ' ' || c == '\n') {
                want = "b\n";
            } else if (c == '\'') {
                want = "(quote b)\n";
            }
            check.says("'" + (char) c + "b", want);
        }
    }

    private static void everyCharacterInANumber() {
        check.sentence("A row of digits is a number");
        for (int c = 0; c < 600; c++) {
            check.says("1" + (char) c + "2", isDigit(c) ? "1" + (char) c + "2\n" : behindOne(c, "1\n", "2\n", "2\n"));
        }
    }

    /** first: what the row before c prints; alone, quoted: what the row behind it prints, by itself and behind a '. */
    private static String behindOne(int c, String first, String alone, String quoted) {
        switch (c) {
            case ' ': case '\n': return first + alone;
            case ';': return first;
            case '\'': return first + quoted;
            case '(': case ')': return first + "!1\n";
            default: return "!1\n";
        }
    }

    private static boolean isLetter(int c) {
        return "abcdefghijklmnopqrstuvwxyz+-*<=?".indexOf(c) >= 0;
    }

    private static boolean isDigit(int c) {
        return "0123456789".indexOf(c) >= 0;
    }

    private static void quotesAreLists() {
        check.sentence("' and a datum X, which is the list (quote X)");
        check.says("''a ''() '''(1)", "(quote a)\n(quote nil)\n(quote (quote (1)))\n");
        check.says("(car ''a) (cdr ''a)", "quote\n(a)\n");
        check.says("(equal ''a '(quote a))", "t\n");
        check.says("'(1 . 'a)", "(1 quote a)\n");
        check.says("' \n;x\n a", "a\n");
    }

    private static void emptyBrackets() {
        check.sentence("or in brackets: nothing (nil)");
        check.says("() ( ) (\n) (;)\n)", "nil\nnil\nnil\nnil\n");
        check.says("'() '(()) '(() . ())", "nil\n(nil)\n(nil)\n");
        check.says("(equal () 'nil) (symbolp ()) (consp ())", "t\nt\nnil\n");
        ListSpeaker desk = new ListSpeaker(4);
        check.says(desk, "(defun f () ())", "f\n");
        check.counts("empty brackets need no pair", desk, 3, 4);
    }

    private static void lastCdrs() {
        check.sentence("perhaps with a dot and one more datum, the last CDR, behind at least one.");
        check.says("'(1 . 2) '(1 2 . 3) '(1 . nil) '(1 . ()) '(1 . (2 . 3))", "(1 . 2)\n(1 2 . 3)\n(1)\n(1)\n(1 2 . 3)\n");
        check.says("'(. 1)", "!1\n");
        check.says("'(.)", "!1\n");
        check.says("'(1 .)", "!1\n");
        check.says("'(1 . 2 3)", "!1\n");
        check.says("'(1 . 2 '3)", "!1\n");
        check.says("'(1 . 2 (3))", "!1\n");
    }

    private static void otherTokens() {
        check.sentence("SYNTAX: another token");
        String[] others = {"#", "A", "aB", "a.b", "1a", "1-", ".a", ".1", "..", "\"", "a_b", "[", "{", ",", "/", "@", ">", "abcdefghi"};
        for (String token : others) {
            check.says(token, "!1\n");
            check.says("'" + token, "!1\n");
            check.says("'(1 " + token + ")", "!1\n");
            check.says("'(1 . " + token + ")", "!1\n");
            check.says("5 " + token + " 6", "5\n!1\n");
        }
    }

    private static void numbersTooGreat() {
        check.sentence("a number that is too great");
        String[] great = {
            "268435456", "268435460", "268435999", "300000000", "999999999", "1000000000", "2147483647", "2147483648",
            "2684354550", "4294967295", "4294967296", "4294967297", "9223372036854775807", "9223372036854775808",
            "18446744073709551616", "18446744073709551617", "9".repeat(300), "1" + "0".repeat(299), "0268435456",
        };
        for (String number : great) {
            check.says(number, "!1\n");
        }
        check.says("'(1 268435456", "!1\n");
        check.says("268435455 268435456 1", "268435455\n!1\n");
    }

    private static void dotsAndBracketsWhereNoneMayBe() {
        check.sentence("a dot or ) where there may be none");
        String[] wrong = {
            ")", "())", ".", ". 1", "'.", "'. a", "')", "')a", "'(1 ')", "'(1 '. 2)", "'(. 1)", "'( . )", "'(. . 1)",
            "'(1 . )", "'(1 . . 2)", "'(1 . 2 . 3)", "'(1 . 2 . )", "'(1 . ')", "'(1 (. 2))", "'(() . . 1)",
        };
        for (String text : wrong) {
            check.due(text, Check.run(new ListSpeaker(9), text, 9), 1);
        }
        check.says("1 ) 2", "1\n!1\n");
        check.says("'(1)) 2", "(1)\n!1\n");
        check.says("1 . 2", "1\n!1\n");
    }

    private static void textsThatEndTooEarly() {
        check.sentence("the text ends within a datum");
        String[] whole = {"'(a (b . c) 'd () . (5))", "(let ((v '(1 . 2))) (list v v))", "''(1 ;x\n . 2 )", "(defun f () 'a)"};
        for (String text : whole) {
            ListSpeaker desk = new ListSpeaker(9);
            check.ends(desk, text, 0);
            for (int length = 1; length < text.length(); length++) {
                check.says(text.substring(0, length), "!1\n");
            }
        }
        check.says("1 (", "1\n!1\n");
        check.says("'", "!1\n");
        check.says("(1 ; 2)", "!1\n");
    }

    private static void insideOfTwelve() {
        check.sentence("or data inside of more than 12 others (brackets and ').");
        check.says("'" + "(".repeat(11) + "1" + ")".repeat(11), "(".repeat(11) + "1" + ")".repeat(11) + "\n");
        check.says("'" + "(".repeat(12) + ")".repeat(12), "(".repeat(11) + "nil" + ")".repeat(11) + "\n");
        check.says("'".repeat(12) + "a", "(quote ".repeat(11) + "a" + ")".repeat(11) + "\n");
        check.says("'".repeat(12) + "()", "(quote ".repeat(11) + "nil" + ")".repeat(11) + "\n");
        check.says("'" + "(1 . ".repeat(11) + "2" + ")".repeat(11), "(" + "1 ".repeat(11) + ". 2)\n");
        check.says("'" + "('".repeat(5) + "(1)" + ")".repeat(5), "((quote ".repeat(5) + "(1)" + "))".repeat(5) + "\n");
        check.says("(car ".repeat(12) + "1" + ")".repeat(12), "nil\n");
        check.says("(car ".repeat(11) + "'1" + ")".repeat(11), "nil\n");
    }

    private static void insideOfThirteen() {
        check.says("'" + "(".repeat(12) + "1" + ")".repeat(12), "!1\n");
        check.says("'" + "(".repeat(13) + ")".repeat(13), "!1\n");
        check.says("'".repeat(13) + "a", "!1\n");
        check.says("'".repeat(13) + "()", "!1\n");
        check.says("'" + "(1 . ".repeat(12) + "2" + ")".repeat(12), "!1\n");
        check.says("'" + "('".repeat(6) + "1" + ")".repeat(6), "!1\n");
        check.says("(car ".repeat(13) + "1" + ")".repeat(13), "!1\n");
        check.says("(car ".repeat(12) + "'1" + ")".repeat(12), "!1\n");
        check.says("'(1 2 " + "(".repeat(11) + "3", "!1\n");
        check.says("(".repeat(300), "!1\n");
        check.says("'".repeat(300), "!1\n");
        check.says("()" + "(".repeat(13) + ")".repeat(13), "nil\n!1\n");
    }
}
