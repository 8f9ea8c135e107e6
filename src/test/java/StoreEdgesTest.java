/** Promise 4: the edges of the symbols that are kept and of the store, sentence by sentence. */
public final class StoreEdgesTest {
    private static final Check check = new Check();
    private static final String FIRST =
        "nil t quote if let cond and or list defun cons car cdr consp natp symbolp equal + - < error";

    public static void main(String[] args) {
        symbolsAreKeptForGood();
        sixtySymbols();
        aSymbolMoreIsFull();
        twentyOneAreThere();
        fourHundredPairs();
        definitionsAreKeptForGood();
        othersGoWhenTheyAreDone();
        refusedDefinitionsGo();
        aPairIsMadeWhenItsDatumWasRead();
        twoForAQuoteWhenItsDatumWasRead();
        aLastCdrNeedsNone();
        whatNeedsNoPairIsReadWhenTheStoreIsFull();
        check.end();
    }

    private static void symbolsAreKeptForGood() {
        check.sentence("Symbols that were read are kept for good");
        ListSpeaker desk = new ListSpeaker(4);
        check.says(desk, "'(a b a car)", "(a b a car)\n");
        check.counts("two new ones", desk, 2, 23);
        check.says(desk, "(b c", "!1\n");
        check.counts("one more in a text that ends too early", desk, 2, 24);
        check.says(desk, "'(d . e 5)", "!1\n");
        check.counts("two more before a wrong token", desk, 2, 26);
        check.says(desk, "(defun g (h) x)", "!2\n");
        check.counts("three more in a refused definition", desk, 2, 29);
        check.says(desk, ") z", "!1\n");
        check.counts("what comes behind an error is not read", desk, 2, 29);
        Check.typeAll(desk, "'z");
        desk.clear();
        check.counts("a text that was cleared is not read", desk, 2, 29);
        check.says(desk, "'(h g e d c b a)", "(h g e d c b a)\n");
        check.counts("all of them are known", desk, 2, 29);
        check.says(desk, "'(a0 0 12 () abcdefgh)", "(a0 0 12 nil abcdefgh)\n");
        check.counts("numbers and nil are no new symbols", desk, 2, 31);
    }

    private static void sixtySymbols() {
        check.sentence("in all at most 60");
        ListSpeaker desk = deskWithSymbols(59);
        check.says(desk, "'zz", "zz\n");
        check.counts("the 60th", desk, 2, 60);
        check.says(desk, "'(zz a0 k1 l1 error nil 5)", "(zz a0 k1 l1 error nil 5)\n");
        check.says(desk, "(let ((a0 1)) (+ a0 1))", "2\n");
        check.counts("they stay 60", desk, 2, 60);
    }

    private static void aSymbolMoreIsFull() {
        check.sentence("FULL: another pair or symbol would be needed.");
        ListSpeaker desk = deskWithSymbols(60);
        check.says(desk, "1 'zz 2", "1\n!11\n");
        check.says(desk, "zz", "!11\n");
        check.says(desk, "zz)", "!11\n");
        check.says(desk, "(1 zz", "!11\n");
        check.says(desk, "'(1 . zz", "!11\n");
        check.says(desk, "(defun zz () 1)", "!11\n");
        check.says(desk, "abcdefghi", "!1\n");
        check.says(desk, "Zz", "!1\n");
        check.counts("full", desk, 2, 60);
        check.counts("no function", desk, 1, 0);
        check.says(desk, "'a0", "a0\n");
    }

    /** Names a0 .. z0 a1 .. m1, as many as make so many symbols in all. */
    private static ListSpeaker deskWithSymbols(int count) {
        ListSpeaker desk = new ListSpeaker(4);
        StringBuilder names = new StringBuilder("'(");
        for (int i = 0; i < count - 21; i++) {
            names.append((char) ('a' + i % 26)).append(i / 26).append(' ');
        }
        check.ends(desk, names + ")", 0);
        check.counts("with new names", desk, 2, count);
        return desk;
    }

    private static void twentyOneAreThere() {
        check.sentence("21 are there from the beginning: nil t quote if let cond and or list defun cons car cdr consp natp "
            + "symbolp equal + - < error.");
        ListSpeaker desk = new ListSpeaker(4);
        check.says(desk, "'(" + FIRST + ")", "(" + FIRST + ")\n");
        check.counts("all 21 were read", desk, 2, 21);
        check.says(desk, "'(ni nill tt * = > )", "!1\n");
        check.counts("five others were read", desk, 2, 26);
    }

    private static void fourHundredPairs() {
        check.sentence("Pairs that are read are kept in the STORE, 400 of them at most");
        ListSpeaker desk = new ListSpeaker(4);
        check.ends(desk, "(quote (" + dense(18) + " 1".repeat(19) + "))", 0);
        ListSpeaker other = new ListSpeaker(4);
        check.ends(other, "(quote (" + dense(18) + " 1".repeat(20) + "))", 0);
        check.counts("400 pairs, till they were done", other, 3, 0);
        ListSpeaker third = new ListSpeaker(4);
        check.says(third, "(quote (" + dense(18) + " 1".repeat(21) + "))", "!11\n");
        check.counts("401 pairs", third, 3, 0);
        check.counts("nothing was carried out", third, 6, 0);
        check.says(third, "'(1 2)", "(1 2)\n");
    }

    /** 21 pairs each: two for each of 10 ', and one for the list that this stands in. */
    private static String dense(int times) {
        return ("'".repeat(10) + "1").repeat(times);
    }

    private static void definitionsAreKeptForGood() {
        check.sentence("those of a definition that made a new function, for good");
        ListSpeaker desk = new ListSpeaker(4);
        check.says(desk, "(defun f (x) (car x))", "f\n");
        check.counts("4, 1 and 2 pairs", desk, 3, 7);
        check.says(desk, "(defun g () 1) (h", "g\n!1\n");
        check.counts("4 more, before an error", desk, 3, 11);
        check.says(desk, "(defun h (x) '(a . b))", "h\n");
        check.counts("4, 1, 2 and 1 more", desk, 3, 19);
        check.says(desk, "(defun k (x y . (z)) (f . (x)))", "k\n");
        check.counts("4, 3 and 2 more", desk, 3, 28);
        check.says(desk, "(h 1) (k '(9) 2 3)", "(a . b)\n9\n");
        check.counts("calls need none for good", desk, 3, 28);
        ListSpeaker full = deskWithStore(400);
        check.says(full, "(f)", "!11\n");
        check.says(full, "(defun g () 1)", "!11\n");
        check.counts("still full", full, 3, 400);
    }

    /** A function of 4 + 2 pairs and a list of 394 or less, each ' within it inside of at most 12 others. */
    private static ListSpeaker deskWithStore(int pairs) {
        ListSpeaker desk = new ListSpeaker(4);
        int rest = pairs - 6 - 20 * 19;
        check.says(desk, "(defun f () (quote (" + ("'".repeat(9) + "1").repeat(20) + " 1".repeat(rest) + ")))", "f\n");
        check.counts("a store of " + pairs, desk, 3, pairs);
        return desk;
    }

    private static void othersGoWhenTheyAreDone() {
        check.sentence("others till they are done.");
        ListSpeaker desk = new ListSpeaker(4);
        check.says(desk, "'(1 2 3)", "(1 2 3)\n");
        check.counts("a form that is done", desk, 3, 0);
        check.ends(desk, ("'(" + dense(12) + ")").repeat(2), 0);
        check.counts("254 pairs, and then 254 others", desk, 3, 0);
        ListSpeaker other = new ListSpeaker(4);
        check.says(other, "(car '(1 2", "!1\n");
        check.counts("a text that ends too early", other, 3, 0);
        check.says(other, "(car '(1 2) x)", "!4\n");
        check.counts("a form that is refused", other, 3, 0);
        check.says(other, "(car (error '(1 2)))", "!8\n");
        check.counts("a form that ends with an error", other, 3, 0);
    }

    private static void refusedDefinitionsGo() {
        ListSpeaker desk = new ListSpeaker(4);
        check.says(desk, "(defun f (x) (car x))", "f\n");
        check.says(desk, "(defun f (x) (car x)) (f '(9))", "f\n9\n");
        check.counts("the same function again", desk, 3, 7);
        check.says(desk, "(defun f (x) (cdr x))", "!10\n");
        check.counts("another one of this name", desk, 3, 7);
        check.says(desk, "(defun g (x) (cdr))", "!4\n");
        check.counts("one that is refused", desk, 3, 7);
    }

    private static void aPairIsMadeWhenItsDatumWasRead() {
        check.sentence("(A pair is made for each datum in brackets when that was read");
        ListSpeaker full = deskWithStore(400);
        check.says(full, "(", "!1\n");
        check.says(full, "(#", "!1\n");
        check.says(full, "((", "!1\n");
        check.says(full, "(1", "!11\n");
        check.says(full, "(()", "!11\n");
        check.says(full, "(zz", "!11\n");
        check.counts("f and what was read before its pair", full, 2, 23);
        ListSpeaker last = deskWithStore(399);
        check.says(last, "(1 #", "!1\n");
        check.says(last, "(1 2", "!11\n");
        check.says(last, "(1 ", "!1\n");
        check.says(last, "((1)", "!11\n");
        check.says(last, "((1", "!1\n");
        check.says(last, "(cond)", "nil\n");
        check.says(last, "(and t)", "!11\n");
    }

    private static void twoForAQuoteWhenItsDatumWasRead() {
        check.sentence("two for a ' when its datum was.)");
        ListSpeaker full = deskWithStore(400);
        check.says(full, "'#", "!1\n");
        check.says(full, "'", "!1\n");
        check.says(full, "'1", "!11\n");
        ListSpeaker last = deskWithStore(399);
        check.says(last, "'1", "!11\n");
        check.says(last, "'#", "!1\n");
        check.says(last, "'(1", "!1\n");
        check.says(last, "'(1 2", "!11\n");
        ListSpeaker two = deskWithStore(398);
        check.says(two, "'1", "1\n");
        check.says(two, "''1", "!11\n");
        check.says(two, "'(1)", "!11\n");
        check.says(two, "'()", "nil\n");
        check.counts("as before", two, 3, 398);
    }

    private static void aLastCdrNeedsNone() {
        check.sentence("(A pair is made for each datum in brackets when that was read");
        ListSpeaker last = deskWithStore(399);
        check.says(last, "(cond . nil)", "nil\n");
        check.says(last, "(cond . ())", "nil\n");
        check.says(last, "(cond . 1)", "!1\n");
        check.says(last, "(cond . (1", "!11\n");
        check.says(last, "(cond . 'x", "!11\n");
        ListSpeaker desk = new ListSpeaker(4);
        check.ends(desk, "(quote (" + dense(18) + " 1".repeat(20) + " . 1))", 0);
    }

    private static void whatNeedsNoPairIsReadWhenTheStoreIsFull() {
        check.sentence("FULL: another pair or symbol would be needed.");
        ListSpeaker full = deskWithStore(400);
        check.says(full, "5 t nil () ;'", "5\nt\nnil\nnil\n");
        check.says(full, "zz", "!2\n");
        check.says(full, "1 ()(1", "1\nnil\n!11\n");
    }
}
