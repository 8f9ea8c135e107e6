/** Promises 2 and 3: type and clear. */
public final class TypeAndClearTest {
    private static final Check check = new Check();

    public static void main(String[] args) {
        appends();
        appendsTheThreeHundredth();
        refusesTheOneBehindIt();
        appendsAgainWhenTheTextWent();
        takesAnyCharacter();
        clearsNothing();
        clearsSome();
        clearsAFullText();
        clearsTheTextAlone();
        check.end();
    }

    private static void appends() {
        check.sentence("Appends a character to the text: true");
        ListSpeaker desk = new ListSpeaker(10);
        check.due("the first", desk.type('1'), true);
        check.due("the second", desk.type('2'), true);
        check.says(desk, "", "12\n");
    }

    private static void appendsTheThreeHundredth() {
        check.sentence("refused (false) when it has 300.");
        ListSpeaker desk = new ListSpeaker(10);
        for (int i = 1; i < 300; i++) {
            check.due("type of character " + i, desk.type(' '), true);
        }
        check.due("type of character 300", desk.type('7'), true);
        check.says(desk, "", "7\n");
    }

    private static void refusesTheOneBehindIt() {
        ListSpeaker desk = new ListSpeaker(10);
        Check.typeAll(desk, "7" + " ".repeat(298) + "6");
        check.due("type of character 301", desk.type('8'), false);
        check.due("type of it again", desk.type('9'), false);
        check.due("type of a blank", desk.type(' '), false);
        check.says(desk, "", "7\n6\n");
    }

    private static void appendsAgainWhenTheTextWent() {
        ListSpeaker desk = new ListSpeaker(10);
        Check.typeAll(desk, " ".repeat(300));
        desk.run(0);
        check.due("type behind a run", desk.type('4'), true);
        desk.clear();
        Check.typeAll(desk, "x".repeat(100));
        check.due("clear()", desk.clear(), 100);
        check.due("type behind a clear", desk.type('5'), true);
        check.says(desk, "", "5\n");
    }

    /** 256 of them on each desk, since a desk is used for 512 calls. */
    private static void takesAnyCharacter() {
        check.sentence("Appends a character to the text: true");
        for (int first = 0; first < 65536; first += 256) {
            ListSpeaker desk = new ListSpeaker(10);
            for (int c = first; c < first + 256; c++) {
                check.due("type " + c, desk.type((char) c), true);
            }
            check.due("clear() behind " + first, desk.clear(), 256);
        }
    }

    private static void clearsNothing() {
        check.sentence("Answers how many characters it had.");
        ListSpeaker desk = new ListSpeaker(10);
        check.due("clear() of an empty text", desk.clear(), 0);
        check.due("clear() of it again", desk.clear(), 0);
        check.ends(desk, "1", 0);
        check.due("clear() behind a run", desk.clear(), 0);
        check.ends(desk, "x 1", 2);
        check.due("clear() behind an error", desk.clear(), 0);
    }

    private static void clearsSome() {
        ListSpeaker desk = new ListSpeaker(10);
        desk.type(';');
        check.due("clear() of one", desk.clear(), 1);
        Check.typeAll(desk, "(car 6");
        check.due("clear() of six", desk.clear(), 6);
        check.due("clear() again", desk.clear(), 0);
    }

    private static void clearsAFullText() {
        ListSpeaker desk = new ListSpeaker(10);
        Check.typeAll(desk, "x".repeat(299));
        check.due("clear() of 299", desk.clear(), 299);
        ListSpeaker other = new ListSpeaker(10);
        Check.typeAll(other, "x".repeat(300));
        other.type('x');
        other.type('x');
        check.due("clear() of a full text", other.clear(), 300);
        check.due("type behind it", other.type('1'), true);
        check.due("clear() of that", other.clear(), 1);
    }

    private static void clearsTheTextAlone() {
        check.sentence("The text goes.");
        ListSpeaker desk = new ListSpeaker(10);
        check.says(desk, "(defun f () (list 5)) (f)", "f\n(5)\n");
        Check.typeAll(desk, "(list x");
        desk.clear();
        check.due("the output stays", Check.printed(desk), "f\n(5)\n");
        int[] due = {6, 1, 22, 6, 1, 0, 3, 2, 3};
        for (int what = 0; what < due.length; what++) {
            check.counts("behind clear()", desk, what, due[what]);
        }
        check.says(desk, "(f)", "(5)\n");
        Check.typeAll(desk, "1 2 3");
        desk.clear();
        check.says(desk, "", "");
    }
}
