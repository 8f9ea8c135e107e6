/** Promise 4: run itself: the fuel that it takes, an empty text, and the text that goes. */
public final class RunTest {
    private static final Check check = new Check();

    public static void main(String[] args) {
        fuelBelowNone();
        fuelAboveTheMost();
        noFuel();
        theMostFuel();
        anEmptyText();
        theTextGoes();
        formsInOrder();
        check.end();
    }

    private static void fuelBelowNone() {
        check.sentence("IllegalArgumentException when fuel is not 0 .. 20000.");
        throwsWith(-1, -2, -20000, Integer.MIN_VALUE);
    }

    private static void fuelAboveTheMost() {
        throwsWith(20001, 20002, 65536, 65537, Integer.MAX_VALUE);
    }

    private static void throwsWith(int... fuels) {
        for (int fuel : fuels) {
            ListSpeaker desk = new ListSpeaker(9);
            check.due("run(" + fuel + ") of no text", Check.thrownBy(() -> desk.run(fuel)), "IllegalArgumentException");
            Check.typeAll(desk, "1 (defun f () 2)");
            check.due("run(" + fuel + ")", Check.thrownBy(() -> desk.run(fuel)), "IllegalArgumentException");
            check.counts("nothing was carried out", desk, 1, 0);
            check.counts("nothing was printed", desk, 0, 0);
            check.due("the text stays", desk.clear(), 16);
        }
    }

    private static void noFuel() {
        check.says(new ListSpeaker(9), "", 0, "");
        check.says(new ListSpeaker(9), "(defun f () 1)", 0, "f\n");
        check.says(new ListSpeaker(9), "1", 0, "!5\n");
        check.says(new ListSpeaker(9), "x", 0, "!2\n");
        check.says(new ListSpeaker(9), "1", 1, "1\n");
    }

    private static void theMostFuel() {
        check.says(new ListSpeaker(9), "1", 19999, "1\n");
        check.says(new ListSpeaker(9), "1", 20000, "1\n");
        ListSpeaker desk = new ListSpeaker(9);
        check.says(desk, "(defun f () (f)) (f)", 20000, "f\n!5\n");
        check.counts("all of it", desk, 6, 20000);
        check.says(desk, "(f)", 19999, "!5\n");
        check.counts("all of it", desk, 6, 19999);
    }

    private static void anEmptyText() {
        check.sentence("Carries out all forms of the text, in order, with so many steps in all; the text goes: 0, or the error.");
        ListSpeaker desk = new ListSpeaker(4);
        check.says(desk, "(defun f () (list 1 2)) (f)", "f\n(1 2)\n");
        String[] empty = {"", " ", "\n", " \n; (", ";"};
        for (String text : empty) {
            check.says(desk, text, "");
            int[] due = {0, 1, 22, 7, 2, 0, 0, 0, 0};
            for (int what = 0; what < due.length; what++) {
                check.counts("behind no forms", desk, what, due[what]);
            }
        }
        check.says(desk, "(f)", "(1 2)\n");
    }

    private static void theTextGoes() {
        ListSpeaker desk = new ListSpeaker(4);
        check.says(desk, "1", "1\n");
        check.due("clear()", desk.clear(), 0);
        check.says(desk, "x 2 3", "!2\n");
        check.due("clear() behind an error", desk.clear(), 0);
        check.says(desk, "(", "!1\n");
        check.says(desk, "4)", "4\n!1\n");
        check.says(desk, "5 ; 6", "5\n");
        check.says(desk, "7", "7\n");
        check.says(desk, "8", 0, "!5\n");
        check.due("clear() behind FUEL", desk.clear(), 0);
    }

    private static void formsInOrder() {
        check.says("1 2 3", "1\n2\n3\n");
        check.says("(f) (defun f () 1)", "!3\n");
        check.says("(defun f () 1) (f)", "f\n1\n");
        check.says("1 2 (3", "1\n2\n!1\n");
        check.says("1 2 (3)", "1\n2\n!1\n");
        ListSpeaker desk = new ListSpeaker(4);
        check.ends(desk, "1 ".repeat(150), 0);
        check.counts("as many forms as a text can have", desk, 7, 150);
        ListSpeaker dense = new ListSpeaker(4);
        check.ends(dense, "()".repeat(150), 0);
        check.counts("as many forms as a text can have", dense, 7, 150);
    }
}
