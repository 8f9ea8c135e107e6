/** Promise 4: ERRORS, each of them and what it does to the run. */
public final class ErrorsTest {
    private static final Check check = new Check();

    /** Texts that end with the error whose number their place is. */
    private static final String[] TEXTS = {
        "", "(if 1 2)", "(car x)", "(f 1)", "(car)", "(car (car (car 1)))", "(list 1 2 3 4 5)", "(+ 268435455 1)", "(error 1)",
        "(defun d () (car (d))) (d)", "(defun d () 1) (defun d () 2)", "'a60",
    };

    public static void main(String[] args) {
        everyNumber();
        everyErrorIsPrinted();
        everyErrorEndsTheRun();
        everyErrorLeavesADeskThatWorks();
        check.end();
    }

    private static void everyNumber() {
        check.sentence("ERRORS: 1 SYNTAX, 2 UNKNOWN, 3 UNDEFINED, 4 ARGUMENTS, 5 FUEL, 6 ROOM, 7 OVERFLOW, 8 ERROR, 9 DEEP, "
            + "10 REDEFINED, 11 FULL.");
        for (int error = 0; error < TEXTS.length; error++) {
            check.due(TEXTS[error], Check.run(deskFor(error), TEXTS[error], fuelFor(error)), error);
        }
    }

    private static ListSpeaker deskFor(int error) {
        ListSpeaker desk = new ListSpeaker(4);
        if (error == 11) {
            StringBuilder names = new StringBuilder("'(");
            for (int i = 21; i < 60; i++) {
                names.append('a').append(i).append(' ');
            }
            check.ends(desk, names + ")", 0);
        }
        return desk;
    }

    private static int fuelFor(int error) {
        return error == 5 ? 3 : 20000;
    }

    private static void everyErrorIsPrinted() {
        check.sentence("! and its number and a 10 are printed.");
        for (int error = 1; error < TEXTS.length; error++) {
            String before = error == 9 || error == 10 ? "7\nd\n" : "7\n";
            check.says(deskFor(error), "7 " + TEXTS[error], fuelFor(error), before + "!" + error + "\n");
        }
    }

    private static void everyErrorEndsTheRun() {
        check.sentence("An error ends the run");
        for (int error = 1; error < TEXTS.length; error++) {
            ListSpeaker desk = deskFor(error);
            int functions = error == 9 || error == 10 ? 1 : 0;
            check.due(TEXTS[error], Check.run(desk, TEXTS[error] + " 8 (defun k () 1) #", fuelFor(error)), error);
            check.counts(TEXTS[error] + ", and more", desk, 7, functions);
            check.counts(TEXTS[error] + ", and more", desk, 1, functions);
            check.counts(TEXTS[error] + ", and more", desk, 0, 2 * functions + 2 + (error < 10 ? 1 : 2));
            check.due(TEXTS[error] + ", and more: the text goes", desk.clear(), 0);
        }
    }

    private static void everyErrorLeavesADeskThatWorks() {
        check.sentence("Carries out all forms of the text, in order");
        for (int error = 1; error < TEXTS.length; error++) {
            ListSpeaker desk = deskFor(error);
            check.due(TEXTS[error], Check.run(desk, TEXTS[error], fuelFor(error)), error);
            int stored = desk.count(3);
            check.says(desk, "(let ((car (list 1 2 3 4))) (cdr car)) 5", "(2 3 4)\n5\n");
            check.counts("behind " + TEXTS[error], desk, 3, stored);
            check.counts("behind " + TEXTS[error], desk, 4, 4);
            check.counts("behind " + TEXTS[error], desk, 7, 2);
            check.counts("behind " + TEXTS[error], desk, 8, 5);
        }
    }
}
