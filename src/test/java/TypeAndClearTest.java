/** Promises 2 and 3: type and clear. */
public final class TypeAndClearTest {
    private static final Check check = new Check();

    public static void main(String[] args) {
        refusesTheThreeHundredFirst();
        clears();
        takesAnyCharacter();
        check.end();
    }

    private static void refusesTheThreeHundredFirst() {
        ListSpeaker desk = new ListSpeaker(10);
        check.due("type 7", desk.type('7'), true);
        for (int i = 1; i < 300; i++) {
            check.due("type of character " + i, desk.type(' '), true);
        }
        check.due("type when there are 300", desk.type('8'), false);
        check.due("type when there are 300", desk.type('9'), false);
        check.due("run", desk.run(9), 0);
        check.due("a refused character leaves no trace", Check.printed(desk), "7\n");
        check.due("type when the run took the text", desk.type('1'), true);
    }

    private static void clears() {
        ListSpeaker desk = new ListSpeaker(10);
        check.says(desk, "5", "5\n");
        Check.typeAll(desk, "(car 6");
        check.due("clear()", desk.clear(), 6);
        check.due("clear() again", desk.clear(), 0);
        check.due("the output stays", Check.printed(desk), "5\n");
        check.says(desk, "7", "7\n");
        for (int i = 0; i < 300; i++) {
            desk.type('x');
        }
        desk.type('x');
        check.due("clear() of a full text", desk.clear(), 300);
        check.due("type after clear()", desk.type('1'), true);
        check.due("run", desk.run(1), 0);
        check.due("clear() after a run", desk.clear(), 0);
    }

    private static void takesAnyCharacter() {
        char[] others = {0, 9, 13, 127, 255, 256, '\uffff'};
        for (char c : others) {
            ListSpeaker desk = new ListSpeaker(10);
            check.due("type " + (int) c, desk.type(c), true);
            check.due("run of " + (int) c, desk.run(5), 1);
        }
    }
}
