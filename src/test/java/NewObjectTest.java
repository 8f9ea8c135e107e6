/** Promise 1: a new object. */
public final class NewObjectTest {
    private static final Check check = new Check();

    public static void main(String[] args) {
        takesTheNearestSize();
        hasNoFunctions();
        hasNoText();
        countsNothing();
        check.due("NONE", ListSpeaker.NONE, -1);
        check.end();
    }

    private static void takesTheNearestSize() {
        check.sentence("SIZE is size, 4 .. 200 (the nearest one).");
        for (int size = 4; size <= 200; size++) {
            sizeIs(size, size);
        }
        int[] tooSmall = {Integer.MIN_VALUE, Integer.MIN_VALUE + 1, -200, -5, -4, -1, 0, 1, 2, 3};
        for (int size : tooSmall) {
            sizeIs(size, 4);
        }
        int[] tooLarge = {201, 202, 204, 256, 400, 65540, Integer.MAX_VALUE - 1, Integer.MAX_VALUE};
        for (int size : tooLarge) {
            sizeIs(size, 200);
        }
    }

    /** A list that grows by one till there is no room tells how many pairs there can be. */
    private static void sizeIs(int asked, int size) {
        ListSpeaker desk = new ListSpeaker(asked);
        check.says(desk, "(defun f (x) (f (cons 1 x)))(f nil)", "f\n!6\n");
        check.counts("size " + asked, desk, 4, size);
        check.counts("size " + asked, desk, 5, 1);
    }

    private static void hasNoFunctions() {
        check.sentence("No functions, no text.");
        check.counts("new", new ListSpeaker(50), 1, 0);
        check.says("(f)", "!3\n");
        ListSpeaker desk = new ListSpeaker(50);
        for (char c = 'a'; c < 'a' + 16; c++) {
            check.says(desk, "(defun " + c + "()1)", c + "\n");
        }
    }

    private static void hasNoText() {
        check.due("clear()", new ListSpeaker(50).clear(), 0);
        ListSpeaker desk = new ListSpeaker(50);
        check.says(desk, "", "");
        check.counts("the run of no text", desk, 7, 0);
        ListSpeaker full = new ListSpeaker(50);
        Check.typeAll(full, " ".repeat(300));
        check.due("clear() of 300", full.clear(), 300);
    }

    private static void countsNothing() {
        check.sentence("21 are there from the beginning");
        check.counts("new", new ListSpeaker(4), 2, 21);
        check.sentence("what = 0 how many characters of output there are");
        int[] due = {0, 0, 21, 0, 0, 0, 0, 0, 0};
        ListSpeaker desk = new ListSpeaker(200);
        for (int what = 0; what < due.length; what++) {
            check.counts("new", desk, what, due[what]);
        }
    }
}
