/** Promise 1: a new object. */
public final class NewObjectTest {
    private static final Check check = new Check();

    public static void main(String[] args) {
        startsEmpty();
        takesTheNearestSize();
        check.due("NONE", ListSpeaker.NONE, -1);
        check.end();
    }

    private static void startsEmpty() {
        ListSpeaker desk = new ListSpeaker(50);
        int[] due = {0, 0, 21, 0, 0, 0, 0, 0, 0};
        for (int what = 0; what < due.length; what++) {
            check.counts("new", desk, what, due[what]);
        }
        check.due("clear() of a new one", desk.clear(), 0);
        check.says(new ListSpeaker(50), "(f)", "!3\n");
    }

    private static void takesTheNearestSize() {
        sizeIs(Integer.MIN_VALUE, 4);
        sizeIs(-1, 4);
        sizeIs(0, 4);
        sizeIs(3, 4);
        sizeIs(4, 4);
        sizeIs(5, 5);
        sizeIs(199, 199);
        sizeIs(200, 200);
        sizeIs(201, 200);
        sizeIs(Integer.MAX_VALUE, 200);
    }

    /** A list that grows by one till there is no room tells how many pairs there can be. */
    private static void sizeIs(int asked, int size) {
        ListSpeaker desk = new ListSpeaker(asked);
        check.says(desk, "(defun f (x) (f (cons 1 x)))(f nil)", "f\n!6\n");
        check.counts("size " + asked, desk, 4, size);
        check.counts("size " + asked, desk, 5, 1);
    }
}
