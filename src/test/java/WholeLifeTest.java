import java.util.Random;

/** All promises: 512 calls, and calls that throw. */
public final class WholeLifeTest {
    private static final Check check = new Check();
    private static final int CALLS = 512;

    public static void main(String[] args) {
        runsAlone();
        oneOfEachInTurn();
        collectionsToTheEnd();
        fuelToTheEnd();
        textsToTheEnd();
        clearsToTheEnd();
        throwingCallsToTheEnd();
        throwingChangesNothing();
        throwingChangesNothingInAnyState();
        check.end();
    }

    private static void runsAlone() {
        check.sentence("An object is used for at most 512 calls after it has been made");
        ListSpeaker desk = new ListSpeaker(4);
        for (int call = 1; call <= CALLS; call++) {
            check.due("run as call " + call, desk.run(20000), 0);
        }
    }

    private static void oneOfEachInTurn() {
        ListSpeaker desk = new ListSpeaker(4);
        for (int call = 1; call <= CALLS; call += 4) {
            char digit = (char) ('0' + call / 4 % 10);
            check.due("type as call " + call, desk.type(digit), true);
            check.due("run as call " + (call + 1), desk.run(1), 0);
            check.due("count as call " + (call + 2), desk.count(0), 2);
            check.due("output as call " + (call + 3), desk.output(0), digit);
        }
    }

    /** 9 calls for each pair, 56 times, and 8 calls more. */
    private static void collectionsToTheEnd() {
        ListSpeaker desk = new ListSpeaker(4);
        for (int made = 1; made <= 56; made++) {
            check.due("pair " + made, Check.run(desk, "(list 1)", 20000), 0);
        }
        int[] due = {4, 0, 21, 0, 4, 13, 2, 1};
        for (int what = 0; what < due.length; what++) {
            check.counts("behind 56 pairs", desk, what, due[what]);
        }
    }

    /** 26 calls, then 6 for each of 80 runs that spend all their fuel. */
    private static void fuelToTheEnd() {
        ListSpeaker desk = new ListSpeaker(200);
        check.ends(desk, "(defun f(x)(f(list 1 2)))", 0);
        for (int n = 0; n < 80; n++) {
            check.due("a run without an end", Check.run(desk, "(f 1)", 20000), 5);
        }
        check.counts("the last one", desk, 6, 20000);
    }

    private static void textsToTheEnd() {
        ListSpeaker desk = new ListSpeaker(4);
        for (int call = 1; call <= CALLS - 2; call++) {
            check.due("type as call " + call, desk.type(call == 300 ? '7' : ' '), call <= 300);
        }
        check.due("run as call 511", desk.run(1), 0);
        check.due("output as call 512", desk.output(0), '7');
    }

    private static void clearsToTheEnd() {
        ListSpeaker desk = new ListSpeaker(4);
        for (int call = 1; call <= CALLS; call += 2) {
            check.due("type as call " + call, desk.type('('), true);
            check.due("clear as call " + (call + 1), desk.clear(), 1);
        }
    }

    private static void throwingCallsToTheEnd() {
        ListSpeaker desk = new ListSpeaker(4);
        desk.type('5');
        for (int call = 2; call <= CALLS - 2; call += 2) {
            check.due("run as call " + call, Check.thrownBy(() -> desk.run(-1)), "IllegalArgumentException");
            check.due("output as call " + (call + 1), Check.thrownBy(() -> desk.output(0)), "IndexOutOfBoundsException");
        }
        check.due("run as call 512", desk.run(1), 0);
    }

    private static void throwingChangesNothing() {
        check.sentence("A method that throws changes nothing.");
        ListSpeaker desk = new ListSpeaker(4);
        check.says(desk, "(defun f (x) x) (f (list 1 2))", "f\n(1 2)\n");
        Check.typeAll(desk, "(f 3)");
        int[] wrongFuels = {-1, 20001, Integer.MIN_VALUE, Integer.MAX_VALUE};
        for (int fuel : wrongFuels) {
            check.due("run(" + fuel + ")", Check.thrownBy(() -> desk.run(fuel)), "IllegalArgumentException");
        }
        int[] wrongPlaces = {-1, 8, Integer.MIN_VALUE, Integer.MAX_VALUE};
        for (int k : wrongPlaces) {
            check.due("output(" + k + ")", Check.thrownBy(() -> desk.output(k)), "IndexOutOfBoundsException");
        }
        int[] due = {8, 1, 23, 5, 2, 0, 5, 2, 3};
        for (int what = 0; what < due.length; what++) {
            check.counts("behind calls that threw", desk, what, due[what]);
        }
        check.due("the output stays", Check.printed(desk), "f\n(1 2)\n");
        check.due("type goes on", desk.type('4'), true);
        check.says(desk, "", "3\n4\n");
    }

    /** Of two desks that are used alike, one has calls between that throw. */
    private static void throwingChangesNothingInAnyState() {
        String[] texts = {
            "(defun f (x) (list x x))", "(f 1) (f '(a b))", "(f", "(g 1)", "(list 1 2 3 4 5)", "(car (f (f 2))) x", "(defun f () 1)",
            "'(a . b) )", "", "(error 1)", "(defun g (x) (car (g x))) (g 1)",
        };
        Random random = new Random(7);
        ListSpeaker plain = new ListSpeaker(5);
        ListSpeaker other = new ListSpeaker(5);
        for (String text : texts) {
            for (char c : text.toCharArray()) {
                check.due(text + ": type", other.type(c), plain.type(c));
                throwIn(other, random);
            }
            check.due(text + ": run", other.run(100), plain.run(100));
            throwIn(other, random);
            check.due(text + ": output", Check.printed(other), Check.printed(plain));
            for (int what = 0; what < 9; what++) {
                check.counts(text, other, what, plain.count(what));
            }
        }
    }

    private static void throwIn(ListSpeaker desk, Random random) {
        if (random.nextInt(6) == 0) {
            check.due("run", Check.thrownBy(() -> desk.run(random.nextBoolean() ? -1 : 20001)), "IllegalArgumentException");
        }
        if (random.nextInt(6) == 0) {
            int behind = desk.count(0);
            check.due("output", Check.thrownBy(() -> desk.output(random.nextBoolean() ? -1 : behind)), "IndexOutOfBoundsException");
        }
    }
}
