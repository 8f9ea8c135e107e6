/** Counts wrong answers and prints each of them. */
final class Check {
    private int wrong = 0;

    void due(String what, Object got, Object want) {
        if (!String.valueOf(got).equals(String.valueOf(want))) {
            wrong++;
            System.out.println(what + " answered " + show(got) + ", due is " + show(want));
        }
    }

    /** What a new desk of 20 pairs answers to the text. */
    void says(String text, String want) {
        says(new ListSpeaker(20), text, want);
    }

    void says(ListSpeaker desk, String text, String want) {
        says(desk, text, 20000, want);
    }

    /** want: the output, where the error of the run follows from a last line that begins with !. */
    void says(ListSpeaker desk, String text, int fuel, String want) {
        typeAll(desk, text);
        int error = desk.run(fuel);
        due(show(text), printed(desk), want);
        due(show(text) + ": the run", error, errorIn(want));
    }

    void counts(String when, ListSpeaker desk, int what, int want) {
        due(when + ": count(" + what + ")", desk.count(what), want);
    }

    void end() {
        if (wrong != 0) {
            System.out.println(wrong + " answers are not as due");
            System.exit(1);
        }
    }

    static void typeAll(ListSpeaker desk, String text) {
        for (int i = 0; i < text.length(); i++) {
            if (!desk.type(text.charAt(i))) {
                throw new IllegalStateException("the text of a test is too long");
            }
        }
    }

    static String printed(ListSpeaker desk) {
        StringBuilder all = new StringBuilder();
        for (int k = 0; k < desk.count(0); k++) {
            all.append(desk.output(k));
        }
        return all.toString();
    }

    private static int errorIn(String output) {
        int mark = output.lastIndexOf('!');
        return mark < 0 ? 0 : Integer.parseInt(output.substring(mark + 1).trim());
    }

    private static String show(Object answer) {
        return String.valueOf(answer).replace("\n", "\\n");
    }
}
