/** Counts wrong answers and prints each of them, with the sentence of the document that it is about. */
final class Check {
    private int wrong = 0;
    private String sentence = "";

    /** The sentence of ../shared/DOC.md that all checks from here on are about. */
    void sentence(String words) {
        sentence = "\"" + words + "\": ";
    }

    void due(String what, Object got, Object want) {
        if (!String.valueOf(got).equals(String.valueOf(want))) {
            wrong++;
            System.out.println(show(sentence + what) + " answered " + show(got) + ", due is " + show(want));
        }
    }

    /** What a new desk of 20 pairs answers to the text. */
    void says(String text, String want) {
        says(new ListSpeaker(20), text, want);
    }

    void says(ListSpeaker desk, String text, String want) {
        says(desk, text, 20000, want);
    }

    /** want: the output, where the error of the run follows from a last line that begins with !. */
    void says(ListSpeaker desk, String text, int fuel, String want) {
        int error = run(desk, text, fuel);
        due(text, printed(desk), want);
        due(text + ": the run", error, errorIn(want));
    }

    /** For texts whose output does not matter. */
    void ends(ListSpeaker desk, String text, int error) {
        due(text + ": the run", run(desk, text, 20000), error);
    }

    void counts(String when, ListSpeaker desk, int what, int want) {
        due(when + ": count(" + what + ")", desk.count(what), want);
    }

    void end() {
        if (wrong != 0) {
            System.out.println(wrong + " answers are not as due");
            System.exit(1);
        }
    }

    static void typeAll(ListSpeaker desk, String text) {
        for (int i = 0; i < text.length(); i++) {
            if (!desk.type(text.charAt(i))) {
                throw new IllegalStateException("the text of a test is too long");
            }
        }
    }

    static int run(ListSpeaker desk, String text, int fuel) {
        typeAll(desk, text);
        return desk.run(fuel);
    }

    static String printed(ListSpeaker desk) {
        return printed(desk, desk.count(0));
    }

    /** The first characters of the output. */
    static String printed(ListSpeaker desk, int length) {
        StringBuilder all = new StringBuilder();
        for (int k = 0; k < length; k++) {
            all.append(desk.output(k));
        }
        return all.toString();
    }

    /** A call of what nobody has defined: UNDEFINED comes when there were places for so many values and the last form. */
    static String above(int values, String last) {
        return "(g" + " 1".repeat(values) + " " + last + ")";
    }

    /** The name of the class that the call throws. */
    static String thrownBy(Runnable call) {
        try {
            call.run();
            return "nothing";
        } catch (RuntimeException e) {
            return e.getClass().getSimpleName();
        }
    }

    private static int errorIn(String output) {
        int mark = output.lastIndexOf('!');
        return mark < 0 ? 0 : Integer.parseInt(output.substring(mark + 1).trim());
    }

    private static String show(Object answer) {
        return String.valueOf(answer).replace("\n", "\\n");
    }
}
