import java.util.ArrayList;
import java.util.Collections;
import java.util.HashMap;
import java.util.HashSet;
import java.util.IdentityHashMap;
import java.util.LinkedHashSet;
import java.util.List;
import java.util.Map;
import java.util.Set;
import java.util.regex.Matcher;
import java.util.regex.Pattern;

/**
 * A second reading of the document that shares nothing with the program: it looks at a form first and then walks
 * through it, on objects of Java's library. A datum is an Integer, a String (a symbol) or a Pair.
 */
final class Model {
    private static final class Pair {
        final Object car;
        Object cdr;

        Pair(Object car, Object cdr) {
            this.car = car;
            this.cdr = cdr;
        }
    }

    private static final class Function {
        final List<Object> parameters;
        final Object body;

        Function(List<Object> parameters, Object body) {
            this.parameters = parameters;
            this.body = body;
        }
    }

    private static final class Trouble extends RuntimeException {
        private static final long serialVersionUID = 1L;
        final int number;

        Trouble(int number) {
            super(null, null, false, false);
            this.number = number;
        }
    }

    private static final List<String> FIRST = List.of(("nil t quote if let cond and or list defun cons car cdr consp natp "
        + "symbolp equal + - < error").split(" "));
    private static final List<String> NO_VARIABLES = List.of("nil", "t", "quote", "defun");
    private static final Map<String, Integer> ARITIES = Map.ofEntries(Map.entry("cons", 2), Map.entry("car", 1),
        Map.entry("cdr", 1), Map.entry("consp", 1), Map.entry("natp", 1), Map.entry("symbolp", 1), Map.entry("equal", 2),
        Map.entry("+", 2), Map.entry("-", 2), Map.entry("<", 2), Map.entry("error", 1));
    private static final Pattern BLANKS = Pattern.compile("(?:[ \n]|;[^\n]*)*");
    private static final Pattern TOKEN = Pattern.compile("[()']|[^ \n;()']+");
    private static final Pattern NUMBER = Pattern.compile("[0-9]+");
    private static final Pattern SYMBOL = Pattern.compile("(?![0-9])[-a-z+*<=?0-9]{1,8}");

    private final int size;
    private final Set<String> symbols = new LinkedHashSet<>(FIRST);
    private final Map<String, Function> functions = new HashMap<>();
    private Set<Pair> made = Collections.newSetFromMap(new IdentityHashMap<>());
    private final List<Object> stack = new ArrayList<>();
    private final StringBuilder paper = new StringBuilder();
    private String text;
    private int at;
    private int stored;
    private int collections;
    private int fuel;
    private int steps;
    private int forms;
    private int most;
    private String calledInTail;
    private int argumentsInTail;

    Model(int size) {
        this.size = size;
    }

    int carryOut(String newText, int newFuel) {
        text = newText;
        at = 0;
        fuel = newFuel;
        steps = 0;
        forms = 0;
        most = 0;
        paper.setLength(0);
        int keep = stored;
        try {
            while (!peek().isEmpty()) {
                stack.clear();
                keep = stored;
                Object form = read(0);
                if (form instanceof Pair && ((Pair) form).car.equals("defun")) {
                    if (define(form)) {
                        keep = stored;
                    }
                } else {
                    look(form, Set.of());
                    evaluate(form, Map.of(), false);
                    print(stack.get(stack.size() - 1));
                }
                paper.append('\n');
                stored = keep;
                forms++;
            }
            return 0;
        } catch (Trouble trouble) {
            stored = keep;
            paper.append('!').append(trouble.number).append('\n');
            return trouble.number;
        }
    }

    String printed() {
        return paper.substring(0, Math.min(400, paper.length()));
    }

    int[] counts() {
        return new int[] {Math.min(400, paper.length()), functions.size(), symbols.size(), stored, made.size(), collections,
            steps, forms, most};
    }

    private String peek() {
        Matcher blanks = BLANKS.matcher(text).region(at, text.length());
        blanks.lookingAt();
        at = blanks.end();
        Matcher token = TOKEN.matcher(text).region(at, text.length());
        return token.lookingAt() ? token.group() : "";
    }

    private String next() {
        String token = peek();
        at += token.length();
        return token;
    }

    private Pair store(Object car, Object cdr) {
        if (stored == 400) {
            throw new Trouble(11);
        }
        stored++;
        return new Pair(car, cdr);
    }

    private Object read(int level) {
        need(level <= 12, 1);
        String token = next();
        if (token.equals("(")) {
            return readList(level + 1);
        }
        if (token.equals("'")) {
            Object quoted = read(level + 1);
            return store("quote", store(quoted, "nil"));
        }
        if (NUMBER.matcher(token).matches()) {
            String digits = token.replaceFirst("^0+(?=.)", "");
            need(digits.length() <= 9 && Integer.parseInt(digits) <= 268435455, 1);
            return Integer.parseInt(digits);
        }
        need(SYMBOL.matcher(token).matches(), 1);
        need(symbols.contains(token) || symbols.size() < 60, 11);
        symbols.add(token);
        return token;
    }

    private Object readList(int level) {
        List<Pair> spine = new ArrayList<>();
        Object end = "nil";
        while (!peek().equals(")")) {
            if (peek().equals(".")) {
                need(!spine.isEmpty(), 1);
                next();
                end = read(level);
                need(peek().equals(")"), 1);
            } else {
                spine.add(store(read(level), "nil"));
            }
        }
        next();
        for (int i = 0; i < spine.size(); i++) {
            spine.get(i).cdr = i + 1 < spine.size() ? spine.get(i + 1) : end;
        }
        return spine.isEmpty() ? end : spine.get(0);
    }

    /** null for what is no list. */
    private static List<Object> items(Object datum) {
        List<Object> items = new ArrayList<>();
        Object rest = datum;
        while (rest instanceof Pair) {
            items.add(((Pair) rest).car);
            rest = ((Pair) rest).cdr;
        }
        return rest.equals("nil") ? items : null;
    }

    private static void need(boolean holds, int error) {
        if (!holds) {
            throw new Trouble(error);
        }
    }

    private static void needVariables(List<Object> names) {
        for (Object name : names) {
            need(name instanceof String && !NO_VARIABLES.contains(name), 1);
        }
        need(new HashSet<>(names).size() == names.size(), 1);
    }

    /** Whether it is a new function. */
    private boolean define(Object form) {
        List<Object> items = items(form);
        need(items != null && items.size() == 4, 1);
        need(items.get(1) instanceof String && !FIRST.contains(items.get(1)), 1);
        List<Object> parameters = items(items.get(2));
        need(parameters != null && parameters.size() <= 5, 1);
        needVariables(parameters);
        look(items.get(3), new HashSet<>(parameters));
        Function old = functions.get(items.get(1));
        if (old != null) {
            need(old.parameters.equals(parameters) && written(old.body).equals(written(items.get(3))), 10);
        } else {
            need(functions.size() < 16, 11);
            functions.put((String) items.get(1), new Function(parameters, items.get(3)));
        }
        paper.append(items.get(1));
        return old == null;
    }

    private static String written(Object datum) {
        if (!(datum instanceof Pair)) {
            return datum.toString();
        }
        return "(" + written(((Pair) datum).car) + " . " + written(((Pair) datum).cdr) + ")";
    }

    private void look(Object form, Set<Object> variables) {
        if (form instanceof Integer || form.equals("nil") || form.equals("t")) {
            return;
        }
        if (form instanceof String) {
            need(variables.contains(form), 2);
            return;
        }
        List<Object> items = items(form);
        need(items != null && items.get(0) instanceof String, 1);
        String head = (String) items.get(0);
        List<Object> rest = items.subList(1, items.size());
        need(!head.equals("defun"), 1);
        if (head.equals("quote")) {
            need(rest.size() == 1, 1);
            return;
        }
        if (head.equals("let")) {
            lookAtLet(rest, variables);
            return;
        }
        if (head.equals("cond")) {
            for (List<Object> clause : couples(rest)) {
                look(clause.get(0), variables);
                look(clause.get(1), variables);
            }
            return;
        }
        need(!head.equals("if") || rest.size() == 3, 1);
        need(!ARITIES.containsKey(head) || ARITIES.get(head) == rest.size(), 4);
        for (Object each : rest) {
            look(each, variables);
        }
    }

    private void lookAtLet(List<Object> rest, Set<Object> variables) {
        need(rest.size() == 2 && items(rest.get(0)) != null, 1);
        List<List<Object>> couples = couples(items(rest.get(0)));
        List<Object> names = new ArrayList<>();
        for (List<Object> couple : couples) {
            names.add(couple.get(0));
        }
        needVariables(names);
        for (List<Object> couple : couples) {
            look(couple.get(1), variables);
        }
        Set<Object> inside = new HashSet<>(variables);
        inside.addAll(names);
        look(rest.get(1), inside);
    }

    private static List<List<Object>> couples(List<Object> data) {
        List<List<Object>> couples = new ArrayList<>();
        for (Object datum : data) {
            List<Object> couple = items(datum);
            need(couple != null && couple.size() == 2, 1);
            couples.add(couple);
        }
        return couples;
    }

    private void step() {
        need(steps < fuel, 5);
        steps++;
    }

    private void push(Object datum) {
        need(stack.size() < 100, 9);
        stack.add(datum);
        most = Math.max(most, stack.size());
    }

    private Object pop() {
        return stack.remove(stack.size() - 1);
    }

    private void evaluate(Object form, Map<Object, Integer> places, boolean tail) {
        step();
        if (!(form instanceof Pair)) {
            boolean own = form instanceof Integer || form.equals("nil") || form.equals("t");
            push(own ? form : stack.get(places.get(form)));
            return;
        }
        List<Object> items = items(form);
        String head = (String) items.get(0);
        List<Object> rest = items.subList(1, items.size());
        switch (head) {
            case "quote": push(rest.get(0)); return;
            case "if": evaluate(rest.get(isNil(rest.get(0), places) ? 2 : 1), places, tail); return;
            case "let": let(rest, places, tail); return;
            case "cond": cond(rest, places, tail); return;
            case "and": and(rest, places, tail); return;
            case "or": or(rest, places, tail); return;
            default: break;
        }
        for (Object each : rest) {
            evaluate(each, places, false);
        }
        if (head.equals("list")) {
            push("nil");
            for (int i = 0; i < rest.size(); i++) {
                pair();
            }
        } else if (ARITIES.containsKey(head)) {
            primitive(head);
        } else {
            call(head, rest.size(), tail);
        }
    }

    private boolean isNil(Object form, Map<Object, Integer> places) {
        evaluate(form, places, false);
        return pop().equals("nil");
    }

    private void let(List<Object> rest, Map<Object, Integer> places, boolean tail) {
        int ground = stack.size();
        Map<Object, Integer> inside = new HashMap<>(places);
        for (List<Object> couple : couples(items(rest.get(0)))) {
            int place = stack.size();
            evaluate(couple.get(1), places, false);
            inside.put(couple.get(0), place);
        }
        evaluate(rest.get(1), inside, tail);
        if (calledInTail == null) {
            Object value = pop();
            cutTo(ground);
            push(value);
        }
    }

    private void cutTo(int height) {
        stack.subList(height, stack.size()).clear();
    }

    private void cond(List<Object> rest, Map<Object, Integer> places, boolean tail) {
        for (List<Object> clause : couples(rest)) {
            if (!isNil(clause.get(0), places)) {
                evaluate(clause.get(1), places, tail);
                return;
            }
        }
        push("nil");
    }

    private void and(List<Object> rest, Map<Object, Integer> places, boolean tail) {
        if (rest.isEmpty()) {
            push("t");
            return;
        }
        for (Object each : rest.subList(0, rest.size() - 1)) {
            if (isNil(each, places)) {
                push("nil");
                return;
            }
        }
        evaluate(rest.get(rest.size() - 1), places, tail);
    }

    private void or(List<Object> rest, Map<Object, Integer> places, boolean tail) {
        if (rest.isEmpty()) {
            push("nil");
            return;
        }
        for (Object each : rest.subList(0, rest.size() - 1)) {
            evaluate(each, places, false);
            if (!stack.get(stack.size() - 1).equals("nil")) {
                return;
            }
            pop();
        }
        evaluate(rest.get(rest.size() - 1), places, tail);
    }

    private void call(String name, int arguments, boolean tail) {
        need(functions.containsKey(name), 3);
        need(functions.get(name).parameters.size() == arguments, 4);
        if (tail) {
            calledInTail = name;
            argumentsInTail = arguments;
            return;
        }
        int ground = stack.size() - arguments;
        String called = name;
        push("nil");
        while (called != null) {
            Function function = functions.get(called);
            Map<Object, Integer> places = new HashMap<>();
            for (int i = 0; i < function.parameters.size(); i++) {
                places.put(function.parameters.get(i), ground + i);
            }
            calledInTail = null;
            evaluate(function.body, places, true);
            called = calledInTail;
            if (called != null) {
                List<Object> values = new ArrayList<>(stack.subList(stack.size() - argumentsInTail, stack.size()));
                cutTo(ground);
                stack.addAll(values);
                stack.add("nil");
            }
        }
        Object value = pop();
        cutTo(ground);
        push(value);
    }

    private void pair() {
        if (made.size() == size) {
            collections++;
            Set<Pair> reached = Collections.newSetFromMap(new IdentityHashMap<>());
            for (Object datum : stack) {
                reach(datum, reached);
            }
            made.retainAll(reached);
            need(made.size() < size, 6);
        }
        Object cdr = pop();
        Pair pair = new Pair(pop(), cdr);
        made.add(pair);
        push(pair);
    }

    private void reach(Object datum, Set<Pair> reached) {
        if (datum instanceof Pair && reached.add((Pair) datum)) {
            reach(((Pair) datum).car, reached);
            reach(((Pair) datum).cdr, reached);
        }
    }

    private void primitive(String name) {
        if (name.equals("cons")) {
            pair();
            return;
        }
        Object last = pop();
        Object value;
        switch (name) {
            case "car": value = last instanceof Pair ? ((Pair) last).car : "nil"; break;
            case "cdr": value = last instanceof Pair ? ((Pair) last).cdr : "nil"; break;
            case "consp": value = truth(last instanceof Pair); break;
            case "natp": value = truth(last instanceof Integer); break;
            case "symbolp": value = truth(last instanceof String); break;
            case "equal": value = truth(areEqual(pop(), last)); break;
            case "<": value = truth(number(pop()) < number(last)); break;
            case "-": value = Math.max(0, number(pop()) - number(last)); break;
            case "+":
                value = number(pop()) + number(last);
                need((Integer) value <= 268435455, 7);
                break;
            default: throw new Trouble(8);
        }
        push(value);
    }

    private static Object truth(boolean holds) {
        return holds ? "t" : "nil";
    }

    private static int number(Object datum) {
        return datum instanceof Integer ? (Integer) datum : 0;
    }

    private boolean areEqual(Object one, Object other) {
        if (one instanceof Pair && other instanceof Pair) {
            step();
            return areEqual(((Pair) one).car, ((Pair) other).car) && areEqual(((Pair) one).cdr, ((Pair) other).cdr);
        }
        return one.equals(other);
    }

    private void print(Object datum) {
        if (!(datum instanceof Pair)) {
            paper.append(datum);
            return;
        }
        paper.append('(');
        print(((Pair) datum).car);
        Object rest = ((Pair) datum).cdr;
        while (rest instanceof Pair && paper.length() < 500) {
            paper.append(' ');
            print(((Pair) rest).car);
            rest = ((Pair) rest).cdr;
        }
        if (!rest.equals("nil") && paper.length() < 500) {
            paper.append(" . ");
            print(rest);
        }
        paper.append(')');
    }
}
