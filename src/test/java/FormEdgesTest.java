/** Promise 4: the edges of each kind of form, sentence by sentence. */
public final class FormEdgesTest {
    private static final Check check = new Check();

    public static void main(String[] args) {
        ownValues();
        unknownVariables();
        otherData();
        quotes();
        choices();
        lets();
        conds();
        ands();
        ors();
        lists();
        howManyA();
        carAndCdrOfOthers();
        kinds();
        equality();
        stepsOfEquality();
        sums();
        differences();
        comparisons();
        errors();
        shapes();
        forbiddenVariables();
        letsWithoutVariables();
        whatIsSeenFirst();
        check.end();
    }

    private static void ownValues() {
        check.sentence("Numbers, nil and t are their own values.");
        check.says("0 268435455 nil t ()", "0\n268435455\nnil\nt\nnil\n");
        check.says("(let ((x nil)) x) (if nil 1 nil) (car '(t))", "nil\nnil\nt\n");
    }

    private static void unknownVariables() {
        check.sentence("Another symbol: the value of the variable (UNKNOWN, if there is none).");
        String[] unknown = {
            "x", "quote", "if", "let", "cond", "and", "or", "list", "defun", "cons", "car", "cdr", "consp", "natp", "symbolp",
            "equal", "+", "-", "<", "error", "(if nil x 1)", "(or 1 x)", "(and nil x)", "(cond (nil x))", "(cond (1 2) (x 3))",
            "(let ((a 1) (b a)) b)", "(let ((a a)) a)", "(list (let ((a 1)) a) a)", "(f x)", "(let ((a 1)) b)",
        };
        for (String text : unknown) {
            check.says(text, "!2\n");
        }
        check.says("(let ((a 1)) 2) a", "2\n!2\n");
        check.says("(defun f (x) f)", "!2\n");
        check.says("(defun f (x) x) (f 1) x", "f\n1\n!2\n");
        check.says("(defun f () 1) f", "f\n!2\n");
        check.says("(let ((x 1)) x) (defun f () x)", "1\n!2\n");
        check.says("(defun f (x) x) (let ((y 1)) x)", "f\n!2\n");
        check.says("(let ((x 1)) (let ((y 2)) (list x y)))", "(1 2)\n");
        check.says("(let ((x 1)) (list x (let ((x 2)) x) x))", "(1 2 1)\n");
    }

    private static void otherData() {
        check.sentence("A list that begins with a symbol (any other datum: SYNTAX)");
        String[] others = {
            "(1)", "(0 1)", "((f))", "((f) 1)", "(() 1 . 2)", "('f 1)", "(''f)", "(f . 1)", "(f . g)", "(f 1 . 2)", "(nil . t)",
            "(quote . 1)", "(cons 1 . 2)", "(1 . 2)", "((car '(car)) 1)",
        };
        for (String text : others) {
            check.says(text, "!1\n");
            check.says("(if 1 2 " + text + ")", "!1\n");
        }
        check.says("(() 1)", "!3\n");
    }

    private static void quotes() {
        check.sentence("(quote X): X.");
        check.says("(quote x) (quote ()) (quote (1 . 2)) (quote (1)) '5", "x\nnil\n(1 . 2)\n(1)\n5\n");
        check.says("(quote)", "!1\n");
        check.says("(quote 1 2)", "!1\n");
    }

    private static void choices() {
        check.sentence("(if A B C): A is evaluated and taken off; then B, or C, if it was nil.");
        check.says("(if nil 1 2) (if () 1 2) (if 'nil 1 2)", "2\n2\n2\n");
        check.says("(if 0 1 2) (if t 1 2) (if 'x 1 2) (if '(nil) 1 2)", "1\n1\n1\n1\n");
        check.says("(if t 1 (error 1)) (if nil (error 1) 2)", "1\n2\n");
        check.says("(if)", "!1\n");
        check.says("(if 1)", "!1\n");
        check.says("(if 1 2)", "!1\n");
        check.says("(if 1 2 3 4)", "!1\n");
    }

    private static void lets() {
        check.sentence("(let ((V A) ..) B): all A, in order; the variables V, all different, have these values then; B");
        check.says("(let ((a 1)) (let ((a 2) (b a)) (list a b)))", "(2 1)\n");
        check.says("(let ((a 1) (b (let ((c 2)) c)) (d (let ((e 3) (g 4)) (list g e)))) (list a b d))", "(1 2 (4 3))\n");
        check.says("(let ((a (error 1)) (b (+ 268435455 1))) a)", "!8\n");
        check.says("(let ((a (+ 268435455 1)) (b (error 1))) a)", "!7\n");
        check.says("(let ((a 1) (a 2)) a)", "!1\n");
        check.says("(let ((a 1) (b 2) (a 3)) a)", "!1\n");
        check.says("(let ((a 1) (b 2) (b 3)) a)", "!1\n");
        check.says("(let ((if 1) (car 2) (list 3) (let 4)) (list if car list let))", "(1 2 3 4)\n");
        check.says("(let ((a 1)(b 2)(c 3)(d 4)(e 5)(f 6)(g 7)) (list g f e d c b a))", "(7 6 5 4 3 2 1)\n");
        String[] wrong = {
            "(let)", "(let ())", "(let () 1 2)", "(let a 1)", "(let 5 1)", "(let t 1)", "(let (a) 1)", "(let ((a)) 1)",
            "(let ((a 1 2)) 1)", "(let ((a . 1)) 1)", "(let ((a 1) . b) 1)", "(let ((1 1)) 1)", "(let (((a) 1)) 1)",
            "(let ((() 1)) 1)", "(let (()) 1)", "(let (nil) 1)", "(let ((a 1)) . 2)",
        };
        for (String text : wrong) {
            check.says(text, "!1\n");
        }
    }

    private static void conds() {
        check.sentence("the first B whose A is not nil, each A being taken off; without one nil.");
        check.says("(cond)", "nil\n");
        check.says("(cond (nil 1))", "nil\n");
        check.says("(cond (nil 1) (() 2))", "nil\n");
        check.says("(cond (0 1) (2 (error 1)))", "1\n");
        check.says("(cond (nil (error 1)) (2 nil) (3 4))", "nil\n");
        check.says("(list 8 (cond) 9 (cond (nil 1)))", "(8 nil 9 nil)\n");
        String[] wrong = {"(cond 1)", "(cond ())", "(cond nil)", "(cond (1))", "(cond (1 2 3))", "(cond (1 2) . 3)", "(cond (1 . 2))"};
        for (String text : wrong) {
            check.says(text, "!1\n");
        }
    }

    private static void ands() {
        check.sentence("(and A ..): A is taken off, and if it was nil, nil is the value; otherwise on with the rest; the last one "
            + "is the value; without any t.");
        check.says("(and)", "t\n");
        check.says("(and nil) (and 1) (and 1 2 3) (and 1 nil)", "nil\n1\n3\nnil\n");
        check.says("(and nil (error 1)) (and 1 nil (error 1))", "nil\nnil\n");
        check.says("(and 1 (error 1))", "!8\n");
        check.says("(list 8 (and) 9 (and nil 1))", "(8 t 9 nil)\n");
        check.says("(and . 1)", "!1\n");
    }

    private static void ors() {
        check.sentence("(or A ..): A is the value if it is not nil; otherwise it is taken off and on with the rest; the last one is "
            + "the value; without any nil.");
        check.says("(or)", "nil\n");
        check.says("(or nil) (or 1) (or nil nil) (or nil 2 3) (or 0 1)", "nil\n1\nnil\n2\n0\n");
        check.says("(or 1 (error 1)) (or nil 2 (error 1))", "1\n2\n");
        check.says("(or nil (error 1))", "!8\n");
        check.says("(list 8 (or) 9 (or nil 1))", "(8 nil 9 1)\n");
        check.says("(or 1 . 2)", "!1\n");
    }

    private static void lists() {
        check.sentence("then as often as there are A the two topmost are replaced by a pair of them.");
        ListSpeaker desk = new ListSpeaker(4);
        check.says(desk, "(list)", "nil\n");
        check.counts("a list without any", desk, 4, 0);
        check.says(desk, "(list nil) (list 1 2)", "(nil)\n(1 2)\n");
        check.counts("one and two", desk, 4, 3);
        check.says("(list 1 . 2)", "!1\n");
    }

    private static void howManyA() {
        check.sentence("With as many A as they have");
        String[] one = {"car", "cdr", "consp", "natp", "symbolp", "error"};
        for (String name : one) {
            check.says("(" + name + ")", "!4\n");
            check.says("(" + name + " 1 2)", "!4\n");
            check.says("(" + name + " 1 . 2)", "!1\n");
        }
        String[] two = {"cons", "equal", "+", "-", "<"};
        for (String name : two) {
            check.says("(" + name + ")", "!4\n");
            check.says("(" + name + " 1)", "!4\n");
            check.says("(" + name + " 1 2 3)", "!4\n");
            check.says("(" + name + " 1 . 2)", "!1\n");
        }
        check.says("(if nil (car) 1)", "!4\n");
        check.says("(defun f () (cons 1))", "!4\n");
    }

    private static void carAndCdrOfOthers() {
        check.sentence("car, cdr 1: that of a pair, else nil");
        check.says("(car '(1 . 2)) (cdr '(1 . 2)) (car (cons 3 4)) (cdr (list 5))", "1\n2\n3\nnil\n");
        check.says("(car nil) (cdr nil) (car 0) (cdr 268435455) (car 'a) (cdr t)", "nil\nnil\nnil\nnil\nnil\nnil\n");
    }

    private static void kinds() {
        check.sentence("consp, natp, symbolp 1: t or nil");
        check.says("(list (consp '(1)) (consp (cons 1 2)) (consp nil) (consp 0) (consp 'a))", "(t t nil nil nil)\n");
        check.says("(list (natp 0) (natp 268435455) (natp nil) (natp 'a) (natp '(1)))", "(t t nil nil nil)\n");
        check.says("(list (symbolp 'a) (symbolp nil) (symbolp t) (symbolp 0) (symbolp '(a)))", "(t t t nil nil)\n");
    }

    private static void equality() {
        check.sentence("equal 2: t if they are the same number or symbol or pairs with equal CAR and CDR");
        check.says("(equal 0 0) (equal 0 1) (equal 268435455 268435455) (equal 268435455 268435454)", "t\nnil\nt\nnil\n");
        check.says("(equal 'a 'a) (equal 'a 'b) (equal nil ()) (equal nil t) (equal 0 nil)", "t\nnil\nt\nnil\nnil\n");
        check.says("(equal '(1 (2 . a)) (list 1 (cons 2 'a))) (equal '(1 . 2) '(1 2))", "t\nnil\n");
        check.says("(equal '((1 . 2) 3 4) '((1 . 5) 6 7)) (equal 1 1) (equal '(1) '(1)) (equal '((1) 2) '((1) 2))", "nil\nt\nt\nt\n");
        check.says("(equal '((1)) '((2))) (equal '(1) '(1)) (equal '((1)) '((1)))", "nil\nt\nt\n");
        check.says("(list 7 (equal 1 1) 8 (equal '(1) '(2)) 9 (equal '(1) '(1)))", "(7 t 8 nil 9 t)\n");
        check.says("(equal '(1 2) '(1 3)) (equal '(1) 1) (equal nil '(nil)) (equal '(1 2) '(1 2 3))", "nil\nnil\nnil\nnil\n");
    }

    private static void stepsOfEquality() {
        check.sentence("(the CARs first, up to the first difference; each time two pairs are compared takes a step)");
        stepsAre("(equal 1 1)", 0);
        stepsAre("(equal '(1) 1)", 0);
        stepsAre("(equal nil '(1))", 0);
        stepsAre("(equal '(1) '(1))", 1);
        stepsAre("(equal '(1 2 3) '(1 2 3))", 3);
        stepsAre("(equal '(1 2 3) '(2 2 3))", 1);
        stepsAre("(equal '((1 2) 3) '((1 4) 3))", 3);
        stepsAre("(equal '((1 2) 3) '((1 2) 4))", 4);
        stepsAre("(equal '((1 2) . 3) '((1 2) . 4))", 3);
        stepsAre("(equal '(1 (2)) '((2) 1))", 1);
        stepsAre("(equal '((1) (2)) '((3) (4)))", 2);
        check.says(new ListSpeaker(4), "(equal '((1) . 2) '((2) . 2))", 5, "nil\n");
        check.says(new ListSpeaker(4), "(equal '((1) . 2) '((2) . 2))", 4, "!5\n");
        ListSpeaker desk = new ListSpeaker(20);
        String shared = "(let ((x (cons 1 1))) (let ((y (cons x x))) (equal (cons y y) (cons y y))))";
        check.says(desk, shared, 22, "t\n");
        check.counts("shared pairs are compared each time", desk, 6, 1 + 3 + 1 + 3 + 7 + 7);
        check.says(desk, shared, 21, "!5\n");
        check.counts("all fuel is spent", desk, 6, 21);
        ListSpeaker deep = new ListSpeaker(200);
        check.says(deep, "(defun f (n x) (if (< n 1) x (f (- n 1) (cons x x)))) (let ((x (f 190 1))) (equal x x))", "f\n!5\n");
        check.counts("all fuel is spent", deep, 6, 20000);
    }

    /** 3 steps for the form and the two in it, then those of the comparison. */
    private static void stepsAre(String text, int want) {
        ListSpeaker desk = new ListSpeaker(4);
        check.ends(desk, text, 0);
        check.counts(text, desk, 6, 3 + want);
    }

    private static void sums() {
        check.sentence("(what is no number counts as 0; at least 0; OVERFLOW above 268435455)");
        check.says("(+ 0 0) (+ 0 1) (+ 1 0)", "0\n1\n1\n");
        check.says("(+ 268435455 0) (+ 0 268435455) (+ 268435454 1) (+ 134217728 134217727)",
            "268435455\n268435455\n268435455\n268435455\n");
        String[] over = {
            "(+ 268435455 1)", "(+ 1 268435455)", "(+ 134217728 134217728)", "(+ 268435455 268435455)", "(+ 2 (+ 268435454 0))",
        };
        for (String text : over) {
            check.says(text, "!7\n");
        }
        check.says("(+ nil t) (+ 'a 2) (+ 2 '(9)) (+ 268435455 'a) (+ (cons 1 2) 268435455)", "0\n2\n2\n268435455\n268435455\n");
    }

    private static void differences() {
        check.says("(- 0 0) (- 1 0) (- 0 1) (- 5 4) (- 5 5) (- 5 6)", "0\n1\n0\n1\n0\n0\n");
        check.says("(- 268435455 0) (- 0 268435455) (- 268435455 268435455) (- 268435455 1) (- 268435454 268435455)",
            "268435455\n0\n0\n268435454\n0\n");
        check.says("(- 7 'a) (- 'a 7) (- nil nil) (- '(9) 1) (- 268435455 '(1))", "7\n0\n0\n0\n268435455\n");
    }

    private static void comparisons() {
        check.sentence("< 2: t or nil (as numbers, likewise)");
        check.says("(< 0 0) (< 0 1) (< 1 0) (< 1 1) (< 1 2)", "nil\nt\nnil\nnil\nt\n");
        check.says("(< 268435454 268435455) (< 268435455 268435455) (< 268435455 0) (< 0 268435455)", "t\nnil\nnil\nt\n");
        check.says("(< 'a 0) (< 0 'a) (< 'a 1) (< 1 'a) (< nil t) (< '(5) 1) (< 1 '(5))", "nil\nnil\nt\nnil\nnil\nt\nnil\n");
    }

    private static void errors() {
        check.sentence("error 1: ERROR.");
        check.says("(error 0)", "!8\n");
        check.says("(error nil)", "!8\n");
        check.says("1 (list 1 (error '(1 2)) 2) 3", "1\n!8\n");
        check.says("(error (+ 268435455 1))", "!7\n");
        check.says("(if 1 2 (error 3))", "2\n");
    }

    private static void shapes() {
        check.sentence("SYNTAX if it is not as said");
        String[] wrong = {
            "(f (g (1)))", "(and nil (1))", "(or 1 (if))", "(car (quote))", "(cond (nil (let)))", "(list (cond (1)))",
            "(let ((a (1))) 2)", "(let ((a 1)) (1))", "(cons 1 (cons 2 (if 3)))",
        };
        for (String text : wrong) {
            check.says(text, "!1\n");
        }
        check.sentence("defun inside a form");
        String[] inside = {
            "(car (defun f () 1))", "(if nil (defun f () 1) 2)", "(list (defun))", "(let () (defun f () 1))", "(and (defun f () 1))",
            "(defun f () (defun g () 1))", "(g (defun f () 1))",
        };
        for (String text : inside) {
            ListSpeaker desk = new ListSpeaker(4);
            check.says(desk, text, "!1\n");
            check.counts(text, desk, 1, 0);
        }
        check.says("'(defun f () 1)", "(defun f nil 1)\n");
    }

    private static void forbiddenVariables() {
        check.sentence("(quote, defun, nil or t as variables of a let or parameters too");
        String[] forbidden = {"quote", "defun", "nil", "t", "()"};
        for (String name : forbidden) {
            check.says("(let ((" + name + " 1)) 2)", "!1\n");
            check.says("(let ((a 1) (" + name + " 1)) 2)", "!1\n");
            check.says("(defun f (" + name + ") 2)", "!1\n");
            check.says("(defun f (a " + name + ") 2)", "!1\n");
        }
        String[] allowed = {
            "if", "let", "cond", "and", "or", "list", "cons", "car", "cdr", "consp", "natp", "symbolp", "equal", "+", "-", "<", "error",
        };
        for (String name : allowed) {
            check.says("(let ((" + name + " 1)) " + name + ")", "1\n");
            check.says("(defun f (" + name + ") " + name + ") (f 2)", "f\n2\n");
        }
    }

    private static void letsWithoutVariables() {
        check.sentence("a let without any variable is allowed)");
        check.says("(let () 7) (let nil 8)", "7\n8\n");
        check.says("(let ((a 1)) (let () a)) (list 1 (let () 2) 3)", "1\n(1 2 3)\n");
    }

    private static void whatIsSeenFirst() {
        check.sentence("(In this order for each list: its shape, or how many A, then what is in it.)");
        check.says("(if x y)", "!1\n");
        check.says("(car x y)", "!4\n");
        check.says("(cons (if))", "!4\n");
        check.says("(f x 1 . 2)", "!1\n");
        check.says("(let ((a x) (b)) 2)", "!1\n");
        check.says("(let ((a x) (a 1)) 2)", "!1\n");
        check.says("(cond (x 1) (2))", "!1\n");
        check.says("(defun f (x x) y)", "!1\n");
        check.sentence("from left to right and with what is in it");
        check.says("(list x (car))", "!2\n");
        check.says("(list (car) x)", "!4\n");
        check.says("(list x (1))", "!2\n");
        check.says("(list (1) x)", "!1\n");
        check.says("(let ((a x)) (car))", "!2\n");
        check.says("(let ((a (car))) x)", "!4\n");
        check.says("(if (if 1 2) x (car))", "!1\n");
        check.says("(cond (1 (car)) (x 2))", "!4\n");
        check.says("(cond (1 x) ((car) 2))", "!2\n");
        check.says("(and (f (g x)) (car))", "!2\n");
    }
}
