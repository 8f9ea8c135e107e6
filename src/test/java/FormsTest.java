/** Promise 4: what each form does when it is carried out. */
public final class FormsTest {
    private static final Check check = new Check();

    public static void main(String[] args) {
        ownValues();
        choices();
        lets();
        listsAndPairs();
        kinds();
        equality();
        numbers();
        calls();
        definitions();
        check.end();
    }

    private static void ownValues() {
        check.says("5 nil t () 'x '(x . y) (quote x)", "5\nnil\nt\nnil\nx\n(x . y)\nx\n");
    }

    private static void choices() {
        check.says("(if t 1 2) (if nil 1 2) (if 0 1 2) (if () 1 2)", "1\n2\n1\n2\n");
        check.says("(if t 1 (error 1))(if nil (error 1) 2)", "1\n2\n");
        check.says("(cond) (cond (nil 1)) (cond (nil 1) (2 3) (4 (error 1)))", "nil\nnil\n3\n");
        check.says("(and) (and 1) (and nil) (and 1 2 3) (and 1 nil (error 1))", "t\n1\nnil\n3\nnil\n");
        check.says("(or) (or 1) (or nil) (or nil nil 3) (or nil 2 (error 1))", "nil\n1\nnil\n3\n2\n");
        check.says("(list (and nil 1) (or nil 2) (cond (nil 1)) 4)", "(nil 2 nil 4)\n");
    }

    private static void lets() {
        check.says("(let ((a 1) (b 2)) (list a b))", "(1 2)\n");
        check.says("(let () 7) (let nil 8)", "7\n8\n");
        check.says("(let ((a 1)) (let ((a 2) (b a)) (list a b)))", "(2 1)\n");
        check.says("(let ((a 1)) (list (let ((a 2)) a) a))", "(2 1)\n");
        check.says("(list 9 (let ((a 1) (b 2)) (cons b (let ((c 3)) (list a b c)))) 8)", "(9 (2 1 2 3) 8)\n");
        check.says("(let ((if 1) (car 2) (list 3) (let 4)) (list if car list let))", "(1 2 3 4)\n");
        check.says("(let ((a 1)) 2) a", "2\n!2\n");
    }

    private static void listsAndPairs() {
        check.says("(list) (list 1) (list 1 2 3)", "nil\n(1)\n(1 2 3)\n");
        check.says("(cons 1 2) (cons 1 nil) (cons 1 '(2 3)) (cons '(1) 2)", "(1 . 2)\n(1)\n(1 2 3)\n((1) . 2)\n");
        check.says("(car '(1 . 2)) (cdr '(1 . 2)) (car (cons 3 4)) (cdr (cons 3 4))", "1\n2\n3\n4\n");
        check.says("(car nil) (cdr nil) (car 5) (cdr 'a)", "nil\nnil\nnil\nnil\n");
    }

    private static void kinds() {
        check.says("(list (consp '(1)) (consp (cons 1 2)) (consp nil) (consp 1) (consp 'a))", "(t t nil nil nil)\n");
        check.says("(list (natp 0) (natp 268435455) (natp nil) (natp 'a) (natp '(1)))", "(t t nil nil nil)\n");
        check.says("(list (symbolp 'a) (symbolp nil) (symbolp t) (symbolp 1) (symbolp '(a)))", "(t t t nil nil)\n");
    }

    private static void equality() {
        check.says("(equal 1 1) (equal 1 2) (equal 'a 'a) (equal 'a 'b) (equal nil ())", "t\nnil\nt\nnil\nt\n");
        check.says("(equal '(1 (2 . a)) (list 1 (cons 2 'a)))", "t\n");
        check.says("(equal '(1 2) '(1 3)) (equal '(1) 1) (equal nil '(nil)) (equal '(1 2) '(1 2 3))",
            "nil\nnil\nnil\nnil\n");
    }

    private static void numbers() {
        check.says("(+ 1 2) (+ 268435455 0) (+ 268435454 1) (- 5 3) (- 3 5) (- 3 3)", "3\n268435455\n268435455\n2\n0\n0\n");
        check.says("(+ 'a 2) (+ nil t) (+ 2 '(9)) (- 7 'a) (- 'a 7)", "2\n0\n2\n7\n0\n");
        check.says("(< 1 2) (< 2 1) (< 2 2) (< 'a 1) (< nil nil) (< '(1) 1)", "t\nnil\nnil\nt\nnil\nt\n");
        check.says("(+ 268435455 1)", "!7\n");
        check.says("(+ 268435455 268435455)", "!7\n");
    }

    private static void calls() {
        check.says("(defun f (x y) (list y x)) (f 1 2)", "f\n(2 1)\n");
        check.says("(defun f () 5) (+ (f) (f))", "f\n10\n");
        check.says("(defun f (a b c d e) (list e d c b a)) (f 1 2 3 4 5)", "f\n(5 4 3 2 1)\n");
        check.says("(defun f (n) (if (< 0 n) (g (- n 1)) 'f)) (defun g (n) (if (< 0 n) (f (- n 1)) 'g)) (f 4) (f 5)",
            "f\ng\nf\ng\n");
        check.says("(defun f (n) (if (< n 2) n (+ (f (- n 1)) (f (- n 2))))) (f 10)", "f\n55\n");
        check.says("(defun ap (x y) (if (consp x) (cons (car x) (ap (cdr x) y)) y)) (ap '(1 2) '(3))", "ap\n(1 2 3)\n");
        check.says("(defun f (a b c) (g)) (defun g () (cons 1 (h 5))) (defun h (x) x) (list 0 (f 1 2 3) 9)",
            "f\ng\nh\n(0 (1 . 5) 9)\n");
        check.says("(defun f (f) (if f (f nil) 'end)) (f 1)", "f\nend\n");
        check.says("(defun f (x) (g 1 x)) (defun g (x y) (h)) (defun h () 3) (list 0 (f 2) 4)", "f\ng\nh\n(0 3 4)\n");
        check.says("(defun f (x) (let ((y (+ x 1))) (cond ((< 9 y) (g y 'a)) (t (f y))))) (defun g (a b) (and a (or nil "
            + "(h b a 7)))) (defun h (c d e) (list c d e)) (list 1 (f 2) 3)", "f\ng\nh\n(1 (a 10 7) 3)\n");
    }

    private static void definitions() {
        ListSpeaker desk = new ListSpeaker(20);
        check.says(desk, "(defun f (x) (g x))", "f\n");
        check.says(desk, "(f 1)", "!3\n");
        check.says(desk, "(defun g (x) (+ x 1))", "g\n");
        check.says(desk, "(f 1)", "2\n");
        check.says(desk, "(defun g (x) (+ x 1)) (defun g (x) (+ x 1))", "g\ng\n");
        check.counts("two functions", desk, 1, 2);
        check.says(desk, "(defun h (x) '(1 . x)) (defun h (x) (quote (1 . x))) (h 2)", "h\nh\n(1 . x)\n");
        check.says(desk, "(h 2) (defun + (x) x)", "(1 . x)\n!1\n");
        check.says(desk, "(defun * (x) x) (* 4) (defun = (x) 5) (= 1)", "*\n4\n=\n5\n");
        check.says(desk, "(defun k (if car) (list if car)) (k 1 2)", "k\n(1 2)\n");
    }
}
