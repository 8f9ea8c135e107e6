/** Promise 4: ordinary programs. */
public final class FormsTest {
    private static final Check check = new Check();

    public static void main(String[] args) {
        lists();
        numbers();
        variables();
        severalRuns();
        check.end();
    }

    private static void lists() {
        check.says("(defun two (x) (list x x)) (two 'a)", "two\n(a a)\n");
        check.says("(defun app (x y) (if (consp x) (cons (car x) (app (cdr x) y)) y)) (app '(1 2) '(3))", "app\n(1 2 3)\n");
        check.says("(defun rev (x y) (if (consp x) (rev (cdr x) (cons (car x) y)) y)) (rev '(1 a (b . 2)) nil)",
            "rev\n((b . 2) a 1)\n");
        check.says("(defun has (a x) (and (consp x) (or (equal a (car x)) (has a (cdr x))))) (has '(2) '(1 (2))) (has 2 '(1 (2)))",
            "has\nt\nnil\n");
        check.says("(defun flip (x) (cond ((consp x) (cons (flip (cdr x)) (flip (car x)))) (t x))) (flip '((1 . 2) 3 . 4))",
            "flip\n((4 . 3) 2 . 1)\n");
        check.says("(list 1 'a (list) (list nil) (cons 1 (list 2 3)))", "(1 a nil (nil) (1 2 3))\n");
    }

    private static void numbers() {
        check.says("(defun fib (n) (if (< n 2) n (+ (fib (- n 1)) (fib (- n 2))))) (fib 10)", "fib\n55\n");
        check.says("(defun * (a b) (if (< a 1) 0 (+ b (* (- a 1) b)))) (* 6 7)", "*\n42\n");
        check.says("(defun even (n) (or (< n 1) (odd (- n 1)))) (defun odd (n) (and (< 0 n) (even (- n 1)))) (even 8) (even 9)",
            "even\nodd\nt\nnil\n");
    }

    private static void variables() {
        check.says("(let ((a 1) (b 2)) (list a b))", "(1 2)\n");
        check.says("(list 9 (let ((a 1) (b 2)) (cons b (let ((c 3)) (list a b c)))) 8)", "(9 (2 1 2 3) 8)\n");
        check.says("(defun f (x) (let ((y (+ x 1))) (cond ((< 9 y) (g y 'a)) (t (f y))))) (defun g (a b) (and a (or nil "
            + "(h b a 7)))) (defun h (c d e) (list c d e)) (list 1 (f 2) 3)", "f\ng\nh\n(1 (a 10 7) 3)\n");
    }

    private static void severalRuns() {
        ListSpeaker desk = new ListSpeaker(20);
        check.says(desk, "(defun f (x) (g x))", "f\n");
        check.says(desk, "(f 1)", "!3\n");
        check.says(desk, "(defun g (x) (+ x 1))", "g\n");
        check.says(desk, "(f 1)", "2\n");
        check.says(desk, "(g (f 1)) 'h (g", "3\nh\n!1\n");
        check.says(desk, "(g (g (f 1)))", "4\n");
    }
}
