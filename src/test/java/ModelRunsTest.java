import java.util.Random;

/** Long runs of calls, the same on the class and on the model, told apart by a fixed seed each. */
public final class ModelRunsTest {
    private static final int[] EDGES = {Integer.MIN_VALUE, -1, 0, 1, 2, 3, 9, 10, 13, 30, 31, 127, Integer.MAX_VALUE};
    private static final String LETTERS = "socma0123456789,;";
    private final Due due = new Due("ModelRunsTest");
    private Random random;
    private BarnSummers x;
    private Model m;
    private int run;

    public static void main(String[] args) {
        ModelRunsTest test = new ModelRunsTest();
        for (int run = 0; run < 400; run++) {
            test.oneRun(run);
        }
        test.due.end();
    }

    private void oneRun(int seed) {
        run = seed;
        random = new Random(seed);
        x = new BarnSummers();
        m = new Model();
        int calls = 0;
        while (calls < 470) {
            if (random.nextInt(40) == 0 || calls == 4) {
                calls += write(random.nextInt(6) == 0 ? garbled(barnText()) : barnText());
            }
            call();
            calls++;
        }
    }

    private String barnText() {
        StringBuilder s = new StringBuilder();
        int bays = 2 + random.nextInt(2);
        boolean dry = random.nextBoolean();
        for (int b = 0; b < bays; b++) {
            int high = 1 + random.nextInt(3);
            for (int c = 0; c < high; c++) {
                s.append(c == 0 ? b == 0 ? "" : ";" : ",");
                s.append("socma".charAt(random.nextInt(5))).append(1 + random.nextInt(9));
                s.append(random.nextInt(dry ? 4 : 10));
            }
        }
        return s.toString();
    }

    private String garbled(String text) {
        StringBuilder s = new StringBuilder(text);
        int place = random.nextInt(s.length());
        char letter = LETTERS.charAt(random.nextInt(LETTERS.length()));
        switch (random.nextInt(3)) {
            case 0: s.setCharAt(place, letter); break;
            case 1: s.insert(place, letter); break;
            default: s.setLength(place); break;
        }
        return s.toString();
    }

    private int write(String text) {
        due("blank()", x.blank(), m.blank());
        for (int i = 0; i < text.length(); i++) {
            due("letter(" + text.charAt(i) + ")", x.letter(text.charAt(i)), m.letter(text.charAt(i)));
        }
        due("fault() of " + text, x.fault(), m.fault());
        due("barn() of " + text, x.barn(), m.barn());
        return text.length() + 3;
    }

    private int number(int from, int to) {
        return random.nextInt(12) == 0 ? EDGES[random.nextInt(EDGES.length)] : from + random.nextInt(to - from + 1);
    }

    private void call() {
        int a;
        int b;
        int c;
        switch (random.nextInt(29)) {
            case 0: a = number(40, 126); due("letter(" + a + ")", x.letter(a), m.letter(a)); break;
            case 1: due("fault()", x.fault(), m.fault()); break;
            case 2: due("barn()", x.barn(), m.barn()); break;
            case 3: case 4: case 5: case 6:
                a = number(-1, 9); b = number(-1, 13); due("cart(" + a + ", " + b + ")", x.cart(a, b), m.cart(a, b)); break;
            case 7: a = number(0, 8); b = number(-1, 5); due("as(" + a + ", " + b + ")", x.as(a, b), m.as(a, b)); break;
            case 8: case 9:
                a = number(-1, 3); b = number(-1, 13); due("bay(" + a + ", " + b + ")", x.bay(a, b), m.bay(a, b)); break;
            case 10: case 11: case 12:
                a = number(0, 2); b = number(1, 3); due("cut(" + a + ", " + b + ")", x.cut(a, b), m.cut(a, b)); break;
            case 13: case 14: due("day()", x.day(), m.day()); break;
            case 15: case 16: a = number(0, 2); due("turn(" + a + ")", x.turn(a), m.turn(a)); break;
            case 17: a = number(0, 8); b = number(0, 9); due("rain(" + a + ", " + b + ")", x.rain(a, b), m.rain(a, b)); break;
            case 18: a = number(1, 6); due("lasts(" + a + ")", x.lasts(a), m.lasts(a)); break;
            case 19: a = number(1, 4); b = number(9, 14); b = random.nextInt(3) == 0 ? 0 : b;
                due("plan(" + a + ", " + b + ")", x.plan(a, b), m.plan(a, b)); break;
            case 20: a = random.nextInt(4) == 0 ? number(2, 3) : 0; due("share(" + a + ")", x.share(a), m.share(a)); break;
            case 21: a = number(0, 20); due("burnt(" + a + ")", x.burnt(a), m.burnt(a)); break;
            case 22: case 23: seeSomething(); break;
            case 24: due("forget()", x.forget(), m.forget()); break;
            case 25: a = number(1, 60); b = random.nextInt(4) == 0 ? number(0, 99) : random.nextInt() & Integer.MAX_VALUE;
                c = number(0, 2); due("winters(" + a + ", " + b + ", " + c + ")", x.winters(a, b, c), m.winters(a, b, c)); break;
            case 26: due("image()", x.image(), m.image()); break;
            case 27: due("restore()", x.restore(), m.restore()); break;
            default: a = number(0, 12); due("count(" + a + ")", x.count(a), m.count(a)); break;
        }
        if (random.nextInt(25) == 0) {
            due("digest()", x.digest(), m.digest());
        }
    }

    /** Mostly what could be true, so that WETS are left. */
    private void seeSomething() {
        int cart = number(0, 8);
        int day = number(1, 9);
        int warm = random.nextInt(5) == 0 ? number(0, 30) : Math.min(30, m.cart(cart, 3) + day * random.nextInt(6));
        due("see(" + cart + ", " + day + ", " + warm + ")", x.see(cart, day, warm), m.see(cart, day, warm));
        due("cart(" + cart + ", 7)", x.cart(cart, 7), m.cart(cart, 7));
        due("cart(" + cart + ", 8)", x.cart(cart, 8), m.cart(cart, 8));
    }

    private void due(String call, long got, long want) {
        due.is("run " + run + ": " + call, got, want);
    }
}
