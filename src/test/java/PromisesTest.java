/** Each promise by answers that were worked out by hand: ordinary ones, the edges, and what is refused. */
public final class PromisesTest {
    private static final int NONE = -1, UNKNOWN = -101, OUTSIDE = -102, STATE = -103, FULL = -104;
    private static final int LOW = Integer.MIN_VALUE, HIGH = Integer.MAX_VALUE;
    /** Carts: 0 clover, 1 old, 2 ancient in bay 0; 3 melancholy in bay 1. */
    private static final String HOT = "c39,o29,a19;m35";
    private static final String WHOLE = "s52,c91,m33;o74,a60,s28;s95,m42,c61";
    private static final Due DUE = new Due("PromisesTest");

    public static void main(String[] args) {
        newObject();
        letter();
        blank();
        fault();
        barn();
        cart();
        cartThatIsGone();
        wets();
        wetsAsTheBarnGoesOn();
        feel();
        as();
        bay();
        safe();
        cut();
        cutMelancholy();
        day();
        turn();
        rain();
        lasts();
        plan();
        share();
        burnt();
        see();
        forget();
        winters();
        image();
        restore();
        count();
        digest();
        DUE.end();
    }

    private static void newObject() {
        BarnSummers x = new BarnSummers();
        for (int what = 0; what <= 12; what++) {
            DUE.is("1: count(" + what + ")", x.count(what), 0);
        }
        DUE.is("1: fault()", x.fault(), 0);
        DUE.is("1: barn()", x.barn(), STATE);
        DUE.is("1: cart(0, 0)", x.cart(0, 0), UNKNOWN);
        DUE.is("1: as(0, 0)", x.as(0, 0), UNKNOWN);
        DUE.is("1: bay(0, 0)", x.bay(0, 0), UNKNOWN);
        DUE.is("1: cut(0, 1)", x.cut(0, 1), UNKNOWN);
        DUE.is("1: turn(0)", x.turn(0), UNKNOWN);
        DUE.is("1: rain(0, 1)", x.rain(0, 1), UNKNOWN);
        DUE.is("1: see(0, 1, 1)", x.see(0, 1, 1), UNKNOWN);
        DUE.is("1: day()", x.day(), STATE);
        DUE.is("1: lasts(1)", x.lasts(1), STATE);
        DUE.is("1: lasts(0)", x.lasts(0), OUTSIDE);
        DUE.is("1: plan(1, 0)", x.plan(1, 0), STATE);
        DUE.is("1: plan(1, 1)", x.plan(1, 1), OUTSIDE);
        DUE.is("1: share(2)", x.share(2), STATE);
        DUE.is("1: share(1)", x.share(1), OUTSIDE);
        DUE.is("1: burnt(0)", x.burnt(0), STATE);
        DUE.is("1: burnt(-1)", x.burnt(-1), OUTSIDE);
        DUE.is("1: winters(1, 0, 0)", x.winters(1, 0, 0), STATE);
        DUE.is("1: winters(1, 0, 3)", x.winters(1, 0, 3), OUTSIDE);
        DUE.is("1: forget()", x.forget(), 0);
        DUE.is("1: image()", x.image(), STATE);
        DUE.is("1: restore()", x.restore(), STATE);
        DUE.is("1: count(12)", x.count(12), 0);
        long h = 1201;
        for (int k = 0; k < 13; k++) {
            h *= 31;
        }
        DUE.is("1: digest()", x.digest(), h);
    }

    private static void letter() {
        BarnSummers x = new BarnSummers();
        DUE.is("2: letter(0)", x.letter(0), OUTSIDE);
        DUE.is("2: letter(127)", x.letter(127), OUTSIDE);
        DUE.is("2: letter(LOW)", x.letter(LOW), OUTSIDE);
        DUE.is("2: letter(HIGH)", x.letter(HIGH), OUTSIDE);
        DUE.is("2: letter(1)", x.letter(1), 1);
        DUE.is("2: letter(126)", x.letter(126), 2);
        for (int many = 3; many <= 38; many++) {
            DUE.is("2: letter, the " + many, x.letter('s'), many);
        }
        DUE.is("2: letter, the 39th", x.letter('s'), FULL);
        DUE.is("2: letter(0) of a full page", x.letter(0), OUTSIDE);
        DUE.is("2: count(10)", x.count(10), 38);
    }

    private static void blank() {
        BarnSummers x = new BarnSummers();
        DUE.is("3: blank()", x.blank(), 0);
        Barns.write(x, "s1x");
        DUE.is("3: blank()", x.blank(), 3);
        DUE.is("3: count(10)", x.count(10), 0);
        DUE.is("3: blank()", x.blank(), 0);
        Barns.write(x, "s10;s10");
        DUE.is("3: barn() behind blank()", x.barn(), 2);
        DUE.is("3: blank() leaves the barn", x.blank() + x.count(1), 2);
    }

    private static void fault() {
        String[] texts = {"", "s", "x", "S", "s0", "s:", "s/", "s1", "s1/", "s1:", "s1x", "s10", "s10x", "s10 ", "s10,",
            "s10;", "s10,;", "s10;,", "s10;x", "o10", "c10", "m10", "a99", "s10,s10,s10", "s10,s10,s10,", "s10,s10,s10;",
            "s10,s10,s10;s10,s10", "s10;s10;s10;", "s10;s10;s10,s10,s10,", "s10;s10;s10,", WHOLE, WHOLE + ",", WHOLE + ";",
            WHOLE + "s10", "s10xs10x"};
        int[] places = {0, 1, 0, 0, 1, 1, 1, 2, 2, 2, 2, 3, 3, 3, 4,
            4, 4, 4, 4, 3, 3, 3, 3, 11, 11, 12,
            19, 11, 19, 12, 35, 35, 35,
            35, 3};
        for (int k = 0; k < texts.length; k++) {
            DUE.is("4: fault() of " + texts[k], Barns.faultOf(texts[k]), places[k]);
        }
        BarnSummers x = Barns.of("s10;s10");
        DUE.is("4: fault() behind barn()", x.fault(), 0);
        Barns.write(x, "sx");
        DUE.is("4: fault() with a barn", x.fault(), 1);
        DUE.is("4: fault() changes nothing", x.count(10), 2);
    }

    private static void barn() {
        String[] none = {"", "s10", "s10,s10", "s10;", "s10;s", "s10;s1", "s10;s10,", "s10;s10;", "s10;s00", "x10;s10",
            "s10,s10,s10,s10;s10", "s10;s10;s10;s10", WHOLE + ",", "s10;s10 "};
        for (String text : none) {
            BarnSummers x = new BarnSummers();
            Barns.write(x, text);
            DUE.is("5: barn() of " + text, x.barn(), STATE);
            DUE.is("5: page kept of " + text, x.count(10), text.length());
            DUE.is("5: none read of " + text, x.count(11), 0);
        }
        BarnSummers x = new BarnSummers();
        DUE.is("5: barn() of two", Barns.read(x, "s10;s10"), 2);
        DUE.is("5: page empty then", x.count(10), 0);
        DUE.is("5: barn() of all", Barns.read(x, WHOLE), 9);
        DUE.is("5: count(11)", x.count(11), 2);
        x.cut(1, 3);
        x.day();
        x.see(0, 1, 1);
        x.image();
        x.share(2);
        x.letter('s');
        DUE.is("5: barn() refused", x.barn(), STATE);
        DUE.is("5: refused, the barn stays", x.count(6), 1);
        DUE.is("5: refused, the image stays", x.restore(), 1);
        DUE.is("5: barn() of another", Barns.read(x, "o31;m20;c44,a99"), 4);
        int[] counts = {3, 4, 4, 18, 14, 0, 0, 0, 0, 0, 0, 3, 1};
        for (int what = 0; what <= 12; what++) {
            DUE.is("5: count(" + what + ") of another", x.count(what), counts[what]);
        }
        DUE.is("5: restore() of another", x.restore(), STATE);
        Barns.read(x, HOT);
        x.day();
        x.day();
        Barns.read(x, HOT);
        DUE.is("5: burnt of another", x.count(8) + x.count(5) + x.count(6), 0);
        DUE.is("5: bays of another", x.count(0), 2);
    }

    private static void cart() {
        BarnSummers x = Barns.of(HOT);
        int[][] told = {
            {2, 3, 9, 0, 0, 2, 22, 1023, 1, OUTSIDE, 2, 3, 4, OUTSIDE},
            {1, 2, 9, 0, 0, 1, 5, 1023, 1, OUTSIDE, 2, 4, 4, OUTSIDE},
            {4, 1, 9, 0, 0, 0, 2, 1023, 1, OUTSIDE, 3, 3, 3, OUTSIDE},
            {3, 3, 5, 0, 1, 0, 0, 1023, 1, OUTSIDE, 0, 0, 0, OUTSIDE}};
        for (int cart = 0; cart < told.length; cart++) {
            for (int what = 0; what < told[cart].length; what++) {
                DUE.is("6: cart(" + cart + ", " + what + ")", x.cart(cart, what), told[cart][what]);
            }
        }
        DUE.is("6: cart(0, -1)", x.cart(0, -1), OUTSIDE);
        DUE.is("6: cart(0, HIGH)", x.cart(0, HIGH), OUTSIDE);
        DUE.is("6: cart(4, 0)", x.cart(4, 0), UNKNOWN);
        DUE.is("6: cart(4, 99)", x.cart(4, 99), UNKNOWN);
        DUE.is("6: cart(-1, 0)", x.cart(-1, 0), UNKNOWN);
        DUE.is("6: cart(LOW, 0)", x.cart(LOW, 0), UNKNOWN);
        DUE.is("6: a dry one above does not count", Barns.of("s12,s10,s91;s10").cart(0, 6), 3);
        DUE.is("6: an ancient one halves twice", Barns.of("a16,s11;s10").cart(0, 6), 1);
        DUE.is("6: a slice of 3 of a plain one", Barns.of("s90;s10").cart(0, 12), 3);
        DUE.is("6: a slice of 3 of an ancient one", Barns.of("a90;s10").cart(0, 12), 7);
    }

    private static void cartThatIsGone() {
        BarnSummers x = Barns.of(HOT);
        x.day();
        DUE.is("6: warm of the clover", x.cart(0, 3), 22);
        DUE.is("6: warm of the old one", x.cart(1, 3), 5);
        DUE.is("6: warm of the ancient one", x.cart(2, 3), 2);
        x.day();
        int[] told = {2, 0, 0, 0, 0, NONE, 0, NONE, NONE, OUTSIDE, NONE, NONE, NONE};
        for (int what = 0; what < told.length; what++) {
            DUE.is("6: cart(0, " + what + ") burnt", x.cart(0, what), told[what]);
        }
        x = Barns.of("s15,s19;s10");
        x.day();
        x.cut(0, 2);
        told = new int[] {0, 0, 0, 0, 0, NONE, 0, NONE, NONE, OUTSIDE, NONE, NONE, NONE};
        for (int what = 0; what < told.length; what++) {
            DUE.is("6: cart(1, " + what + ") cut", x.cart(1, what), told[what]);
        }
        DUE.is("6: none lies on the lower one then", x.cart(0, 5), 0);
        DUE.is("6: nor warms it", x.cart(0, 6), 5);
    }

    private static void wets() {
        BarnSummers x = Barns.of("s13;s10");
        x.see(1, 1, 9);
        DUE.is("6: wets by what is seen of another", x.cart(0, 7), 1023);
        x.see(0, 1, 4);
        DUE.is("6: wets of a plain one", x.cart(0, 7), 1 << 4);
        x.see(0, 2, 7);
        DUE.is("6: wets by two that agree", x.cart(0, 7), 1 << 4);
        x.see(0, 1, 5);
        DUE.is("6: wets by two that do not", x.cart(0, 7), 0);
        DUE.is("6: feel without any", x.cart(0, 8), NONE);
        x = Barns.of("o13;s10");
        x.see(0, 2, 0);
        DUE.is("6: wets of an old one", x.cart(0, 7), 3);
        DUE.is("6: feel where no day tells", x.cart(0, 8), 1);
        x = Barns.of("s13,s11;s10");
        x.see(0, 2, 7);
        DUE.is("6: wets under one that dries", x.cart(0, 7), 1 << 3);
        x = Barns.of("s13,s15;s10");
        x.see(1, 9, 10);
        DUE.is("6: wets behind nine days", x.cart(1, 7), 1 << 4);
        DUE.is("6: wets of the lower one", x.cart(0, 7), 1023);
    }

    private static void wetsAsTheBarnGoesOn() {
        BarnSummers x = Barns.of("s15;s10");
        x.see(0, 1, 5);
        DUE.is("6: wets now", x.cart(0, 7), 1 << 5);
        x.day();
        DUE.is("6: wets counted from a day on", x.cart(0, 7), 1);
        x.turn(0);
        DUE.is("6: wets once it is turned", x.cart(0, 7), 1 << 5);
        x = Barns.of("c19;s10");
        x.day();
        x.see(0, 1, 30);
        DUE.is("6: 30 and more are told as 30", x.cart(0, 7), 960);
        DUE.is("6: feel where all are told as 30", x.cart(0, 8), 1);
        x.see(0, 9, 30);
        DUE.is("6: nothing burns, ever", x.cart(0, 7), 960);
        DUE.is("6: to be felt is no burning", x.cart(0, 1), 1);
    }

    private static void feel() {
        BarnSummers x = Barns.of("a15;s10");
        DUE.is("6: feel of an ancient one", x.cart(0, 8), 1);
        x.see(0, 1, 1);
        DUE.is("6: wets of an ancient one", x.cart(0, 7), 240);
        DUE.is("6: feel behind the fourth day", x.cart(0, 8), 4);
        x.see(0, 4, 3);
        DUE.is("6: one is left", x.cart(0, 7), 1 << 6);
        DUE.is("6: feel with one left", x.cart(0, 8), 1);
        // the ancient one is felt only once the plain one on it is dry, behind the ninth day
        x = Barns.of("a10,s18;s10");
        x.see(0, 1, 1);
        DUE.is("6: feel behind the ninth day", x.cart(0, 8), 9);
        DUE.is("6: wets of it", x.cart(0, 7), 120);
        DUE.is("6: feel of another, asked at once", x.cart(1, 8), 1);
    }

    private static void as() {
        BarnSummers x = Barns.of("s10,o10,c10;m10,a10");
        int[][] told = {
            {0, NONE, NONE, NONE, NONE},
            {1, 1, NONE, NONE, NONE},
            {2, NONE, 2, NONE, NONE},
            {3, NONE, NONE, 3, NONE},
            {4, 4, NONE, NONE, 4}};
        for (int cart = 0; cart < told.length; cart++) {
            for (int kind = 0; kind < told[cart].length; kind++) {
                DUE.is("7: as(" + cart + ", " + kind + ")", x.as(cart, kind), told[cart][kind]);
            }
        }
        DUE.is("7: as(0, 5)", x.as(0, 5), OUTSIDE);
        DUE.is("7: as(0, -1)", x.as(0, -1), OUTSIDE);
        DUE.is("7: as(5, 9)", x.as(5, 9), UNKNOWN);
        DUE.is("7: as(-1, 0)", x.as(-1, 0), UNKNOWN);
        x.cut(1, 1);
        DUE.is("7: as(4, 1) of one that is gone", x.as(4, 1), 4);
    }

    private static void bay() {
        BarnSummers x = Barns.of(WHOLE);
        int[] told = {3, 5, 15, 0, 0, OUTSIDE, OUTSIDE, OUTSIDE, OUTSIDE, OUTSIDE, 3, 4, 5, OUTSIDE};
        for (int what = 0; what < told.length; what++) {
            if (what != 3 && what != 4) {
                DUE.is("8: bay(1, " + what + ")", x.bay(1, what), told[what]);
            }
        }
        DUE.is("8: bay(1, -1)", x.bay(1, -1), OUTSIDE);
        DUE.is("8: bay(3, 0)", x.bay(3, 0), UNKNOWN);
        DUE.is("8: bay(3, 99)", x.bay(3, 99), UNKNOWN);
        DUE.is("8: bay(-1, 0)", x.bay(-1, 0), UNKNOWN);
        DUE.is("8: bay(2, 0) of two", Barns.of(HOT).bay(2, 0), UNKNOWN);
        x.turn(1);
        x.cut(1, 3);
        told = new int[] {3, 3, 12, 0, 0, 0, 0, 0, 0, 0, 5, 4, 3};
        for (int what : new int[] {0, 1, 2, 10, 11, 12}) {
            DUE.is("8: bay(1, " + what + ") turned", x.bay(1, what), told[what]);
        }
        x.cut(1, 3);
        x.cut(1, 3);
        DUE.is("8: bay(1, 12) cut", x.bay(1, 12), NONE);
        DUE.is("8: bay(1, 1) cut", x.bay(1, 1), 4);
        x.cut(1, 3);
        x.cut(1, 3);
        x.cut(1, 3);
        told = new int[] {0, NONE, 0, 0, 0, OUTSIDE, OUTSIDE, OUTSIDE, OUTSIDE, OUTSIDE, NONE, NONE, NONE};
        for (int what = 0; what < told.length; what++) {
            DUE.is("8: bay(1, " + what + ") empty", x.bay(1, what), told[what]);
        }
    }

    private static void safe() {
        safeIs("s59,s41;s10,s10", 0, 1, 5);
        safeIs("s59,s41;s10,s10", 1, 0, 0);
        safeIs("o39,o39;s10", 0, 1, 3);
        safeIs(HOT, 0, 5, 4);
        safeIs("s10;c19", 1, 1, 1);
        safeIs("s13,s90;s10", 0, 1, 1);
        safeIs("s12,s90;s10", 0, 0, 0);
        BarnSummers x = Barns.of("s12,s90;s10");
        Barns.days(x, 4);
        DUE.is("8: safe of one that burns on the 11th day", x.bay(0, 3), 0);
        x.day();
        DUE.is("8: safe of one that burns on the 10th day", x.bay(0, 3), 1);
        DUE.is("8: to ask burns nothing", x.count(2), 3);
        x.turn(0);
        DUE.is("8: safe once it is turned", x.bay(0, 3), 0);
        x = Barns.of("s90,s12,s90;s10");
        x.turn(0);
        x.cut(0, 3);
        x.cut(0, 3);
        x.cut(0, 3);
        Barns.days(x, 2);
        x.rain(2, 9);
        DUE.is("8: safe by places, not by carts", x.bay(0, 3), 1);
        DUE.is("8: its light", x.bay(0, 4), 9);
    }

    private static void safeIs(String text, int bay, int places, int light) {
        BarnSummers x = Barns.of(text);
        DUE.is("8: bay(" + bay + ", 3) of " + text, x.bay(bay, 3), places);
        DUE.is("8: bay(" + bay + ", 4) of " + text, x.bay(bay, 4), light);
    }

    private static void cut() {
        BarnSummers x = Barns.of("s20,o40,c90;a51");
        DUE.is("9: clover", x.cut(0, 3), 4);
        DUE.is("9: clover by 1", x.cut(0, 1), 2);
        DUE.is("9: light of it", x.cart(2, 1), 5);
        x.cut(0, 3);
        DUE.is("9: less than was asked", x.cut(0, 3), 3);
        DUE.is("9: the one below is on top", x.bay(0, 1), 1);
        DUE.is("9: old", x.cut(0, 3), 6);
        DUE.is("9: old, the rest", x.cut(0, 2), 2);
        DUE.is("9: plain", x.cut(0, 1), 1);
        DUE.is("9: ancient", x.cut(1, 2), 5);
        DUE.is("9: wet stays", x.cart(3, 2), 1);
        DUE.is("9: given", x.count(7), 4 + 2 + 4 + 3 + 6 + 2 + 1 + 5);
        DUE.is("9: no day is by it", x.count(6), 0);
        DUE.is("9: plain, the rest", x.cut(0, 2), 1);
        DUE.is("9: all is gone", x.cut(0, 1), STATE);
        DUE.is("9: outside ahead of state", x.cut(0, 4), OUTSIDE);
        DUE.is("9: cut(1, 0)", x.cut(1, 0), OUTSIDE);
        DUE.is("9: cut(1, LOW)", x.cut(1, LOW), OUTSIDE);
        DUE.is("9: unknown ahead of outside", x.cut(2, 0), UNKNOWN);
        DUE.is("9: cut(-1, 1)", x.cut(-1, 1), UNKNOWN);
        DUE.is("9: refusals change nothing", x.count(7), 28);
    }

    private static void cutMelancholy() {
        BarnSummers x = Barns.of("s15,m13;s17,s14;s10");
        DUE.is("9: melancholy", x.cut(0, 1), 0);
        DUE.is("9: its own bay dries not", x.cart(0, 2), 5);
        DUE.is("9: another top dries", x.cart(3, 2), 3);
        DUE.is("9: what is under it dries not", x.cart(2, 2), 7);
        DUE.is("9: 0 at least", x.cart(4, 2), 0);
        DUE.is("9: nothing given", x.count(7), 0);
        x = Barns.of("s15;m91");
        x.cut(1, 3);
        DUE.is("9: 1 less for 3 too", x.cart(0, 2), 4);
        DUE.is("9: itself as wet", x.cart(1, 2), 1);
        x.cut(0, 1);
        DUE.is("9: with the other bay empty", x.cut(1, 3), 0);
    }

    private static void day() {
        BarnSummers x = Barns.of("s39;s10");
        DUE.is("10: day 1", x.day(), 0);
        DUE.is("10: warm", x.cart(0, 3), 9);
        DUE.is("10: drier", x.cart(0, 2), 8);
        DUE.is("10: days 2 and 3", Barns.days(x, 2), 0);
        DUE.is("10: warm by 24", x.cart(0, 3), 24);
        DUE.is("10: by 30 it burns", x.day(), 1);
        DUE.is("10: gone", x.count(2), 1);
        DUE.is("10: burnt", x.count(8), 1);
        DUE.is("10: days", x.count(6), 4);
        DUE.is("10: the dry one stays dry", x.cart(1, 2), 0);
        x = Barns.of("s55,s99,s11;s10");
        DUE.is("10: three days", Barns.days(x, 3), 0);
        DUE.is("10: all above burns with it", x.day(), 2);
        DUE.is("10: what is under it stays", x.bay(0, 1), 0);
        DUE.is("10: it dries on that day, being on top then", x.cart(0, 2), 4);
        x = Barns.of("m59,s10;s10");
        DUE.is("10: melancholy is never warm", Barns.days(x, 20), 0);
        DUE.is("10: nor warm at all", x.count(5), 0);
        DUE.is("10: under the top it dries not", x.cart(0, 2), 9);
        x = Barns.of("c19,s11;c18;s10");
        DUE.is("10: the first day burns none", x.day(), 0);
        DUE.is("10: two bays at once", x.day(), 3);
        DUE.is("10: all of them are told", x.count(8), 3);
    }

    private static void turn() {
        BarnSummers x = Barns.of("s31,s42,s53;s61");
        x.day();
        DUE.is("11: turn(0)", x.turn(0), 3);
        for (int place = 0; place < 3; place++) {
            DUE.is("11: the cart at " + place, x.bay(0, 10 + place), 2 - place);
            DUE.is("11: warm of " + place, x.cart(place, 3), 0);
            DUE.is("11: on " + place, x.cart(place, 5), place);
        }
        DUE.is("11: wet stays", x.cart(2, 2), 2);
        DUE.is("11: another bay stays warm", x.cart(3, 3), 1);
        DUE.is("11: the top is cut", x.cut(0, 3) * 10 + x.cart(0, 1), 30);
        DUE.is("11: turn of two", x.turn(0), 2);
        DUE.is("11: the lowest", x.bay(0, 10), 1);
        DUE.is("11: its bay is the same", x.cart(1, 4), 0);
        DUE.is("11: turn of one", x.turn(1), 1);
        DUE.is("11: it is not warm then", x.cart(3, 3), 0);
        DUE.is("11: turn(2)", x.turn(2), UNKNOWN);
        DUE.is("11: turn(-1)", x.turn(-1), UNKNOWN);
        x.cut(1, 3);
        x.cut(1, 3);
        DUE.is("11: turn of none", x.turn(1), STATE);
        DUE.is("11: no day is by it", x.count(6), 1);
    }

    private static void rain() {
        BarnSummers x = Barns.of("s31,s42;s15");
        DUE.is("12: rain(0, 9)", x.rain(0, 9), 1);
        DUE.is("12: so wet", x.cart(0, 2), 9);
        DUE.is("12: rain(0, 0)", x.rain(0, 0), 9);
        DUE.is("12: others are as they were", x.count(4), 7);
        DUE.is("12: rain(0, 10)", x.rain(0, 10), OUTSIDE);
        DUE.is("12: rain(0, -1)", x.rain(0, -1), OUTSIDE);
        DUE.is("12: rain(3, 10)", x.rain(3, 10), UNKNOWN);
        DUE.is("12: rain(LOW, 1)", x.rain(LOW, 1), UNKNOWN);
        x.cut(1, 1);
        DUE.is("12: rain on what is gone", x.rain(2, 3), STATE);
        DUE.is("12: outside ahead of state", x.rain(2, 10), OUTSIDE);
        DUE.is("12: refusals change nothing", x.count(4), 2);
    }

    private static void lasts() {
        lastsIs("s19;s53", 1, 6);
        lastsIs("s19;s53", 3, 2);
        lastsIs("s19;s53", 6, 1);
        lastsIs("s10;s10", 3, 0);
        lastsIs("s99;s10", 1, 4);
        lastsIs("o10;s10;s10,s20", 2, 3);
        lastsIs("m50;s60", 1, 6);
        lastsIs("a90,a90,a90;a90,a90,a90;a90,a90,a90", 1, 81);
        lastsIs("c90;m90", 6, 3);
        BarnSummers x = Barns.of(WHOLE);
        long before = x.digest();
        DUE.is("13: lasts(1)", x.lasts(1), 15);
        DUE.is("13: it is not done", x.digest(), before);
        DUE.is("13: lasts(7)", x.lasts(7), OUTSIDE);
        DUE.is("13: lasts(0)", x.lasts(0), OUTSIDE);
        DUE.is("13: lasts(HIGH)", x.lasts(HIGH), OUTSIDE);
        x = Barns.of("s10;s10");
        x.cut(0, 1);
        x.cut(1, 1);
        DUE.is("13: lasts with all gone", x.lasts(1), 0);
    }

    private static void lastsIs(String text, int much, int days) {
        DUE.is("13: lasts(" + much + ") of " + text, Barns.of(text).lasts(much), days);
    }

    private static void plan() {
        planIs("s10;s10", 1, 2, 0);
        planIs("s10;o10", 1, 3, 1);
        planIs("s10;o10", 2, 3, 0, 1);
        planIs("s10;o10", 4, 3, 0, 1, NONE, NONE);
        planIs("m55;m66;m77", 1, 15, 0);
        planIs("s19;s53", 1, 6, 0);
        planIs(HOT, 1, 11, 0);
        planIs("s50;s50;o50", 2, 20, 2, 2);
        planIs("s90;c90", 3, 21, 1, 1, 1);
        // the clover burns on the second day whatever is cut: it is worth what it gives ahead of that
        planIs("s90;c98", 2, 17, 1, 1);
        BarnSummers x = Barns.of("s10;o10");
        long before = x.digest();
        DUE.is("14: not so many", x.plan(2, 12), NONE);
        DUE.is("14: plan(1, 13)", x.plan(1, 13), NONE);
        DUE.is("14: plan(0, 0)", x.plan(0, 0), OUTSIDE);
        DUE.is("14: plan(5, 0)", x.plan(5, 0), OUTSIDE);
        DUE.is("14: plan(1, 1)", x.plan(1, 1), OUTSIDE);
        DUE.is("14: plan(1, 9)", x.plan(1, 9), OUTSIDE);
        DUE.is("14: plan(4, 14)", x.plan(4, 14), OUTSIDE);
        DUE.is("14: plan(4, -1)", x.plan(4, -1), OUTSIDE);
        DUE.is("14: it is not done", x.digest(), before);
        x.cut(0, 1);
        x.cut(1, 1);
        DUE.is("14: with all gone", x.plan(3, 0), 0);
        DUE.is("14: nothing is chosen", x.plan(3, 10), NONE);
    }

    private static void planIs(String text, int days, int much, int... bays) {
        BarnSummers x = Barns.of(text);
        DUE.is("14: plan(" + days + ", 0) of " + text, x.plan(days, 0), much);
        for (int day = 0; day < bays.length; day++) {
            DUE.is("14: plan(" + days + ", 1" + day + ") of " + text, x.plan(days, 10 + day), bays[day]);
        }
    }

    private static void share() {
        shareIs("s50,s40;s30,s30,s30", 9, 5);
        shareIs("s19;s53", 1, 0);
        shareIs(WHOLE, 25, 17);
        shareIs("s90,s90,s90;s90,s90,s90;s90,s90,s90", 36, 27);
        shareIs("s90,s80,s70;s60,s50,s40;s30,s20,s10", 22, 15);
        shareIs("s90;s10,s10,s10", 3, 1);
        shareIs("s50;s30;s70", 7, 3);
        BarnSummers x = Barns.of("s50;s40");
        x.cut(0, 2);
        x.cut(1, 3);
        DUE.is("15: by what is left", x.share(2), 1);
        DUE.is("15: share(1)", x.share(1), OUTSIDE);
        DUE.is("15: share(4)", x.share(4), OUTSIDE);
        DUE.is("15: refusals do not count", x.count(12), 1);
        x.cut(0, 3);
        x.cut(1, 1);
        x.image();
        DUE.is("15: with all gone", x.share(3), 0);
        DUE.is("15: with all gone", x.share(2), 0);
        x.restore();
        DUE.is("15: an image keeps it not", x.count(12), 3);
        Barns.read(x, "s10,s10,s10;s10,s10,s10;s10,s10,s10");
        DUE.is("15: nine among three", x.share(3), 3);
        Barns.read(x, "s90;s10");
        DUE.is("15: two among three, behind nine", x.share(3), 0);
        Barns.read(x, "s50;s40");
        for (int done = 6; done <= 12; done++) {
            DUE.is("15: share(2), the " + done, x.share(2), 4);
        }
        DUE.is("15: the 13th", x.share(2), STATE);
        DUE.is("15: outside ahead of state", x.share(1), OUTSIDE);
        Barns.read(x, "s50;s40");
        DUE.is("15: ever", x.share(3), STATE);
        DUE.is("15: count(12)", x.count(12), 12);
    }

    private static void shareIs(String text, int amongTwo, int amongThree) {
        BarnSummers x = Barns.of(text);
        DUE.is("15: share(2) of " + text, x.share(2), amongTwo);
        DUE.is("15: share(3) of " + text, x.share(3), amongThree);
    }

    private static void burnt() {
        BarnSummers x = Barns.of("s39;s10");
        DUE.is("16: burnt(0)", x.burnt(0), 0);
        DUE.is("16: burnt(3)", x.burnt(3), 0);
        DUE.is("16: burnt(4)", x.burnt(4), 1);
        DUE.is("16: it is not done", x.count(6) + x.count(8) + x.cart(0, 3), 0);
        x = Barns.of("s10;s39,s10");
        DUE.is("16: with what lies on it", x.burnt(4), 6);
        Barns.days(x, 3);
        DUE.is("16: from now", x.burnt(1), 6);
        x.day();
        DUE.is("16: not what is gone now", x.burnt(20), 0);
        x = Barns.of("s12,s90;s10");
        DUE.is("16: burnt(14)", x.burnt(14), 0);
        DUE.is("16: burnt(15)", x.burnt(15), 3);
        DUE.is("16: burnt(20)", Barns.of(WHOLE).burnt(20), 511);
        DUE.is("16: burnt(21)", x.burnt(21), OUTSIDE);
        DUE.is("16: burnt(-1)", x.burnt(-1), OUTSIDE);
        DUE.is("16: burnt(LOW)", x.burnt(LOW), OUTSIDE);
    }

    private static void see() {
        BarnSummers x = Barns.of("s39;s10");
        DUE.is("17: see(0, 1, 0)", x.see(0, 1, 0), 1);
        DUE.is("17: see(0, 9, 30)", x.see(0, 9, 30), 2);
        DUE.is("17: see(2, 0, 0)", x.see(2, 0, 0), UNKNOWN);
        DUE.is("17: see(-1, 1, 0)", x.see(-1, 1, 0), UNKNOWN);
        DUE.is("17: see(0, 0, 1)", x.see(0, 0, 1), OUTSIDE);
        DUE.is("17: see(0, 10, 1)", x.see(0, 10, 1), OUTSIDE);
        DUE.is("17: see(0, 1, 31)", x.see(0, 1, 31), OUTSIDE);
        DUE.is("17: see(0, 1, -1)", x.see(0, 1, -1), OUTSIDE);
        x.cut(1, 1);
        DUE.is("17: of what is gone", x.see(1, 1, 0), STATE);
        DUE.is("17: outside ahead of state", x.see(1, 1, 31), OUTSIDE);
        for (int many = 3; many <= 6; many++) {
            DUE.is("17: the same again", x.see(0, 1, 0), many);
        }
        DUE.is("17: the seventh", x.see(0, 1, 0), FULL);
        DUE.is("17: state ahead of full", x.see(1, 1, 0), STATE);
        DUE.is("17: count(9)", x.count(9), 6);
        x.cut(0, 3);
        DUE.is("17: it stays seen of what is gone", x.count(9), 6);
    }

    private static void forget() {
        BarnSummers x = Barns.of("s39;s10");
        DUE.is("18: forget()", x.forget(), 0);
        x.see(0, 1, 0);
        x.see(0, 1, 1);
        DUE.is("18: wets", x.cart(0, 7), 0);
        DUE.is("18: forget()", x.forget(), 2);
        DUE.is("18: wets then", x.cart(0, 7), 1023);
        DUE.is("18: count(9)", x.count(9), 0);
        DUE.is("18: see() then", x.see(0, 1, 9), 1);
        DUE.is("18: it is so alone", x.cart(0, 7), 1 << 9);
    }

    private static void winters() {
        BarnSummers x = Barns.of("s90;o20");
        long before = x.digest();
        DUE.is("19: winters(1, 0, 0)", x.winters(1, 0, 0), 1);
        DUE.is("19: winters(2, 0, 0)", x.winters(2, 0, 0), 5);
        DUE.is("19: winters(4, 0, 0)", x.winters(4, 0, 0), 5);
        DUE.is("19: winters(1, 0, 2)", x.winters(1, 0, 2), 1406932606);
        DUE.is("19: winters(4, 0, 2)", x.winters(4, 0, 2), 1293799192);
        DUE.is("19: winters(4, HIGH, 2)", x.winters(4, HIGH, 2), 2101342199);
        DUE.is("19: it is not done", x.digest(), before);
        DUE.is("19: winters(0, 0, 0)", x.winters(0, 0, 0), OUTSIDE);
        DUE.is("19: winters(61, 0, 0)", x.winters(61, 0, 0), OUTSIDE);
        DUE.is("19: winters(60, 0, 1)", x.winters(60, 0, 1), 0);
        DUE.is("19: winters(1, -1, 0)", x.winters(1, -1, 0), OUTSIDE);
        DUE.is("19: winters(1, 0, 3)", x.winters(1, 0, 3), OUTSIDE);
        DUE.is("19: winters(1, 0, -1)", x.winters(1, 0, -1), OUTSIDE);
        x = Barns.of("s90;o90;c90");
        DUE.is("19: of three bays", x.winters(4, 1, 0), 12);
        DUE.is("19: by the highest seed", x.winters(4, HIGH, 0), 13);
        x.cut(0, 1);
        DUE.is("19: what was given is not told", x.winters(4, 1, 0), 12);
        x = Barns.of("s39;s10");
        DUE.is("19: none burns in 3", x.winters(3, 0, 1), 0);
        DUE.is("19: one burns in 4", x.winters(4, 0, 1), 1);
        DUE.is("19: given", x.winters(4, 0, 0), 2);
        Barns.days(x, 4);
        DUE.is("19: what burnt is not told", x.winters(4, 0, 1), 0);
    }

    private static void image() {
        BarnSummers x = Barns.of(WHOLE);
        DUE.is("20: image()", x.image(), 0);
        Barns.days(x, 3);
        DUE.is("20: image() behind 3", x.image(), 3);
        long before = x.digest();
        x.day();
        DUE.is("20: the latest is kept", x.restore(), 3);
        DUE.is("20: as it was", x.digest(), before);
    }

    private static void restore() {
        BarnSummers x = Barns.of("s55,c99,m33;m74,s28");
        DUE.is("21: none was kept", x.restore(), STATE);
        x.cut(0, 1);
        x.turn(1);
        x.day();
        x.see(0, 1, 14);
        x.see(2, 2, 0);
        DUE.is("21: wets ahead of it", x.cart(0, 7), 1 << 5);
        x.image();
        long before = x.digest();
        for (int again = 0; again < 2; again++) {
            x.turn(0);
            x.cut(0, 3);
            x.turn(1);
            Barns.days(x, 5);
            x.rain(0, 0);
            x.forget();
            DUE.is("21: days behind it", x.count(6), 6);
            DUE.is("21: restore()", x.restore(), 1);
            DUE.is("21: all is as it was", x.digest(), before);
            DUE.is("21: what lies where", x.bay(1, 1), 3);
            DUE.is("21: seen", x.count(9), 2);
        }
        x.forget();
        x.see(1, 9, 30);
        x.see(1, 8, 30);
        x.restore();
        DUE.is("21: seen as it was, not as it is", x.digest(), before);
        DUE.is("21: nothing of another", x.cart(3, 7), 1023);
        Barns.write(x, "s1");
        x.restore();
        DUE.is("21: the page stays", x.count(10), 2);
        Barns.read(x, "s55,c99,m33;m74,s28");
        DUE.is("21: another barn", x.restore(), STATE);
        x.image();
        DUE.is("21: its own image", x.restore(), 0);
    }

    private static void count() {
        BarnSummers x = Barns.of("s35,c46;m52;o21");
        x.day();
        x.cut(2, 1);
        x.see(0, 1, 1);
        x.share(2);
        x.letter('s');
        int[] told = {3, 4, 4, 13, 11, 12, 1, 2, 0, 1, 1, 1, 1};
        for (int what = 0; what < told.length; what++) {
            DUE.is("22: count(" + what + ")", x.count(what), told[what]);
        }
        x.day();
        x.day();
        told = new int[] {3, 4, 3, 9, 4, 18, 3, 2, 1, 1, 1, 1, 1};
        for (int what = 0; what < told.length; what++) {
            DUE.is("22: count(" + what + ") later", x.count(what), told[what]);
        }
        DUE.is("22: count(13)", x.count(13), OUTSIDE);
        DUE.is("22: count(-1)", x.count(-1), OUTSIDE);
        DUE.is("22: count(LOW)", x.count(LOW), OUTSIDE);
    }

    private static void digest() {
        BarnSummers x = Barns.of(WHOLE);
        digestIs(x);
        x.see(2, 3, 4);
        x.day();
        x.cut(0, 3);
        Barns.write(x, "s1~");
        digestIs(x);
        Barns.days(x, 20);
        digestIs(x);
        long before = x.digest();
        DUE.is("23: it changes nothing", x.digest(), before);
        digestIs(Barns.of("s10;o10"));
        digestIs(Barns.of("o30;s10"));
        // one BAY burns on the tenth day; then, behind a day, on the ninth
        x = Barns.of("s14,s90;s13,s90");
        digestIs(x);
        x.day();
        x.rain(0, 3);
        x.rain(2, 3);
        digestIs(x);
    }

    private static void digestIs(BarnSummers x) {
        long h = 1201;
        for (int cart = 0; cart < x.count(1); cart++) {
            for (int what : new int[] {0, 1, 2, 3, 4, 5, 6, 7, 8, 10, 11, 12}) {
                h = 31 * h + x.cart(cart, what);
            }
        }
        for (int bay = 0; bay < x.count(0); bay++) {
            for (int what : new int[] {0, 1, 2, 3, 4, 10, 11, 12}) {
                h = 31 * h + x.bay(bay, what);
            }
        }
        for (int told : new int[] {x.lasts(2), x.plan(2, 0), x.plan(2, 10), x.plan(2, 11), x.burnt(9)}) {
            h = 31 * h + told;
        }
        if (x.count(10) == 3) {
            h = 31 * (31 * (31 * h + 's') + '1') + '~';
        }
        for (int what = 0; what <= 12; what++) {
            h = 31 * h + x.count(what);
        }
        DUE.is("23: digest()", x.digest(), h);
    }
}
