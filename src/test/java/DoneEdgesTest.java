/** The edges of promises 9 to 12: a slice, a day, a turn, rain. */
public final class DoneEdgesTest {
    private static final int NONE = -1, UNKNOWN = -101, OUTSIDE = -102, STATE = -103, FULL = -104;
    private static final int LOW = Integer.MIN_VALUE, HIGH = Integer.MAX_VALUE;

    public static void main(String[] args) throws Exception {
        Sentences.run(DoneEdgesTest.class);
    }

    // ---- 9

    @Sentence(promise = 9, says = "UNKNOWN: bay")
    static void cutOfNoBay(Due due) {
        BarnSummers x = Barns.of("s90;s90");
        for (int bay : new int[] {LOW, -1, 2, 3, HIGH}) {
            due.is("cut(" + bay + ", 1)", x.cut(bay, 1), UNKNOWN);
        }
        due.is("cut(2, 1) of three", Barns.of("s90;s90;s90").cut(2, 1), 1);
        due.is("cut(3, 1) of three", Barns.of("s90;s90;s90").cut(3, 1), UNKNOWN);
    }

    @Sentence(promise = 9, says = "OUTSIDE: much (1 to 3)")
    static void cutOfTooMuchOrTooLittle(Due due) {
        BarnSummers x = Barns.of("s90;s90");
        for (int much : new int[] {LOW, -1, 0, 4, HIGH}) {
            due.is("cut(0, " + much + ")", x.cut(0, much), OUTSIDE);
        }
        due.is("light is as it was", x.count(3), 18);
        due.is("cut(0, 1)", x.cut(0, 1), 1);
        due.is("cut(0, 3)", x.cut(0, 3), 3);
    }

    @Sentence(promise = 9, says = "STATE: all in it is GONE")
    static void cutOfAnEmptyBay(Due due) {
        BarnSummers x = Barns.of("s10,s10;s10");
        due.is("the top", x.cut(0, 1), 1);
        due.is("the last one", x.cut(0, 1), 1);
        due.is("none", x.cut(0, 1), STATE);
        due.is("given", x.count(7), 2);
        due.is("the other bay", x.cut(1, 1), 1);
    }

    @Sentence(promise = 9, says = "STATE: all in it is GONE")
    static void cutOfABurntBay(Due due) {
        BarnSummers x = Barns.of("c19,s10;s10");
        due.is("two days", Barns.days(x, 2), 2);
        due.is("cut(0, 1)", x.cut(0, 1), STATE);
    }

    @Sentence(promise = 9, says = "FULL: 9000 were GIVEN, or more")
    static void cutAt9000(Due due) throws ReflectiveOperationException {
        BarnSummers x = Barns.of("s90;s90");
        Inside.set(x, "given", 8999);
        due.is("with 8999 given", x.cut(0, 1), 1);
        due.is("given then", x.count(7), 9000);
        due.is("with 9000 given", x.cut(0, 1), FULL);
        due.is("light is as it was", x.count(3), 17);
    }

    @Sentence(promise = 9, says = "FULL: 9000 were GIVEN, or more")
    static void cutAbove9000(Due due) throws ReflectiveOperationException {
        BarnSummers x = Barns.of("a90;m95;s15");
        Inside.set(x, "given", 8999);
        due.is("with 8999 given", x.cut(0, 3), 7);
        due.is("given then", x.count(7), 9006);
        due.is("with 9006 given", x.cut(0, 1), FULL);
        due.is("of what gives nothing, too", x.cut(1, 1), FULL);
        due.is("no top is drier", x.cart(2, 2), 5);
    }

    @Sentence(promise = 9, says = "UNKNOWN: bay; OUTSIDE: much (1 to 3); STATE: all in it is GONE; FULL: 9000 were GIVEN, or more")
    static void cutRefusalsInOrder(Due due) throws ReflectiveOperationException {
        BarnSummers x = Barns.of("s10;s10");
        x.cut(0, 1);
        Inside.set(x, "given", 9000);
        due.is("unknown ahead of all", x.cut(2, 0), UNKNOWN);
        due.is("outside ahead of state", x.cut(0, 0), OUTSIDE);
        due.is("outside ahead of full", x.cut(1, 4), OUTSIDE);
        due.is("state ahead of full", x.cut(0, 1), STATE);
        due.is("full", x.cut(1, 1), FULL);
    }

    // ---- 10

    @Sentence(promise = 10, says = "STATE: no BARN")
    static void dayWithoutABarn(Due due) {
        BarnSummers x = new BarnSummers();
        due.is("day()", x.day(), STATE);
        due.is("count(6)", x.count(6), 0);
        Barns.write(x, "s10;s10");
        due.is("day() with a page", x.day(), STATE);
        x.barn();
        due.is("day() with a barn", x.day(), 0);
    }

    @Sentence(promise = 10, says = "FULL: 999 were")
    static void dayAt999(Due due) throws ReflectiveOperationException {
        BarnSummers x = Barns.of("s15;s10");
        Inside.set(x, "days", 998);
        due.is("the 999th", x.day(), 0);
        due.is("days then", x.count(6), 999);
        due.is("the 1000th", x.day(), FULL);
        due.is("days still", x.count(6), 999);
        due.is("warm still", x.cart(0, 3), 5);
        due.is("wet still", x.cart(0, 2), 4);
    }

    @Sentence(promise = 10, says = "how many CARTS BURN (with those that are GONE by it)")
    static void dayTellsAllThatAreGoneByIt(Due due) {
        BarnSummers x = Barns.of("c19,s10,s10;c18,s10;s90");
        due.is("the first", x.day(), 0);
        due.is("the second", x.day(), 5);
        due.is("the third", x.day(), 0);
        due.is("count(8)", x.count(8), 5);
    }

    @Sentence(promise = 10, says = "how many CARTS BURN (with those that are GONE by it)")
    static void dayTellsNotWhatWasCut(Due due) {
        BarnSummers x = Barns.of("c19,s10;s10");
        x.day();
        x.cut(0, 1);
        due.is("the second", x.day(), 1);
        due.is("count(8)", x.count(8), 1);
    }

    @Sentence(promise = 10, says = "how many CARTS BURN (with those that are GONE by it)")
    static void dayWithAllGone(Due due) {
        BarnSummers x = Barns.of("s10;s10");
        x.cut(0, 1);
        x.cut(1, 1);
        due.is("day()", x.day(), 0);
        due.is("count(6)", x.count(6), 1);
    }

    // ---- 11

    @Sentence(promise = 11, says = "UNKNOWN; STATE: all in it is GONE")
    static void turnOfNoBay(Due due) {
        BarnSummers x = Barns.of("s10;s10");
        for (int bay : new int[] {LOW, -1, 2, 3, HIGH}) {
            due.is("turn(" + bay + ")", x.turn(bay), UNKNOWN);
        }
        due.is("turn(2) of three", Barns.of("s10;s10;s10").turn(2), 1);
        due.is("turn(3) of three", Barns.of("s10;s10;s10").turn(3), UNKNOWN);
    }

    @Sentence(promise = 11, says = "STATE: all in it is GONE")
    static void turnOfAnEmptyBay(Due due) {
        BarnSummers x = Barns.of("s10,s10;s10");
        x.cut(0, 1);
        due.is("with one left", x.turn(0), 1);
        x.cut(0, 1);
        due.is("with none left", x.turn(0), STATE);
        due.is("the other bay", x.turn(1), 1);
    }

    @Sentence(promise = 11, says = "STATE: all in it is GONE")
    static void turnOfABurntBay(Due due) {
        BarnSummers x = Barns.of("c19,s10;s10");
        Barns.days(x, 2);
        due.is("turn(0)", x.turn(0), STATE);
    }

    @Sentence(promise = 11, says = "how many CARTS that are not GONE there are in it")
    static void turnTellsHowMany(Due due) {
        BarnSummers x = Barns.of("s10,s10,s10;s10");
        for (int left = 3; left >= 1; left--) {
            due.is("with " + left, x.turn(0), left);
            x.cut(0, 1);
        }
    }

    // ---- 12

    @Sentence(promise = 12, says = "UNKNOWN: cart")
    static void rainOnNoCart(Due due) {
        BarnSummers x = Barns.of("s10,s10;s10");
        for (int cart : new int[] {LOW, -1, 3, 9, HIGH}) {
            due.is("rain(" + cart + ", 1)", x.rain(cart, 1), UNKNOWN);
        }
        due.is("all are dry", x.count(4), 0);
    }

    @Sentence(promise = 12, says = "OUTSIDE: wet (0 to 9)")
    static void rainOfTooMuchOrTooLittle(Due due) {
        BarnSummers x = Barns.of("s15;s10");
        for (int wet : new int[] {LOW, -1, 10, HIGH}) {
            due.is("rain(0, " + wet + ")", x.rain(0, wet), OUTSIDE);
        }
        due.is("wet still", x.cart(0, 2), 5);
        due.is("rain(0, 0)", x.rain(0, 0), 5);
        due.is("rain(0, 9)", x.rain(0, 9), 0);
        due.is("rain(0, 9) again", x.rain(0, 9), 9);
        due.is("wet then", x.cart(0, 2), 9);
    }

    @Sentence(promise = 12, says = "STATE: it is GONE")
    static void rainOnWhatIsGone(Due due) {
        BarnSummers x = Barns.of("s19,s19;c19,s10");
        x.cut(0, 1);
        due.is("on what is cut", x.rain(1, 5), STATE);
        Barns.days(x, 2);
        due.is("on what burnt", x.rain(2, 5), STATE);
        due.is("on what lay on it", x.rain(3, 5), STATE);
        due.is("wet of what is gone", x.cart(1, 2) + x.cart(2, 2) + x.cart(3, 2), 0);
        due.is("on what is left", x.rain(0, 5), 7);
    }

    @Sentence(promise = 12, says = "UNKNOWN: cart; OUTSIDE: wet (0 to 9); STATE: it is GONE")
    static void rainRefusalsInOrder(Due due) {
        BarnSummers x = Barns.of("s19;s10");
        x.cut(0, 1);
        due.is("unknown ahead of outside", x.rain(2, 10), UNKNOWN);
        due.is("outside ahead of state", x.rain(0, 10), OUTSIDE);
        due.is("outside ahead of state, below", x.rain(0, -1), OUTSIDE);
        due.is("state", x.rain(0, 9), STATE);
    }

    @Sentence(promise = 12, says = "A CART is so WET from now on (rain, or wind): how WET it was.")
    static void rainLeavesItAsWarm(Due due) {
        BarnSummers x = Barns.of("s19,s13;s10");
        x.day();
        due.is("rain under another", x.rain(0, 1), 9);
        due.is("warm still", x.cart(0, 3), 10);
        due.is("by a day", x.cart(0, 6), 2);
        due.is("rain on the top", x.rain(1, 0), 2);
        due.is("by a day, under a dry one", x.cart(0, 6), 1);
    }

    @Sentence(promise = 9, says = "A SLICE is cut: what it GIVES.")
    static void cutOfMoreThanThereIs(Due due) {
        BarnSummers x = Barns.of("m10;s10");
        due.is("of a melancholy one", x.cut(0, 3), 0);
        due.is("it is gone", x.bay(0, 1), NONE);
        due.is("of the other", x.cut(1, 3), 1);
    }
}
