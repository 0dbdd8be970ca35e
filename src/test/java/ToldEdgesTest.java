import java.math.BigInteger;
import java.util.ArrayList;
import java.util.List;

/** The edges of promises 20 to 23, and that no refusal changes anything. */
public final class ToldEdgesTest {
    private static final int UNKNOWN = -101, OUTSIDE = -102, STATE = -103, FULL = -104;
    private static final int LOW = Integer.MIN_VALUE, HIGH = Integer.MAX_VALUE;

    public static void main(String[] args) throws Exception {
        Sentences.run(ToldEdgesTest.class);
    }

    // ---- 20

    @Sentence(promise = 20, says = "STATE: no BARN")
    static void imageWithoutABarn(Due due) {
        BarnSummers x = new BarnSummers();
        due.is("image()", x.image(), STATE);
        due.is("nothing was kept", x.restore(), STATE);
        Barns.read(x, "s10;s10");
        due.is("nor is it kept for a later barn", x.restore(), STATE);
        due.is("image() with a barn", x.image(), 0);
    }

    @Sentence(promise = 20, says = "An IMAGE is kept (one; the latest): how many DAYS there were.")
    static void theLatestImage(Due due) {
        BarnSummers x = Barns.of("s90;s90");
        for (int days = 0; days < 3; days++) {
            due.is("image() on day " + days, x.image(), days);
            x.day();
        }
        due.is("restore()", x.restore(), 2);
        x.image();
        due.is("restore() again", x.restore(), 2);
    }

    @Sentence(promise = 20, says = "An IMAGE is kept (one; the latest): how many DAYS there were.")
    static void imageOfAllGone(Due due) {
        BarnSummers x = Barns.of("s10;s10");
        x.cut(0, 1);
        x.cut(1, 1);
        due.is("image()", x.image(), 0);
        x.day();
        due.is("restore()", x.restore(), 0);
        due.is("all is gone", x.count(2), 0);
        due.is("given", x.count(7), 2);
    }

    // ---- 21

    @Sentence(promise = 21, says = "STATE: none was kept, or there is another BARN since.")
    static void restoreOfNone(Due due) {
        BarnSummers x = new BarnSummers();
        due.is("without a barn", x.restore(), STATE);
        Barns.read(x, "s10;s10");
        due.is("with a barn", x.restore(), STATE);
        x.day();
        due.is("behind a day", x.restore(), STATE);
        due.is("the day stays", x.count(6), 1);
    }

    @Sentence(promise = 21, says = "STATE: none was kept, or there is another BARN since.")
    static void restoreWithAnotherBarn(Due due) {
        BarnSummers x = Barns.of("s10;s10");
        x.image();
        Barns.read(x, "s10;s10");
        due.is("with the same text", x.restore(), STATE);
        Barns.read(x, "s50;s50;s50");
        due.is("with another text", x.restore(), STATE);
        due.is("it stays", x.count(0), 3);
        due.is("image() of it", x.image(), 0);
        due.is("restore() of it", x.restore(), 0);
    }

    @Sentence(promise = 21, says = "STATE: none was kept, or there is another BARN since.")
    static void aRefusedBarnIsNotAnother(Due due) {
        BarnSummers x = Barns.of("s10;s10");
        x.image();
        Barns.write(x, "s10");
        due.is("barn()", x.barn(), STATE);
        due.is("restore()", x.restore(), 0);
    }

    @Sentence(promise = 21, says = "It goes on from the IMAGE: how many DAYS there were.")
    static void restoreAgainAndAgain(Due due) {
        BarnSummers x = Barns.of("s25,c91;m23,o34");
        x.day();
        x.see(0, 1, 6);
        x.image();
        long before = x.digest();
        for (int again = 0; again < 4; again++) {
            due.is("restore()", x.restore(), 1);
            due.is("digest()", x.digest(), before);
            x.cut(0, 3);
            x.turn(0);
            x.turn(1);
            x.rain(2, 9);
            x.see(2, 1, 1);
            Barns.days(x, 9);
        }
    }

    @Sentence(promise = 0, says = "An IMAGE keeps LIGHT, WET, WARM, in which order all lie, DAYS, how much was GIVEN, how many BURNT, SEEN.")
    static void whatAnImageKeeps(Due due) {
        BarnSummers x = Barns.of("s52,s43;c19;o90");
        x.cut(2, 1);
        x.turn(0);
        Barns.days(x, 2);
        x.see(0, 3, 3);
        x.image();
        x.turn(0);
        Barns.clear(x, 2);
        x.rain(0, 9);
        x.rain(1, 9);
        Barns.days(x, 9);
        x.forget();
        x.restore();
        int[][] told = {{0, 1, 5}, {0, 2, 0}, {0, 3, 3}, {1, 1, 4}, {1, 2, 3}, {1, 3, 8}, {2, 1, 0}, {3, 1, 8}};
        for (int[] row : told) {
            due.is("cart(" + row[0] + ", " + row[1] + ")", x.cart(row[0], row[1]), row[2]);
        }
        due.is("the lowest of bay 0", x.bay(0, 10), 1);
        due.is("the top of bay 0", x.bay(0, 11), 0);
        due.is("days", x.count(6), 2);
        due.is("given", x.count(7), 2);
        due.is("burnt", x.count(8), 1);
        due.is("seen", x.count(9), 1);
    }

    @Sentence(promise = 0, says = "An IMAGE keeps LIGHT, WET, WARM, in which order all lie, DAYS, how much was GIVEN, how many BURNT, SEEN.")
    static void anImageKeepsEachThatIsSeen(Due due) {
        int[][] others = {{1, 1, 4}, {0, 2, 4}, {0, 1, 5}};
        for (int[] other : others) {
            BarnSummers x = Barns.of("s10;s10");
            x.see(0, 1, 4);
            x.image();
            x.forget();
            x.see(other[0], other[1], other[2]);
            x.restore();
            due.is("wets of 0", x.cart(0, 7), 1 << 4);
            due.is("wets of 1", x.cart(1, 7), 1023);
            due.is("seen", x.count(9), 1);
        }
    }

    @Sentence(promise = 0, says = "An IMAGE keeps LIGHT, WET, WARM, in which order all lie, DAYS, how much was GIVEN, how many BURNT, SEEN.")
    static void whatAnImageDoesNotKeep(Due due) {
        BarnSummers x = Barns.of("s50;s50");
        x.letter('s');
        x.share(2);
        x.image();
        x.letter('1');
        x.share(2);
        x.restore();
        due.is("letters of the page", x.count(10), 2);
        due.is("how often a barn was read", x.count(11), 1);
        due.is("shares", x.count(12), 2);
    }

    // ---- 22

    @Sentence(promise = 22, says = "OUTSIDE.")
    static void countWhatsOutside(Due due) {
        BarnSummers x = Barns.of("s10;s10");
        BarnSummers none = new BarnSummers();
        for (int what : new int[] {LOW, -1, 13, 14, HIGH}) {
            due.is("count(" + what + ")", x.count(what), OUTSIDE);
            due.is("count(" + what + ") without a barn", none.count(what), OUTSIDE);
        }
    }

    @Sentence(promise = 22, says = "2 that are not GONE, 3 LIGHT of all, 4 WET of all, 5 the most WARM that any is")
    static void countsWithAllGone(Due due) {
        BarnSummers x = Barns.of("s19;s19,s19");
        x.day();
        x.cut(0, 1);
        x.cut(1, 1);
        x.cut(1, 1);
        int[] counts = {2, 3, 0, 0, 0, 0, 1, 3, 0, 0, 0, 1, 0};
        for (int what = 0; what <= 12; what++) {
            due.is("count(" + what + ")", x.count(what), counts[what]);
        }
    }

    @Sentence(promise = 22, says = "2 that are not GONE, 3 LIGHT of all, 4 WET of all, 5 the most WARM that any is")
    static void countsOfTheLargest(Due due) {
        BarnSummers x = Barns.of("s99,s99,s99;s99,s99,s99;s99,s99,s99");
        x.day();
        int[] counts = {3, 9, 9, 81, 78, 11, 1, 0, 0, 0, 0, 1, 0};
        for (int what = 0; what <= 12; what++) {
            due.is("count(" + what + ")", x.count(what), counts[what]);
        }
    }

    @Sentence(promise = 22, says = "2 that are not GONE, 3 LIGHT of all, 4 WET of all, 5 the most WARM that any is")
    static void theMostWarmIsNotOneThatIsGone(Due due) {
        BarnSummers x = Barns.of("s19;s14;s12");
        x.day();
        due.is("count(5)", x.count(5), 9);
        x.cut(0, 1);
        due.is("count(5), that one gone", x.count(5), 4);
        x.turn(1);
        due.is("count(5), the next one turned", x.count(5), 2);
    }

    @Sentence(promise = 22, says = "11 how often a BARN was read")
    static void refusedBarnsAreNotCounted(Due due) {
        BarnSummers x = new BarnSummers();
        x.barn();
        due.is("refused", x.count(11), 0);
        Barns.read(x, "s10;s10");
        x.barn();
        due.is("read once", x.count(11), 1);
        Barns.read(x, "s10;s10");
        due.is("read twice", x.count(11), 2);
    }

    // ---- 23

    @Sentence(promise = 23, says = "with a BARN (all up to the next semicolon)")
    static void digestWithoutABarn(Due due) {
        BarnSummers x = new BarnSummers();
        due.is("of a new one", x.digest(), hash(List.of(0, 0, 0, 0, 0, 0, 0, 0, 0, 0, 0, 0, 0)));
        x.letter('~');
        x.letter(1);
        due.is("with a page", x.digest(), hash(List.of(126, 1, 0, 0, 0, 0, 0, 0, 0, 0, 0, 0, 2, 0, 0)));
    }

    @Sentence(promise = 23, says = "31 times h, and it (as longs, wrapping)")
    static void digestWraps(Due due) {
        BarnSummers x = Barns.of("s99,c99,m99;o99,a99,s99;s99,m99,c99");
        digestIs(due, x, List.of());
        x.image();
        Barns.days(x, 2);
        x.see(0, 1, 30);
        x.share(3);
        digestIs(due, x, List.of());
        x.restore();
        digestIs(due, x, List.of());
    }

    @Sentence(promise = 23, says = "what lasts() tells of 2, plan() of 2 for 0 and 10 and 11, burnt() of 9")
    static void digestOfWhatBurnsOnTheNinthAndTheTenthDay(Due due) {
        BarnSummers x = Barns.of("s13,s90;s10");
        due.is("behind 9, of what burns on the tenth", x.burnt(9), 0);
        digestIs(due, x, List.of());
        x.day();
        due.is("behind 9, of what burns on the ninth", x.burnt(9), 3);
        digestIs(due, x, List.of());
    }

    @Sentence(promise = 23, says = "letters of THE PAGE; what count() tells for 0 to 12")
    static void digestOfAFullPage(Due due) {
        BarnSummers x = Barns.of("s10;s10");
        List<Integer> page = new ArrayList<>();
        for (int code = 89; code <= 126; code++) {
            x.letter(code);
            page.add(code);
        }
        digestIs(due, x, page);
        due.is("a letter more is refused", x.letter('s'), FULL);
        digestIs(due, x, page);
    }

    @Sentence(promise = 23, says = "of each CART what cart() tells for 0 to 8 and 10 to 12")
    static void digestWithAllGone(Due due) {
        BarnSummers x = Barns.of("s10;s10");
        x.cut(0, 1);
        x.cut(1, 1);
        digestIs(due, x, List.of());
        due.is("it changes nothing", x.digest(), x.digest());
    }

    private static void digestIs(Due due, BarnSummers x, List<Integer> page) {
        List<Integer> told = new ArrayList<>();
        for (int cart = 0; cart < x.count(1); cart++) {
            for (int what : new int[] {0, 1, 2, 3, 4, 5, 6, 7, 8, 10, 11, 12}) {
                told.add(x.cart(cart, what));
            }
        }
        for (int bay = 0; bay < x.count(0); bay++) {
            for (int what : new int[] {0, 1, 2, 3, 4, 10, 11, 12}) {
                told.add(x.bay(bay, what));
            }
        }
        told.addAll(List.of(x.lasts(2), x.plan(2, 0), x.plan(2, 10), x.plan(2, 11), x.burnt(9)));
        told.addAll(page);
        for (int what = 0; what <= 12; what++) {
            told.add(x.count(what));
        }
        due.is("digest()", x.digest(), hash(told));
    }

    /** Without wrapping, till the end. */
    private static long hash(List<Integer> numbers) {
        BigInteger h = BigInteger.valueOf(1201);
        for (int number : numbers) {
            h = h.multiply(BigInteger.valueOf(31)).add(BigInteger.valueOf(number));
        }
        return h.longValue();
    }

    // ---- refusals

    @Sentence(promise = 0, says = "they change nothing")
    static void refusalsWithoutABarn(Due due) {
        BarnSummers x = new BarnSummers();
        x.letter('s');
        long before = x.digest();
        int[] got = {x.letter(0), x.letter(127), x.barn(), x.cart(0, 0), x.as(0, 0), x.bay(0, 0), x.cut(0, 1), x.day(),
            x.turn(0), x.rain(0, 0), x.lasts(1), x.plan(1, 0), x.share(2), x.burnt(0), x.see(0, 1, 0), x.winters(1, 0, 0),
            x.image(), x.restore(), x.count(13)};
        int[] want = {OUTSIDE, OUTSIDE, STATE, UNKNOWN, UNKNOWN, UNKNOWN, UNKNOWN, STATE,
            UNKNOWN, UNKNOWN, STATE, STATE, STATE, STATE, UNKNOWN, STATE,
            STATE, STATE, OUTSIDE};
        for (int k = 0; k < want.length; k++) {
            due.is("call " + k, got[k], want[k]);
        }
        due.is("digest()", x.digest(), before);
        due.is("fault()", x.fault(), 1);
    }

    @Sentence(promise = 0, says = "they change nothing")
    static void refusalsWithABarn(Due due) {
        BarnSummers x = Barns.of("s55,m93;c24,o71;s10");
        x.day();
        x.image();
        long kept = x.digest();
        x.cut(2, 1);
        Barns.write(x, "s55,s93;s24,s71;s1x");
        for (int many = 0; many < 6; many++) {
            x.see(0, 9, 30);
        }
        long before = x.digest();
        int[][] got = {
            {x.letter(0), OUTSIDE}, {x.letter(127), OUTSIDE}, {x.barn(), STATE},
            {x.cart(5, 0), UNKNOWN}, {x.cart(0, 9), OUTSIDE}, {x.as(-1, 0), UNKNOWN}, {x.as(0, 5), OUTSIDE},
            {x.bay(3, 0), UNKNOWN}, {x.bay(0, 5), OUTSIDE},
            {x.cut(3, 1), UNKNOWN}, {x.cut(0, 4), OUTSIDE}, {x.cut(0, 0), OUTSIDE}, {x.cut(2, 1), STATE},
            {x.turn(3), UNKNOWN}, {x.turn(2), STATE},
            {x.rain(5, 1), UNKNOWN}, {x.rain(0, 10), OUTSIDE}, {x.rain(0, -1), OUTSIDE}, {x.rain(4, 1), STATE},
            {x.lasts(7), OUTSIDE}, {x.plan(5, 0), OUTSIDE}, {x.plan(1, 1), OUTSIDE}, {x.share(4), OUTSIDE},
            {x.burnt(21), OUTSIDE}, {x.see(5, 1, 1), UNKNOWN}, {x.see(0, 10, 1), OUTSIDE}, {x.see(0, 1, 31), OUTSIDE},
            {x.see(4, 1, 1), STATE}, {x.see(0, 1, 1), FULL},
            {x.winters(61, 0, 0), OUTSIDE}, {x.winters(1, -1, 0), OUTSIDE}, {x.winters(1, 0, 3), OUTSIDE},
            {x.count(-1), OUTSIDE}};
        for (int k = 0; k < got.length; k++) {
            due.is("call " + k, got[k][0], got[k][1]);
        }
        due.is("digest()", x.digest(), before);
        x.blank();
        due.is("restore()", x.restore(), 1);
        due.is("the image is as it was", x.digest(), kept);
    }

    @Sentence(promise = 0, says = "they change nothing")
    static void refusalsOfTheFull(Due due) {
        BarnSummers x = Barns.of("s90;s90");
        for (int done = 0; done < 12; done++) {
            x.share(2);
        }
        for (int many = 0; many < 38; many++) {
            x.letter('s');
        }
        long before = x.digest();
        due.is("share(2)", x.share(2), STATE);
        due.is("letter('s')", x.letter('s'), FULL);
        due.is("barn()", x.barn(), STATE);
        due.is("restore()", x.restore(), STATE);
        due.is("digest()", x.digest(), before);
    }
}
