/** The edges of promises 17 to 19: what is seen, how wet a cart can be by it, winters. */
public final class SeenEdgesTest {
    private static final int NONE = -1, UNKNOWN = -101, OUTSIDE = -102, STATE = -103, FULL = -104;
    private static final int LOW = Integer.MIN_VALUE, HIGH = Integer.MAX_VALUE;
    private static final int ALL_WETS = 1023;

    public static void main(String[] args) throws Exception {
        Sentences.run(SeenEdgesTest.class);
    }

    // ---- 17

    @Sentence(promise = 17, says = "UNKNOWN: cart")
    static void seeOfNoCart(Due due) {
        BarnSummers x = Barns.of("s10,s10;s10");
        for (int cart : new int[] {LOW, -1, 3, 9, HIGH}) {
            due.is("see(" + cart + ", 1, 0)", x.see(cart, 1, 0), UNKNOWN);
        }
        due.is("nothing is seen", x.count(9), 0);
        due.is("see(2, 1, 0)", x.see(2, 1, 0), 1);
    }

    @Sentence(promise = 17, says = "OUTSIDE: day (1 to 9), warm (0 to 30)")
    static void seeOnADayOutside(Due due) {
        BarnSummers x = Barns.of("s10;s10");
        for (int day : new int[] {LOW, -1, 0, 10, HIGH}) {
            due.is("see(0, " + day + ", 0)", x.see(0, day, 0), OUTSIDE);
        }
        due.is("see(0, 1, 0)", x.see(0, 1, 0), 1);
        due.is("see(0, 9, 0)", x.see(0, 9, 0), 2);
    }

    @Sentence(promise = 17, says = "OUTSIDE: day (1 to 9), warm (0 to 30)")
    static void seeAWarmthOutside(Due due) {
        BarnSummers x = Barns.of("s10;s10");
        for (int warm : new int[] {LOW, -1, 31, HIGH}) {
            due.is("see(0, 1, " + warm + ")", x.see(0, 1, warm), OUTSIDE);
        }
        due.is("see(0, 1, 0)", x.see(0, 1, 0), 1);
        due.is("see(0, 1, 30)", x.see(0, 1, 30), 2);
    }

    @Sentence(promise = 17, says = "STATE: it is GONE")
    static void seeOfWhatIsGone(Due due) {
        BarnSummers x = Barns.of("s10,s10;c19,s10");
        x.cut(0, 1);
        due.is("of what is cut", x.see(1, 1, 0), STATE);
        Barns.days(x, 2);
        due.is("of what burnt", x.see(2, 1, 0), STATE);
        due.is("of what lay on it", x.see(3, 1, 0), STATE);
        due.is("nothing is seen", x.count(9), 0);
        due.is("of what is left", x.see(0, 1, 0), 1);
    }

    @Sentence(promise = 17, says = "STATE: it is GONE; FULL.")
    static void theSixthAndTheSeventh(Due due) {
        BarnSummers x = Barns.of("s10;s10");
        for (int many = 1; many <= 6; many++) {
            due.is("see() of the " + many, x.see(many & 1, many, 0), many);
        }
        due.is("see() of the 7th", x.see(0, 1, 5), FULL);
        due.is("see() of the 7th of another", x.see(1, 1, 5), FULL);
        due.is("count(9)", x.count(9), 6);
        due.is("wets by the six alone", x.cart(0, 7), 1);
        x.forget();
        due.is("see() behind forget()", x.see(0, 1, 0), 1);
    }

    @Sentence(promise = 17, says = "UNKNOWN: cart; OUTSIDE: day (1 to 9), warm (0 to 30); STATE: it is GONE; FULL.")
    static void seeRefusalsInOrder(Due due) {
        BarnSummers x = Barns.of("s10;s10");
        for (int many = 1; many <= 6; many++) {
            x.see(0, 1, 0);
        }
        x.cut(1, 1);
        due.is("unknown ahead of outside", x.see(2, 0, 31), UNKNOWN);
        due.is("unknown ahead of full", x.see(-1, 1, 0), UNKNOWN);
        due.is("outside by day ahead of state", x.see(1, 10, 0), OUTSIDE);
        due.is("outside by warm ahead of state", x.see(1, 1, 31), OUTSIDE);
        due.is("outside ahead of full", x.see(0, 0, 0), OUTSIDE);
        due.is("state ahead of full", x.see(1, 1, 0), STATE);
        due.is("full", x.see(0, 1, 0), FULL);
    }

    @Sentence(promise = 0, says = "SEEN (6 at most)")
    static void whatIsSeenOfTheGoneTakesRoom(Due due) {
        BarnSummers x = Barns.of("s10;s10");
        for (int many = 1; many <= 6; many++) {
            x.see(1, 1, 0);
        }
        x.cut(1, 1);
        due.is("count(9)", x.count(9), 6);
        due.is("see(0, 1, 0)", x.see(0, 1, 0), FULL);
    }

    // ---- wets and feel

    @Sentence(promise = 0, says = "WETS (0 to 9) it can be now, all else as it is, so that all that is SEEN of it is so: as bits")
    static void theLeastAndTheMostWet(Due due) {
        wetsIs(due, "s15;s10", 1, 0, 1);
        wetsIs(due, "s15;s10", 1, 9, 1 << 9);
        wetsIs(due, "s15;s10", 1, 10, 0);
        wetsIs(due, "s15,s11;s10", 1, 0, 0);
        wetsIs(due, "s15,s11;s10", 1, 1, 1);
        wetsIs(due, "s15,s11;s10", 1, 10, 1 << 9);
        due.is("with nothing seen", Barns.of("s15;s10").cart(0, 7), ALL_WETS);
    }

    @Sentence(promise = 0, says = "WETS (0 to 9) it can be now, all else as it is, so that all that is SEEN of it is so: as bits")
    static void wetsOfAMelancholyOne(Due due) {
        wetsIs(due, "m15;s10", 9, 0, ALL_WETS);
        wetsIs(due, "m15;s10", 1, 1, 0);
    }

    @Sentence(promise = 0, says = "WETS (0 to 9) it can be now, all else as it is, so that all that is SEEN of it is so: as bits")
    static void wetsByWhatLiesOnIt(Due due) {
        BarnSummers x = Barns.of("s10,s10;s10");
        x.see(0, 1, 1);
        due.is("under a dry one", x.cart(0, 7), 1 << 1);
        x.rain(1, 5);
        due.is("under a wet one", x.cart(0, 7), 1);
        x.cut(0, 1);
        due.is("on top", x.cart(0, 7), 1 << 1);
        x.rain(0, 7);
        due.is("whatever it is in truth", x.cart(0, 7), 1 << 1);
    }

    @Sentence(promise = 0, says = "behind so many DAYS from now (counted from what is as it is asked, not as it was SEEN) (1 to 9)")
    static void behindTheNinthDay(Due due) {
        wetsIs(due, "s10;s10", 9, 10, 1 << 4);
        wetsIs(due, "s10;s10", 9, 28, 1 << 7);
        wetsIs(due, "s10,s90;s10", 9, 27, 1 << 3);
        wetsIs(due, "s10,s90;s10", 9, 9, 1 << 1);
    }

    @Sentence(promise = 0, says = "behind so many DAYS from now (counted from what is as it is asked, not as it was SEEN) (1 to 9)")
    static void countedFromWhatIsAsked(Due due) {
        BarnSummers x = Barns.of("s14;s10");
        x.see(0, 1, 9);
        due.is("cold", x.cart(0, 7), 1 << 9);
        x.day();
        due.is("warm by 4", x.cart(0, 7), 1 << 5);
        x.rain(0, 5);
        x.day();
        due.is("warm by 9", x.cart(0, 7), 1);
        x.rain(0, 1);
        x.day();
        due.is("warm by 10", x.cart(0, 7), 0);
        x.turn(0);
        due.is("cold once it is turned", x.cart(0, 7), 1 << 9);
    }

    @Sentence(promise = 0, says = "(30 and more are told as 30)")
    static void thirtyAndMore(Due due) {
        BarnSummers x = Barns.of("s10;s10");
        Barns.warm(x, 0, 25);
        x.see(0, 1, 30);
        due.is("by 30", x.cart(0, 7), 992);
        x.forget();
        x.see(0, 1, 29);
        due.is("by 29", x.cart(0, 7), 1 << 4);
        wetsIs(due, "s10;s10", 9, 30, 768);
        wetsIs(due, "c10,s90;s10", 9, 30, 1020);
    }

    @Sentence(promise = 0, says = "if nothing is cut and nothing BURNS, ever")
    static void nothingBurnsAsItIsFelt(Due due) {
        // the clover under it would burn on the second day, and it with it
        BarnSummers x = Barns.of("c99,s15;s10");
        x.see(1, 5, 15);
        due.is("wets", x.cart(1, 7), 1 << 5);
        due.is("feel", x.cart(1, 8), 1);
        // clover on top would burn, and then wet it no more
        x = Barns.of("s10,c19;s10");
        x.see(0, 9, 9);
        due.is("wets under what would burn", x.cart(0, 7), 1);
    }

    @Sentence(promise = 0, says = "behind which DAY from now (1 to 9) to feel it, so that fewest of these are left at worst, by how WARM it is: of like ones the least")
    static void theLeastOfLikeDays(Due due) {
        due.is("every day tells all", Barns.of("s10,s90;s10").cart(0, 8), 1);
        due.is("no day tells anything", Barns.of("m10;s10").cart(0, 8), 1);
        due.is("0 and 1 are never told apart", Barns.of("o10;s10").cart(0, 8), 1);
        BarnSummers x = Barns.of("s10;s10");
        x.see(0, 1, 3);
        due.is("one is left", x.cart(0, 8), 1);
    }

    @Sentence(promise = 0, says = "behind which DAY from now (1 to 9) to feel it, so that fewest of these are left at worst, by how WARM it is: of like ones the least")
    static void theNinthDay(Due due) {
        // 3, 4, 5 and 6 are alike under what is wet; only the ninth day finds it dry
        BarnSummers x = Barns.of("a10,s18;s10");
        x.see(0, 1, 1);
        due.is("wets", x.cart(0, 7), 120);
        due.is("feel", x.cart(0, 8), 9);
        x = Barns.of("a10,s19;s10");
        x.see(0, 1, 1);
        due.is("the tenth would, and is none: feel", x.cart(0, 8), 1);
    }

    @Sentence(promise = 0, says = "(30 and more are told as 30)")
    static void feelWhereSomeAreToldAs30(Due due) {
        BarnSummers x = Barns.of("a10;s10");
        for (int days = 0; days < 14; days++) {
            x.rain(0, days == 0 ? 4 : 9);
            x.day();
        }
        due.is("warm", x.cart(0, 3), 27);
        x.see(0, 1, 28);
        due.is("wets", x.cart(0, 7), 240);
        // behind the third day 4 is told as 28, 5 as 29, 6 and 7 as 30; it gets no better
        due.is("feel", x.cart(0, 8), 3);
        due.is("feel, asked again", x.cart(0, 8), 3);
    }

    @Sentence(promise = 0, says = "none, if there are none")
    static void feelOfNoWets(Due due) {
        BarnSummers x = Barns.of("s10;s10");
        x.see(0, 1, 10);
        due.is("wets", x.cart(0, 7), 0);
        due.is("feel", x.cart(0, 8), NONE);
        due.is("feel of the other", x.cart(1, 8), 1);
    }

    private static void wetsIs(Due due, String text, int day, int warm, int wets) {
        BarnSummers x = Barns.of(text);
        x.see(0, day, warm);
        due.is("cart(0, 7) of " + text + " seen as " + warm + " behind " + day, x.cart(0, 7), wets);
        due.is("cart(1, 7) of " + text, x.cart(1, 7), ALL_WETS);
    }

    // ---- 18

    @Sentence(promise = 18, says = "Nothing is SEEN any more: how much was.")
    static void forgetNothing(Due due) {
        due.is("forget() without a barn", new BarnSummers().forget(), 0);
        BarnSummers x = Barns.of("s10;s10");
        due.is("forget() of nothing", x.forget(), 0);
        x.see(0, 1, 31);
        due.is("forget() of what was refused", x.forget(), 0);
    }

    @Sentence(promise = 18, says = "Nothing is SEEN any more: how much was.")
    static void forgetAllSix(Due due) {
        BarnSummers x = Barns.of("s10;s10");
        for (int many = 0; many < 6; many++) {
            x.see(0, 1, many);
        }
        due.is("forget()", x.forget(), 6);
        due.is("forget() again", x.forget(), 0);
        due.is("wets", x.cart(0, 7), ALL_WETS);
    }

    // ---- 19

    @Sentence(promise = 19, says = "OUTSIDE: days (1 to 60), seed (0 at least), what")
    static void wintersOfDaysOutside(Due due) {
        BarnSummers x = Barns.of("s90;s90");
        for (int days : new int[] {LOW, -1, 0, 61, HIGH}) {
            due.is("winters(" + days + ", 0, 2)", x.winters(days, 0, 2), OUTSIDE);
        }
        due.is("winters(1, 0, 2)", x.winters(1, 0, 2), 1406932606);
        due.is("winters(60, 0, 2)", x.winters(60, 0, 2), 2120877416);
    }

    @Sentence(promise = 19, says = "OUTSIDE: days (1 to 60), seed (0 at least), what")
    static void wintersOfSeedsOutside(Due due) {
        BarnSummers x = Barns.of("s90;s90");
        due.is("winters(1, -1, 2)", x.winters(1, -1, 2), OUTSIDE);
        due.is("winters(1, LOW, 2)", x.winters(1, LOW, 2), OUTSIDE);
        due.is("winters(1, 0, 0)", x.winters(1, 0, 0), 1);
        due.is("winters(1, HIGH, 0)", x.winters(1, HIGH, 0), 3);
    }

    @Sentence(promise = 19, says = "OUTSIDE: days (1 to 60), seed (0 at least), what")
    static void wintersWhatsOutside(Due due) {
        BarnSummers x = Barns.of("s90;s90");
        for (int what : new int[] {LOW, -1, 3, 10, HIGH}) {
            due.is("winters(1, 0, " + what + ")", x.winters(1, 0, what), OUTSIDE);
        }
    }

    @Sentence(promise = 19, says = "STATE: no BARN")
    static void wintersWithoutABarn(Due due) {
        BarnSummers x = new BarnSummers();
        for (int what = 0; what <= 2; what++) {
            due.is("winters(1, 0, " + what + ")", x.winters(1, 0, what), STATE);
        }
        due.is("outside ahead of state, by days", x.winters(0, 0, 0), OUTSIDE);
        due.is("outside ahead of state, by days above", x.winters(61, 0, 0), OUTSIDE);
        due.is("outside ahead of state, by seed", x.winters(1, -1, 0), OUTSIDE);
        due.is("outside ahead of state, by what", x.winters(1, 0, 3), OUTSIDE);
        due.is("outside ahead of state, by what below", x.winters(1, 0, -1), OUTSIDE);
    }

    @Sentence(promise = 0, says = "its rest by 2 to the 31")
    static void theHighestSeedWraps(Due due) {
        BarnSummers x = Barns.of("s90;s90");
        int[] seeds = {288979989, 1751031067, 1849869457, 2101342199};
        for (int days = 1; days <= 4; days++) {
            due.is("winters(" + days + ", HIGH, 2)", x.winters(days, HIGH, 2), seeds[days - 1]);
        }
        due.is("winters(60, HIGH, 2)", x.winters(60, HIGH, 2), 2141326983);
    }

    @Sentence(promise = 0, says = "how much more than 1 a SLICE is")
    static void wintersSlices(Due due) {
        BarnSummers x = Barns.of("s90;s90");
        int[] ofZero = {1, 3, 4, 6};
        int[] ofHighest = {3, 5, 7, 10};
        for (int days = 1; days <= 4; days++) {
            due.is("winters(" + days + ", 0, 0)", x.winters(days, 0, 0), ofZero[days - 1]);
            due.is("winters(" + days + ", HIGH, 0)", x.winters(days, HIGH, 0), ofHighest[days - 1]);
        }
    }

    @Sentence(promise = 0, says = "by a DRAW of how many BAYS there are of which it is cut, if that has LIGHT, then the DAY is")
    static void wintersOfAnEmptyBay(Due due) {
        BarnSummers x = Barns.of("s10;s90");
        x.cut(0, 1);
        due.is("the first slice falls on bay 0", x.winters(1, 0, 0), 0);
        due.is("the next ones on bay 1", x.winters(4, 0, 0), 5);
        due.is("the seed goes on", x.winters(4, 0, 2), 1293799192);
        Barns.clear(x, 1);
        due.is("with all gone, given", x.winters(60, 0, 0), 0);
        due.is("with all gone, burnt", x.winters(60, 0, 1), 0);
        due.is("with all gone, the seed", x.winters(60, 0, 2), 2120877416);
    }

    @Sentence(promise = 0, says = "by a DRAW of how many BAYS there are of which it is cut, if that has LIGHT, then the DAY is")
    static void wintersOfTwoAndOfThreeBays(Due due) {
        // by seed 1 the first slice, of 3, falls on bay 0 of two and on bay 1 of three
        due.is("of two", Barns.of("s90;o90").winters(1, 1, 0), 3);
        due.is("of three", Barns.of("s90;o90;c90").winters(1, 1, 0), 6);
        // the last of three bays by the highest seed
        due.is("the last of three", Barns.of("s90;o90;c90").winters(1, HIGH, 0), 4);
    }

    @Sentence(promise = 0, says = "how many CARTS BURNT (with those that were GONE by it)")
    static void wintersBurn(Due due) {
        BarnSummers x = Barns.of("c19,s90,s90;s90");
        due.is("none on the first", x.winters(1, 0, 1), 0);
        due.is("three on the second", x.winters(2, 0, 1), 3);
        due.is("no more later", x.winters(60, 0, 1), 3);
        Barns.days(x, 2);
        due.is("what burnt ahead of it counts not", x.winters(60, 0, 1), 0);
    }
}
