/** The edges that the Terms name of a BARN, of a SLICE, of a DAY and of a TURN. */
public final class TermsEdgesTest {
    private static final int NONE = -1, STATE = -103;
    private static final String KINDS = "socma";

    public static void main(String[] args) throws Exception {
        Sentences.run(TermsEdgesTest.class);
    }

    // ---- the text

    @Sentence(promise = 0, says = "An object is used for at most 512 calls after it has been made")
    static void the512thCallAnswers(Due due) {
        BarnSummers x = Barns.of("s90;s10");
        int callsDone = 9;
        for (int days = 0; days < 511 - callsDone; days++) {
            due.is("day()", x.day(), 0);
        }
        due.is("the 512th call, count(6)", x.count(6), 502);
    }

    @Sentence(promise = 0, says = "A BARN has 2 or 3 BAYS (numbered from 0)")
    static void oneBayIsTooFew(Due due) {
        due.is("barn() of one bay", Barns.readOf("s10"), STATE);
        due.is("barn() of one bay with all it can have", Barns.readOf("s10,s10,s10"), STATE);
        due.is("fault() of one bay, it can go on", Barns.faultOf("s10,s10,s10"), 11);
    }

    @Sentence(promise = 0, says = "A BARN has 2 or 3 BAYS (numbered from 0)")
    static void twoAndThreeBays(Due due) {
        due.is("count(0) of two", Barns.of("s10;s10").count(0), 2);
        due.is("count(0) of three", Barns.of("s10;s10;s10").count(0), 3);
    }

    @Sentence(promise = 0, says = "A BARN has 2 or 3 BAYS (numbered from 0)")
    static void fourBaysAreTooMany(Due due) {
        due.is("fault() at the third semicolon", Barns.faultOf("s10;s10;s10;s10"), 11);
        due.is("barn() of four", Barns.readOf("s10;s10;s10;s10"), STATE);
    }

    @Sentence(promise = 0, says = "in each 1 to 3 CARTS one on the other (0 the lowest)")
    static void aBayWithoutCarts(Due due) {
        due.is("fault() of an empty first bay", Barns.faultOf(";s10"), 0);
        due.is("fault() of an empty second bay", Barns.faultOf("s10;;s10"), 4);
        due.is("barn() of an empty last bay", Barns.readOf("s10;"), STATE);
        due.is("barn() of an empty third bay", Barns.readOf("s10;s10;"), STATE);
    }

    @Sentence(promise = 0, says = "in each 1 to 3 CARTS one on the other (0 the lowest)")
    static void threeCartsInEachBay(Due due) {
        due.is("barn() of the largest", Barns.readOf("s10,s10,s10;s10,s10,s10;s10,s10,s10"), 9);
        due.is("barn() of the smallest", Barns.readOf("s10;s10"), 2);
    }

    @Sentence(promise = 0, says = "in each 1 to 3 CARTS one on the other (0 the lowest)")
    static void aFourthCartInABay(Due due) {
        due.is("fault() in the first bay", Barns.faultOf("s10,s10,s10,s10;s10"), 11);
        due.is("fault() in the second bay", Barns.faultOf("s10;s10,s10,s10,s10"), 15);
        due.is("fault() in the third bay", Barns.faultOf("s10;s10;s10,s10,s10,"), 19);
        due.is("barn() of four in one", Barns.readOf("s10,s10,s10,s10;s10"), STATE);
    }

    @Sentence(promise = 0, says = "CARTS are numbered from 0, BAY by BAY, from the lowest on")
    static void cartsByNumber(Due due) {
        BarnSummers x = Barns.of("s10,s20,s30;s40;s50,s60,s70");
        int[] bays = {0, 0, 0, 1, 2, 2, 2};
        for (int cart = 0; cart < 7; cart++) {
            due.is("light of " + cart, x.cart(cart, 1), cart + 1);
            due.is("bay of " + cart, x.cart(cart, 4), bays[cart]);
        }
        due.is("the lowest of bay 2", x.bay(2, 10), 4);
        due.is("the top of bay 2", x.bay(2, 1), 6);
    }

    @Sentence(promise = 0, says = "LIGHT (1 to 9)")
    static void everyCodeAsLight(Due due) {
        for (char code = 1; code <= 126; code++) {
            due.is("fault() with light " + (int) code, Barns.faultOf("s" + code), code >= '1' && code <= '9' ? 2 : 1);
        }
        due.is("light 1", Barns.of("s10;s90").cart(0, 1), 1);
        due.is("light 9", Barns.of("s10;s90").cart(1, 1), 9);
    }

    @Sentence(promise = 0, says = "WET (0 to 9)")
    static void everyCodeAsWet(Due due) {
        for (char code = 1; code <= 126; code++) {
            due.is("fault() with wet " + (int) code, Barns.faultOf("s1" + code), code >= '0' && code <= '9' ? 3 : 2);
        }
        due.is("wet 0", Barns.of("s10;s19").cart(0, 2), 0);
        due.is("wet 9", Barns.of("s10;s19").cart(1, 2), 9);
    }

    @Sentence(promise = 0, says = "KINDS are told by the letter")
    static void everyCodeAsKind(Due due) {
        for (char code = 1; code <= 126; code++) {
            int place = KINDS.indexOf(code) >= 0 ? 1 : 0;
            due.is("fault() with kind " + (int) code, Barns.faultOf("" + code), place);
            due.is("fault() with a later kind " + (int) code, Barns.faultOf("s10," + code), 4 + place);
        }
        for (int kind = 0; kind < 5; kind++) {
            due.is("kind " + kind, Barns.of(KINDS.charAt(kind) + "10;s10").cart(0, 0), kind);
        }
    }

    @Sentence(promise = 0, says = "BAYS with \";\" between, in each CARTS with \",\" between")
    static void everyCodeBetween(Due due) {
        for (char code = 1; code <= 126; code++) {
            due.is("fault() with " + (int) code + " between", Barns.faultOf("s10" + code), code == ',' || code == ';' ? 4 : 3);
        }
    }

    @Sentence(promise = 0, says = "then nothing is cut, no CART is WARM, it is DAY 0")
    static void aNewBarn(Due due) {
        BarnSummers x = Barns.of("s19,s19;s10");
        for (int cart = 0; cart < 3; cart++) {
            due.is("warm of " + cart, x.cart(cart, 3), 0);
        }
        due.is("days", x.count(6), 0);
        due.is("given", x.count(7), 0);
        due.is("burnt", x.count(8), 0);
    }

    // ---- a slice

    @Sentence(promise = 0, says = "it has as much less LIGHT (0 at least)")
    static void lightBehindASliceOf3(Due due) {
        int[] left = {0, 0, 0, 1, 2};
        for (int light = 1; light <= 5; light++) {
            BarnSummers x = Barns.of("s10,s" + light + "0;s10");
            x.cut(0, 3);
            due.is("light behind a slice of 3 of " + light, x.cart(1, 1), left[light - 1]);
        }
    }

    @Sentence(promise = 0, says = "it has as much less LIGHT (0 at least)")
    static void theOneBelowLosesNothing(Due due) {
        BarnSummers x = Barns.of("s50,s10;s10");
        x.cut(0, 3);
        due.is("light of the one below", x.cart(0, 1), 5);
    }

    @Sentence(promise = 0, says = "with none it is GONE, and the one below it is on top")
    static void goneByASlice(Due due) {
        BarnSummers x = Barns.of("s10,s20;s10");
        x.cut(0, 1);
        due.is("with 1 left it is on top", x.bay(0, 1), 1);
        x.cut(0, 1);
        due.is("the one below is on top", x.bay(0, 1), 0);
        due.is("nothing lies on it", x.cart(0, 5), 0);
        due.is("one is not gone", x.bay(0, 0), 1);
        x.cut(0, 1);
        due.is("none is on top", x.bay(0, 1), NONE);
    }

    @Sentence(promise = 0, says = "What a SLICE GIVES is how much it was less")
    static void givesWhatThereIs(Due due) {
        givesIs(due, 's', 1, 1, 1, 1);
        givesIs(due, 's', 2, 1, 2, 2);
        givesIs(due, 's', 3, 1, 2, 3);
    }

    @Sentence(promise = 0, says = "of an OLD one twice as much")
    static void givesOfAnOldOne(Due due) {
        givesIs(due, 'o', 1, 2, 2, 2);
        givesIs(due, 'o', 2, 2, 4, 4);
        givesIs(due, 'o', 9, 2, 4, 6);
    }

    @Sentence(promise = 0, says = "of CLOVER 1 more")
    static void givesOfClover(Due due) {
        givesIs(due, 'c', 1, 2, 2, 2);
        givesIs(due, 'c', 2, 2, 3, 3);
        givesIs(due, 'c', 9, 2, 3, 4);
    }

    @Sentence(promise = 0, says = "of an ANCIENT one 1 more than of an OLD one")
    static void givesOfAnAncientOne(Due due) {
        givesIs(due, 'a', 1, 3, 3, 3);
        givesIs(due, 'a', 2, 3, 5, 5);
        givesIs(due, 'a', 9, 3, 5, 7);
    }

    @Sentence(promise = 0, says = "of a MELANCHOLY one nothing")
    static void givesOfAMelancholyOne(Due due) {
        givesIs(due, 'm', 1, 0, 0, 0);
        givesIs(due, 'm', 9, 0, 0, 0);
    }

    private static void givesIs(Due due, char kind, int light, int by1, int by2, int by3) {
        int[] gives = {by1, by2, by3};
        for (int much = 1; much <= 3; much++) {
            BarnSummers x = Barns.of("" + kind + light + "0;s10");
            String call = "a slice of " + much + " of " + kind + light;
            due.is(call + " would give", x.cart(0, 9 + much), gives[much - 1]);
            due.is(call, x.cut(0, much), gives[much - 1]);
            due.is(call + " in count(7)", x.count(7), gives[much - 1]);
        }
    }

    @Sentence(promise = 0, says = "each CART that is on top of another BAY is 1 less WET then (0 at least)")
    static void melancholyDriesTheOtherTops(Due due) {
        BarnSummers x = Barns.of("s19,m95;s19,s11;s12");
        int[][] wets = {{9, 5, 9, 0, 1}, {9, 5, 9, 0, 0}, {9, 5, 9, 0, 0}};
        for (int slices = 0; slices < 3; slices++) {
            x.cut(0, 3 - slices);
            for (int cart = 0; cart < 5; cart++) {
                due.is("wet of " + cart + " behind slice " + slices, x.cart(cart, 2), wets[slices][cart]);
            }
        }
    }

    @Sentence(promise = 0, says = "each CART that is on top of another BAY is 1 less WET then (0 at least)")
    static void melancholyThatIsGoneByItDriesToo(Due due) {
        BarnSummers x = Barns.of("s19,m15;s19");
        x.cut(0, 1);
        due.is("the other top", x.cart(2, 2), 8);
        due.is("the one that is on top now in its own bay", x.cart(0, 2), 9);
    }

    @Sentence(promise = 0, says = "each CART that is on top of another BAY is 1 less WET then (0 at least)")
    static void melancholyOfEachBay(Due due) {
        for (int bay = 0; bay < 3; bay++) {
            BarnSummers x = Barns.of("m95;m95;m95");
            x.cut(bay, 1);
            for (int cart = 0; cart < 3; cart++) {
                due.is("wet of " + cart + " behind cut(" + bay + ", 1)", x.cart(cart, 2), cart == bay ? 5 : 4);
            }
        }
    }

    @Sentence(promise = 0, says = "each CART that is on top of another BAY is 1 less WET then (0 at least)")
    static void melancholyBesideAnEmptyBay(Due due) {
        BarnSummers x = Barns.of("s19;m95;s15");
        Barns.clear(x, 0);
        due.is("cut(1, 1)", x.cut(1, 1), 0);
        due.is("wet of what is gone", x.cart(0, 2), 0);
        due.is("wet of the top behind the empty bay", x.cart(2, 2), 4);
    }

    // ---- a day

    @Sentence(promise = 0, says = "as much more WARM as it is WET, and 1 more for each that lies on it (not GONE) and is WET")
    static void warmByAll(Due due) {
        warmIs(due, "s10;s10", 0);
        warmIs(due, "s19;s10", 9);
        warmIs(due, "s19,s11,s19;s10", 11);
        warmIs(due, "s10,s11,s10;s10", 1);
        warmIs(due, "s10,s10,s11;s10", 1);
        warmIs(due, "s10,m11;s10", 1);
    }

    @Sentence(promise = 0, says = "as much more WARM as it is WET, and 1 more for each that lies on it (not GONE) and is WET")
    static void whatIsGoneWarmsNothing(Due due) {
        BarnSummers x = Barns.of("s13,s15,s19;s10");
        x.cut(0, 1);
        due.is("with one gone", x.cart(0, 6), 4);
        x.cut(0, 1);
        due.is("with two gone", x.cart(0, 6), 3);
        x.day();
        due.is("warm", x.cart(0, 3), 3);
    }

    @Sentence(promise = 0, says = "an OLD one half of that, rounded down")
    static void warmOfAnOldOne(Due due) {
        int[] gains = {0, 0, 1, 1, 2, 2, 3, 3, 4, 4};
        for (int wet = 0; wet <= 9; wet++) {
            warmIs(due, "o1" + wet + ";s10", gains[wet]);
        }
        warmIs(due, "o19,s11;s10", 5);
        warmIs(due, "o19,s11,s11;s10", 5);
    }

    @Sentence(promise = 0, says = "CLOVER twice that")
    static void warmOfClover(Due due) {
        warmIs(due, "c10;s10", 0);
        warmIs(due, "c11;s10", 2);
        warmIs(due, "c19,s11,s11;s10", 22);
    }

    @Sentence(promise = 0, says = "MELANCHOLY none")
    static void warmOfAMelancholyOne(Due due) {
        warmIs(due, "m19,s19,s19;s10", 0);
        BarnSummers x = Barns.of("m19,s90;s10");
        due.is("20 days", Barns.days(x, 20), 0);
        due.is("warm of it", x.cart(0, 3), 0);
    }

    @Sentence(promise = 0, says = "an ANCIENT one half of what an OLD one would be, rounded down")
    static void warmOfAnAncientOne(Due due) {
        int[] gains = {0, 0, 0, 0, 1, 1, 1, 1, 2, 2};
        for (int wet = 0; wet <= 9; wet++) {
            warmIs(due, "a1" + wet + ";s10", gains[wet]);
        }
        warmIs(due, "a19,s11,s11;s10", 2);
        warmIs(due, "a13,s11;s10", 1);
    }

    private static void warmIs(Due due, String text, int gain) {
        BarnSummers x = Barns.of(text);
        due.is("cart(0, 6) of " + text, x.cart(0, 6), gain);
        x.day();
        due.is("warm of " + text, x.cart(0, 3), gain);
    }

    @Sentence(promise = 0, says = "Who is WARM by 30, or more, BURNS")
    static void by29NothingBurns(Due due) {
        BarnSummers x = Barns.of("s10;s10");
        Barns.warm(x, 0, 28);
        x.rain(0, 1);
        due.is("day()", x.day(), 0);
        due.is("warm", x.cart(0, 3), 29);
        due.is("a dry day", x.day(), 0);
        due.is("warm then", x.cart(0, 3), 29);
    }

    @Sentence(promise = 0, says = "Who is WARM by 30, or more, BURNS")
    static void by30ItBurns(Due due) {
        BarnSummers x = Barns.of("s10;s10");
        Barns.warm(x, 0, 29);
        x.rain(0, 1);
        due.is("day()", x.day(), 1);
        due.is("light", x.cart(0, 1), 0);
    }

    @Sentence(promise = 0, says = "Who is WARM by 30, or more, BURNS")
    static void byMoreThan30ItBurns(Due due) {
        BarnSummers x = Barns.of("s10;s10");
        Barns.warm(x, 0, 29);
        x.rain(0, 9);
        due.is("day()", x.day(), 1);
        due.is("light", x.cart(0, 1), 0);
    }

    @Sentence(promise = 0, says = "it is GONE, and so is all that lies on it in that BAY")
    static void whatBurnsFromEachPlace(Due due) {
        for (int place = 0; place < 3; place++) {
            BarnSummers x = Barns.of("s10,s10,s10;s10,s10,s10");
            Barns.warm(x, 3 + place, 29);
            x.rain(3 + place, 1);
            // what lies under it is warmer by 1 only, and so stays
            due.is("day() with place " + place, x.day(), 3 - place);
            due.is("count(8) with place " + place, x.count(8), 3 - place);
            due.is("left of its bay with place " + place, x.bay(1, 0), place);
            due.is("left of the other bay with place " + place, x.bay(0, 0), 3);
            for (int cart = 3; cart < 6; cart++) {
                due.is("light of " + cart + " with place " + place, x.cart(cart, 1), cart < 3 + place ? 1 : 0);
            }
        }
    }

    @Sentence(promise = 0, says = "All become WARM first; then each BAY is looked at, from the lowest CART on.")
    static void whatBurnsWarmsThatDayToo(Due due) {
        BarnSummers x = Barns.of("s10,s10;s10");
        for (int days = 0; days < 3; days++) {
            x.rain(0, 8);
            x.rain(1, 9);
            x.day();
        }
        x.rain(0, 1);
        x.rain(1, 1);
        x.day();
        due.is("warm of the lower one", x.cart(0, 3), 29);
        due.is("warm of the upper one", x.cart(1, 3), 28);
        x.rain(0, 0);
        x.rain(1, 9);
        due.is("both burn", x.day(), 2);
        due.is("each is told once", x.count(8), 2);
    }

    @Sentence(promise = 0, says = "Then each CART that is on top is 1 less WET (0 at least).")
    static void tops(Due due) {
        BarnSummers x = Barns.of("s12,s11;s10;s12");
        int[][] wets = {{2, 0, 0, 1}, {2, 0, 0, 0}, {2, 0, 0, 0}};
        for (int days = 0; days < 3; days++) {
            x.day();
            for (int cart = 0; cart < 4; cart++) {
                due.is("wet of " + cart + " behind day " + days, x.cart(cart, 2), wets[days][cart]);
            }
        }
    }

    @Sentence(promise = 0, says = "Then each CART that is on top is 1 less WET (0 at least).")
    static void theOneThatIsOnTopByABurning(Due due) {
        BarnSummers x = Barns.of("s10,s10;s10");
        Barns.warm(x, 1, 29);
        x.rain(1, 1);
        x.rain(0, 5);
        due.is("the upper one burns", x.day(), 1);
        due.is("wet of the lower one", x.cart(0, 2), 4);
    }

    @Sentence(promise = 0, says = "Then each CART that is on top is 1 less WET (0 at least).")
    static void anEmptyBayHasNoTop(Due due) {
        BarnSummers x = Barns.of("s15;s15");
        Barns.clear(x, 0);
        due.is("day()", x.day(), 0);
        due.is("wet of what is gone", x.cart(0, 2), 0);
        due.is("wet of all", x.count(4), 4);
    }

    // ---- a turn

    @Sentence(promise = 0, says = "all its CARTS that are not GONE lie the other way about (the top one is the lowest)")
    static void turnOfThree(Due due) {
        BarnSummers x = Barns.of("s10,s20,s30;s40,s50");
        x.turn(0);
        orderIs(due, x, 0, 2, 1, 0);
        orderIs(due, x, 1, 3, 4, NONE);
        x.turn(0);
        orderIs(due, x, 0, 0, 1, 2);
    }

    @Sentence(promise = 0, says = "all its CARTS that are not GONE lie the other way about (the top one is the lowest)")
    static void turnWithSomeGone(Due due) {
        BarnSummers x = Barns.of("s10,s20,s10;s40");
        x.cut(0, 1);
        x.turn(0);
        orderIs(due, x, 0, 1, 0, NONE);
        x.cut(0, 1);
        x.turn(0);
        orderIs(due, x, 0, 1, NONE, NONE);
    }

    private static void orderIs(Due due, BarnSummers x, int bay, int... carts) {
        for (int place = 0; place < 3; place++) {
            due.is("bay(" + bay + ", 1" + place + ")", x.bay(bay, 10 + place), carts[place]);
        }
    }

    @Sentence(promise = 0, says = "none is WARM any more")
    static void turnedIsCold(Due due) {
        BarnSummers x = Barns.of("s19,s15;s14");
        x.day();
        x.turn(0);
        due.is("warm of the lower one", x.cart(0, 3), 0);
        due.is("warm of the upper one", x.cart(1, 3), 0);
        due.is("warm of the other bay", x.cart(2, 3), 4);
        due.is("wet stays", x.cart(0, 2), 9);
    }

    @Sentence(promise = 0, says = "none is WARM any more")
    static void turnedAheadOfTheFire(Due due) {
        BarnSummers x = Barns.of("s10;s10");
        Barns.warm(x, 0, 29);
        x.turn(0);
        x.rain(0, 9);
        due.is("day()", x.day(), 0);
        due.is("warm", x.cart(0, 3), 9);
    }
}
