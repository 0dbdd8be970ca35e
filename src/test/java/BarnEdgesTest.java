/** The edges of promises 1 to 8: the page, the barn, its carts and its bays. */
public final class BarnEdgesTest {
    private static final int NONE = -1, UNKNOWN = -101, OUTSIDE = -102, STATE = -103, FULL = -104;
    private static final int LOW = Integer.MIN_VALUE, HIGH = Integer.MAX_VALUE;
    private static final String LARGEST = "s52,c91,m33;o74,a60,s28;s95,m42,c61";
    private static final int[] CART_WHATS = {0, 1, 2, 3, 4, 5, 6, 7, 8, 10, 11, 12};
    private static final int[] BAY_WHATS = {0, 1, 2, 3, 4, 10, 11, 12};

    public static void main(String[] args) throws Exception {
        Sentences.run(BarnEdgesTest.class);
    }

    // ---- 1

    @Sentence(promise = 1, says = "No BARN.")
    static void withoutABarnAllIsNone(Due due) {
        BarnSummers x = new BarnSummers();
        for (int what = 0; what <= 12; what++) {
            due.is("count(" + what + ")", x.count(what), 0);
        }
        due.is("blank()", x.blank(), 0);
        due.is("fault()", x.fault(), 0);
        due.is("forget()", x.forget(), 0);
    }

    @Sentence(promise = 1, says = "No BARN.")
    static void withoutABarnNoNumberNamesACart(Due due) {
        BarnSummers x = new BarnSummers();
        due.is("cart(0, 0)", x.cart(0, 0), UNKNOWN);
        due.is("as(0, 0)", x.as(0, 0), UNKNOWN);
        due.is("rain(0, 0)", x.rain(0, 0), UNKNOWN);
        due.is("see(0, 1, 0)", x.see(0, 1, 0), UNKNOWN);
        due.is("bay(0, 0)", x.bay(0, 0), UNKNOWN);
        due.is("cut(0, 1)", x.cut(0, 1), UNKNOWN);
        due.is("turn(0)", x.turn(0), UNKNOWN);
    }

    @Sentence(promise = 1, says = "No BARN.")
    static void onePageIsNotAnothers(Due due) {
        BarnSummers x = Barns.of("s19;s19");
        x.letter('s');
        BarnSummers y = new BarnSummers();
        due.is("count(1) of another object", y.count(1), 0);
        due.is("count(10) of another object", y.count(10), 0);
        due.is("count(11) of another object", y.count(11), 0);
    }

    // ---- 2

    @Sentence(promise = 2, says = "OUTSIDE: code (1 to 126)")
    static void codesOutside(Due due) {
        BarnSummers x = new BarnSummers();
        for (int code : new int[] {LOW, -1, 0, 127, 128, 255, 256 + 's', HIGH}) {
            due.is("letter(" + code + ")", x.letter(code), OUTSIDE);
        }
        due.is("the page is empty still", x.count(10), 0);
    }

    @Sentence(promise = 2, says = "OUTSIDE: code (1 to 126)")
    static void codesInside(Due due) {
        for (int code = 1; code <= 126; code++) {
            due.is("letter(" + code + ")", new BarnSummers().letter(code), 1);
        }
    }

    @Sentence(promise = 2, says = "FULL: above 38")
    static void aFullPage(Due due) {
        BarnSummers x = fullPage();
        due.is("the 39th", x.letter('s'), FULL);
        due.is("the 39th again", x.letter(1), FULL);
        due.is("count(10)", x.count(10), 38);
        x.blank();
        due.is("letter() behind blank()", x.letter('s'), 1);
    }

    @Sentence(promise = 2, says = "how many THE PAGE has")
    static void upToAFullPage(Due due) {
        BarnSummers x = new BarnSummers();
        for (int many = 1; many <= 38; many++) {
            due.is("letter() of the " + many, x.letter('x'), many);
        }
    }

    @Sentence(promise = 2, says = "OUTSIDE: code (1 to 126); FULL: above 38")
    static void outsideAheadOfFull(Due due) {
        BarnSummers x = fullPage();
        due.is("letter(0)", x.letter(0), OUTSIDE);
        due.is("letter(127)", x.letter(127), OUTSIDE);
    }

    private static BarnSummers fullPage() {
        BarnSummers x = new BarnSummers();
        for (int many = 0; many < 38; many++) {
            x.letter('s');
        }
        return x;
    }

    // ---- 3

    @Sentence(promise = 3, says = "THE PAGE is empty: how many letters it had.")
    static void blankOfAnEmptyPage(Due due) {
        BarnSummers x = new BarnSummers();
        due.is("blank()", x.blank(), 0);
        due.is("blank() again", x.blank(), 0);
    }

    @Sentence(promise = 3, says = "THE PAGE is empty: how many letters it had.")
    static void blankOfAFullPage(Due due) {
        BarnSummers x = fullPage();
        due.is("blank()", x.blank(), 38);
        due.is("count(10)", x.count(10), 0);
        due.is("fault()", x.fault(), 0);
        due.is("blank() again", x.blank(), 0);
    }

    @Sentence(promise = 3, says = "THE PAGE is empty: how many letters it had.")
    static void blankBehindBarn(Due due) {
        BarnSummers x = Barns.of("s10;s10");
        due.is("blank()", x.blank(), 0);
        due.is("the barn stays", x.count(1), 2);
    }

    // ---- 4

    @Sentence(promise = 4, says = "how many letters it has, if there is none")
    static void faultOfEachBeginning(Due due) {
        for (int length = 0; length <= LARGEST.length(); length++) {
            due.is("fault() of the first " + length, Barns.faultOf(LARGEST.substring(0, length)), length);
        }
    }

    @Sentence(promise = 4, says = "of the first letter of THE PAGE that no BARN has there, behind those ahead of it")
    static void faultAtEachPlace(Due due) {
        for (int place = 0; place < LARGEST.length(); place++) {
            String text = LARGEST.substring(0, place) + "!" + LARGEST.substring(place + 1);
            due.is("fault() of " + text, Barns.faultOf(text), place);
        }
    }

    @Sentence(promise = 4, says = "of the first letter of THE PAGE that no BARN has there, behind those ahead of it")
    static void theFirstOfSeveralFaults(Due due) {
        due.is("fault() of two", Barns.faultOf("s1!!10"), 2);
        due.is("fault() at the first place", Barns.faultOf("!s10;s10"), 0);
        due.is("what is right behind a fault counts not", Barns.faultOf("s10!;s10"), 3);
    }

    @Sentence(promise = 4, says = "of the first letter of THE PAGE that no BARN has there, behind those ahead of it")
    static void nothingGoesBehindTheLargest(Due due) {
        for (char code = 1; code <= 126; code++) {
            due.is("fault() with " + (int) code + " behind it", Barns.faultOf(LARGEST + code), 35);
        }
        due.is("fault() of a full page", Barns.faultOf(LARGEST + ",s1"), 35);
    }

    @Sentence(promise = 4, says = "of the first letter of THE PAGE that no BARN has there, behind those ahead of it")
    static void behindAFullBayComesTheNext(Due due) {
        due.is("a comma behind three carts", Barns.faultOf("s10,s10,s10,"), 11);
        due.is("a semicolon behind three carts", Barns.faultOf("s10,s10,s10;"), 12);
        due.is("a comma in the third bay", Barns.faultOf("s10;s10;s10,"), 12);
        due.is("a semicolon in the third bay", Barns.faultOf("s10;s10;s10;"), 11);
        due.is("a semicolon behind two carts of the third bay", Barns.faultOf("s10;s10;s10,s10;"), 15);
    }

    // ---- 5

    @Sentence(promise = 5, says = "STATE: it is none.")
    static void barnOfEachBeginning(Due due) {
        for (int length = 0; length <= LARGEST.length(); length++) {
            boolean whole = length >= 15 && length % 4 == 3;
            BarnSummers x = new BarnSummers();
            int got = Barns.read(x, LARGEST.substring(0, length));
            due.is("barn() of the first " + length, got, whole ? (length + 1) / 4 : STATE);
            due.is("the page of the first " + length, x.count(10), whole ? 0 : length);
        }
    }

    @Sentence(promise = 5, says = "STATE: it is none.")
    static void barnOfTooLong(Due due) {
        due.is("barn() with a sign more", Barns.readOf(LARGEST + ","), STATE);
        due.is("barn() with a letter more", Barns.readOf(LARGEST + "s"), STATE);
        due.is("barn() of a full page", Barns.readOf(LARGEST + ",s1"), STATE);
        due.is("barn() of a blank at the end", Barns.readOf("s10;s10 "), STATE);
    }

    @Sentence(promise = 5, says = "STATE: it is none.")
    static void aRefusedBarnChangesNothing(Due due) {
        BarnSummers x = Barns.of("s19;s10");
        x.day();
        x.image();
        Barns.write(x, "s10;");
        long before = x.digest();
        due.is("barn()", x.barn(), STATE);
        due.is("digest()", x.digest(), before);
        due.is("the image is kept", x.restore(), 1);
        Barns.write(x, "s10");
        due.is("the page goes on", x.barn(), 2);
    }

    @Sentence(promise = 5, says = "(another one is gone, with all that was)")
    static void anotherBarn(Due due) {
        BarnSummers x = Barns.of("c19,c19;o99;s10");
        x.cut(1, 3);
        x.see(2, 1, 1);
        x.image();
        Barns.days(x, 2);
        due.is("it burnt", x.count(8), 2);
        x.share(2);
        due.is("barn()", Barns.read(x, "s10;s20"), 2);
        int[] counts = {2, 2, 2, 3, 0, 0, 0, 0, 0, 0, 0, 2, 1};
        for (int what = 0; what <= 12; what++) {
            due.is("count(" + what + ")", x.count(what), counts[what]);
        }
        due.is("its third cart is gone", x.cart(2, 0), UNKNOWN);
        due.is("its third bay is gone", x.bay(2, 0), UNKNOWN);
        due.is("its image is gone", x.restore(), STATE);
    }

    @Sentence(promise = 5, says = "(another one is gone, with all that was)")
    static void theSameTextAgain(Due due) {
        BarnSummers x = Barns.of("s29,s25;s13");
        long before = x.digest();
        x.turn(0);
        x.cut(0, 1);
        x.day();
        x.see(0, 1, 1);
        Barns.read(x, "s29,s25;s13");
        due.is("count(11)", x.count(11), 2);
        // count(11) stands one place ahead of the end
        due.is("all else is as at first", x.digest() - 31, before);
    }

    @Sentence(promise = 5, says = "THE PAGE is empty then")
    static void thePageIsEmptyThen(Due due) {
        BarnSummers x = Barns.of(LARGEST);
        due.is("count(10)", x.count(10), 0);
        due.is("barn() of the empty page", x.barn(), STATE);
        due.is("letter()", x.letter('s'), 1);
    }

    // ---- 6

    @Sentence(promise = 6, says = "UNKNOWN; OUTSIDE.")
    static void cartsThatAreNone(Due due) {
        BarnSummers x = Barns.of("s10,s10;s10");
        for (int cart : new int[] {LOW, -1, 3, 9, HIGH}) {
            for (int what : new int[] {0, 4, 7, 9, 13, -1}) {
                due.is("cart(" + cart + ", " + what + ")", x.cart(cart, what), UNKNOWN);
            }
        }
        due.is("the last of the largest", Barns.of(LARGEST).cart(8, 0), 2);
        due.is("behind the last of the largest", Barns.of(LARGEST).cart(9, 0), UNKNOWN);
    }

    @Sentence(promise = 6, says = "UNKNOWN; OUTSIDE.")
    static void cartWhatsOutside(Due due) {
        BarnSummers x = Barns.of("s10,s10;s10");
        x.cut(1, 1);
        for (int cart = 0; cart < 3; cart++) {
            for (int what : new int[] {LOW, -1, 9, 13, HIGH}) {
                due.is("cart(" + cart + ", " + what + ")", x.cart(cart, what), OUTSIDE);
            }
        }
    }

    @Sentence(promise = 6, says = "3 WARM (0 for 1 to 3: it is GONE)")
    static void aCutCartIsDryAndCold(Due due) {
        BarnSummers x = goneByASlice();
        for (int what = 1; what <= 3; what++) {
            due.is("cart(1, " + what + ")", x.cart(1, what), 0);
        }
    }

    @Sentence(promise = 6, says = "3 WARM (0 for 1 to 3: it is GONE)")
    static void aBurntCartIsDryAndCold(Due due) {
        BarnSummers x = goneByFire();
        for (int cart = 0; cart < 2; cart++) {
            for (int what = 1; what <= 3; what++) {
                due.is("cart(" + cart + ", " + what + ")", x.cart(cart, what), 0);
            }
        }
    }

    @Sentence(promise = 6, says = "what = 0 KIND")
    static void whatIsGoneHasItsKindAndBay(Due due) {
        BarnSummers x = goneByFire();
        due.is("kind of what burns", x.cart(0, 0), 2);
        due.is("kind of what lay on it", x.cart(1, 0), 4);
        x = Barns.of("s10;s10,o10");
        x.cut(1, 1);
        due.is("kind of what is cut", x.cart(2, 0), 1);
        due.is("bay of what is cut", x.cart(2, 4), 1);
    }

    @Sentence(promise = 6, says = "5 how many that are not GONE lie on it (NONE: it is GONE)")
    static void howManyLieOnIt(Due due) {
        BarnSummers x = Barns.of("s10,s10,s10;s10");
        due.is("on the lowest", x.cart(0, 5), 2);
        due.is("on the top", x.cart(2, 5), 0);
        x.cut(0, 1);
        due.is("on what is gone", x.cart(2, 5), NONE);
        due.is("on the lowest then", x.cart(0, 5), 1);
        x.turn(0);
        due.is("on the lowest, turned", x.cart(0, 5), 0);
        due.is("on the other, turned", x.cart(1, 5), 1);
    }

    @Sentence(promise = 6, says = "6 how much more WARM it would be by a DAY (0: it is GONE)")
    static void byADayWhatIsGone(Due due) {
        due.is("cut", goneByASlice().cart(1, 6), 0);
        due.is("burnt", goneByFire().cart(0, 6), 0);
    }

    @Sentence(promise = 6, says = "8 FEEL (NONE; for both: it is GONE: NONE)")
    static void feltWhatIsGone(Due due) {
        due.is("wets, cut", goneByASlice().cart(1, 7), NONE);
        due.is("feel, cut", goneByASlice().cart(1, 8), NONE);
        due.is("wets, burnt", goneByFire().cart(0, 7), NONE);
        due.is("feel, burnt", goneByFire().cart(0, 8), NONE);
        due.is("wets of the one that is left", goneByASlice().cart(0, 7), 1023);
    }

    @Sentence(promise = 6, says = "10 to 12 what a SLICE of 1 to 3 of it would GIVE now, if it was on top (NONE: it is GONE)")
    static void sliceOfWhatIsGone(Due due) {
        for (int what = 10; what <= 12; what++) {
            due.is("cut, " + what, goneByASlice().cart(1, what), NONE);
            due.is("burnt, " + what, goneByFire().cart(1, what), NONE);
        }
    }

    @Sentence(promise = 6, says = "10 to 12 what a SLICE of 1 to 3 of it would GIVE now, if it was on top (NONE: it is GONE)")
    static void sliceOfWhatIsUnder(Due due) {
        BarnSummers x = Barns.of("a20,s90;s10");
        due.is("of 1", x.cart(0, 10), 3);
        due.is("of 2", x.cart(0, 11), 5);
        due.is("of 3, of which it has 2", x.cart(0, 12), 5);
        x.turn(0);
        x.cut(0, 1);
        due.is("of 3, with 1 left", x.cart(0, 12), 3);
        due.is("of 1, with 1 left", x.cart(0, 10), 3);
    }

    /** Cart 1, wet and warm, is cut away; cart 0 lies under it. */
    private static BarnSummers goneByASlice() {
        BarnSummers x = Barns.of("s10,s19;s10");
        x.day();
        x.cut(0, 1);
        return x;
    }

    /** Cart 0, clover, burns with cart 1, an ancient one, on it. */
    private static BarnSummers goneByFire() {
        BarnSummers x = Barns.of("c19,a19;s10");
        Barns.days(x, 2);
        return x;
    }

    // ---- 7

    @Sentence(promise = 7, says = "UNKNOWN; OUTSIDE.")
    static void asOfNoCart(Due due) {
        BarnSummers x = Barns.of("s10;a10");
        for (int cart : new int[] {LOW, -1, 2, HIGH}) {
            for (int kind : new int[] {0, 4, -1, 5}) {
                due.is("as(" + cart + ", " + kind + ")", x.as(cart, kind), UNKNOWN);
            }
        }
    }

    @Sentence(promise = 7, says = "UNKNOWN; OUTSIDE.")
    static void asOfNoKind(Due due) {
        BarnSummers x = Barns.of("s10;a10");
        for (int kind : new int[] {LOW, -1, 5, HIGH}) {
            due.is("as(0, " + kind + ")", x.as(0, kind), OUTSIDE);
            due.is("as(1, " + kind + ")", x.as(1, kind), OUTSIDE);
        }
    }

    @Sentence(promise = 7, says = "NONE: it is none such (the cast fails)")
    static void asThatFails(Due due) {
        String kinds = "socma";
        for (int own = 0; own < 5; own++) {
            BarnSummers x = Barns.of("s10;" + kinds.charAt(own) + "10");
            for (int kind = 0; kind < 5; kind++) {
                boolean such = kind == 0 || kind == own || (own == 4 && kind == 1);
                due.is(kinds.charAt(own) + " as " + kind, x.as(1, kind), such ? 1 : NONE);
            }
        }
    }

    @Sentence(promise = 7, says = "its own number, not that of the KIND")
    static void asOfTheLastCart(Due due) {
        BarnSummers x = Barns.of(LARGEST);
        due.is("as(8, 0)", x.as(8, 0), 8);
        due.is("as(8, 2)", x.as(8, 2), 8);
        due.is("as(0, 0)", x.as(0, 0), 0);
    }

    @Sentence(promise = 0, says = "All are SUMMERS; an ANCIENT one is OLD, too.")
    static void anOldOneIsNotAncient(Due due) {
        BarnSummers x = Barns.of("o10;a10");
        due.is("an old one as ancient", x.as(0, 4), NONE);
        due.is("an ancient one as old", x.as(1, 1), 1);
        due.is("an ancient one as a summer", x.as(1, 0), 1);
    }

    // ---- 8

    @Sentence(promise = 8, says = "UNKNOWN; OUTSIDE.")
    static void baysThatAreNone(Due due) {
        BarnSummers x = Barns.of("s10;s10");
        for (int bay : new int[] {LOW, -1, 2, 3, HIGH}) {
            for (int what : new int[] {0, 3, 12, -1, 5, 13}) {
                due.is("bay(" + bay + ", " + what + ")", x.bay(bay, what), UNKNOWN);
            }
        }
        due.is("bay(2, 0) of three", Barns.of("s10;s10;s10").bay(2, 0), 1);
        due.is("bay(3, 0) of three", Barns.of("s10;s10;s10").bay(3, 0), UNKNOWN);
    }

    @Sentence(promise = 8, says = "UNKNOWN; OUTSIDE.")
    static void bayWhatsOutside(Due due) {
        BarnSummers x = Barns.of("s10;s10");
        x.cut(1, 1);
        for (int bay = 0; bay < 2; bay++) {
            for (int what : new int[] {LOW, -1, 5, 6, 7, 8, 9, 13, HIGH}) {
                due.is("bay(" + bay + ", " + what + ")", x.bay(bay, what), OUTSIDE);
            }
        }
    }

    @Sentence(promise = 8, says = "1 the CART on top (NONE)")
    static void anEmptyBay(Due due) {
        BarnSummers x = Barns.of("s19,s19;s10");
        Barns.clear(x, 0);
        int[] told = {0, NONE, 0, 0, 0, NONE, NONE, NONE};
        for (int k = 0; k < BAY_WHATS.length; k++) {
            due.is("bay(0, " + BAY_WHATS[k] + ")", x.bay(0, BAY_WHATS[k]), told[k]);
        }
    }

    @Sentence(promise = 8, says = "1 the CART on top (NONE)")
    static void aBurntBay(Due due) {
        BarnSummers x = goneByFire();
        int[] told = {0, NONE, 0, 0, 0, NONE, NONE, NONE};
        for (int k = 0; k < BAY_WHATS.length; k++) {
            due.is("bay(0, " + BAY_WHATS[k] + ")", x.bay(0, BAY_WHATS[k]), told[k]);
        }
    }

    @Sentence(promise = 8, says = "10 to 12 the CART at a place (0 the lowest) of those that are not GONE (NONE)")
    static void placesAboveTheTop(Due due) {
        BarnSummers x = Barns.of("s10;s10,s10;s10,s10,s10");
        int[][] told = {{0, NONE, NONE}, {1, 2, NONE}, {3, 4, 5}};
        for (int bay = 0; bay < 3; bay++) {
            for (int place = 0; place < 3; place++) {
                due.is("bay(" + bay + ", 1" + place + ")", x.bay(bay, 10 + place), told[bay][place]);
            }
        }
        x.cut(2, 1);
        due.is("bay(2, 12), cut", x.bay(2, 12), NONE);
        due.is("bay(2, 11), cut", x.bay(2, 11), 4);
    }

    @Sentence(promise = 0, says = "so that in 10 DAYS, if nothing is cut, nothing of it BURNS")
    static void safeOnTheTenthDay(Due due) {
        BarnSummers x = Barns.of("s10,s90;s10");
        Barns.warm(x, 0, 9);
        x.rain(0, 2);
        due.is("29 behind 10 days", x.bay(0, 3), 0);
        due.is("29 behind 10 days, its light", x.bay(0, 4), 0);
        Barns.warm(x, 0, 1);
        x.rain(0, 2);
        due.is("30 behind 10 days", x.bay(0, 3), 1);
        due.is("30 behind 10 days, its light", x.bay(0, 4), 1);
    }

    @Sentence(promise = 0, says = "the one with least LIGHT together; of like ones the least, as bits by their place in it (0 the lowest)")
    static void safeOfLikeOnes(Due due) {
        BarnSummers x = Barns.of("o39,o39;s10");
        due.is("either of two", x.bay(0, 3), 1);
        due.is("either of two, its light", x.bay(0, 4), 3);
        // without the old one, or without both clovers; a clover under the old one burns
        x = Barns.of("c11,c11,o29;s10");
        due.is("the two lower ones or the top", x.bay(0, 3), 3);
        due.is("the two lower ones or the top, its light", x.bay(0, 4), 2);
        x = Barns.of("c11,c11,o19;s10");
        due.is("the top alone is less light", x.bay(0, 3), 4);
        due.is("the top alone, its light", x.bay(0, 4), 1);
    }

    @Sentence(promise = 0, says = "the one with least LIGHT together; of like ones the least, as bits by their place in it (0 the lowest)")
    static void safeByPlace(Due due) {
        BarnSummers x = Barns.of("s90,s13;s10");
        due.is("on top it dries", x.bay(0, 3), 0);
        x.turn(0);
        due.is("turned, cart 1 lies at place 0", x.bay(0, 3), 1);
        due.is("its light", x.bay(0, 4), 1);
    }

    @Sentence(promise = 0, says = "could be taken out now (all others sink)")
    static void safeWithoutAny(Due due) {
        BarnSummers x = Barns.of("c99,c89,c79;s10");
        due.is("all must go", x.bay(0, 3), 7);
        due.is("its light", x.bay(0, 4), 24);
        due.is("nothing is taken out by it", x.bay(0, 0), 3);
        x = Barns.of("s10;c99,c99,c99");
        due.is("all of the fullest must go", x.bay(1, 3), 7);
        due.is("its light, the most there is", x.bay(1, 4), 27);
    }

    @Sentence(promise = 8, says = "2 LIGHT of all")
    static void lightOfTheFullestBay(Due due) {
        BarnSummers x = Barns.of("s90,s90,s90;s10");
        due.is("bay(0, 2)", x.bay(0, 2), 27);
        due.is("bay(1, 2)", x.bay(1, 2), 1);
        x.cut(1, 3);
        due.is("bay(1, 2), cut", x.bay(1, 2), 0);
    }

    @Sentence(promise = 0, says = "a number names nothing")
    static void everyWhatOfEveryCartAnswers(Due due) {
        BarnSummers x = Barns.of(LARGEST);
        for (int cart = 0; cart < 9; cart++) {
            for (int what : CART_WHATS) {
                due.holds("cart(" + cart + ", " + what + ") is told", x.cart(cart, what) >= NONE);
            }
        }
        for (int bay = 0; bay < 3; bay++) {
            for (int what : BAY_WHATS) {
                due.holds("bay(" + bay + ", " + what + ") is told", x.bay(bay, what) >= NONE);
            }
        }
    }
}
