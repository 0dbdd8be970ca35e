/** The edges of promises 13 to 16: how long it lasts, plans, shares, what would burn. */
public final class WouldBeEdgesTest {
    private static final int NONE = -1, OUTSIDE = -102, STATE = -103;
    private static final int LOW = Integer.MIN_VALUE, HIGH = Integer.MAX_VALUE;
    private static final String DRY_AND_FULL = "s90,s90,s90;s90,s90,s90;s90,s90,s90";

    public static void main(String[] args) throws Exception {
        Sentences.run(WouldBeEdgesTest.class);
    }

    // ---- 13

    @Sentence(promise = 13, says = "OUTSIDE: much (1 to 6)")
    static void lastsForTooMuchOrTooLittle(Due due) {
        BarnSummers x = Barns.of("s90;s90");
        for (int much : new int[] {LOW, -1, 0, 7, HIGH}) {
            due.is("lasts(" + much + ")", x.lasts(much), OUTSIDE);
        }
        due.is("lasts(1)", x.lasts(1), 18);
        due.is("lasts(6)", x.lasts(6), 3);
    }

    @Sentence(promise = 13, says = "STATE: no BARN")
    static void lastsWithoutABarn(Due due) {
        BarnSummers x = new BarnSummers();
        due.is("lasts(1)", x.lasts(1), STATE);
        due.is("lasts(6)", x.lasts(6), STATE);
        due.is("outside ahead of state", x.lasts(7), OUTSIDE);
        due.is("outside ahead of state, below", x.lasts(0), OUTSIDE);
    }

    @Sentence(promise = 0, says = "till together they GAVE as much, or more")
    static void whatIsMoreIsNotKept(Due due) {
        BarnSummers x = Barns.of("o20;o20");
        due.is("lasts(1), of slices that give 2", x.lasts(1), 4);
        due.is("lasts(2)", x.lasts(2), 4);
        due.is("lasts(3)", x.lasts(3), 2);
        due.is("lasts(4)", x.lasts(4), 2);
        due.is("lasts(5)", x.lasts(5), 1);
    }

    @Sentence(promise = 0, says = "till all is GONE, or a DAY has not enough (100 at most)")
    static void theLastDay(Due due) {
        due.is("just enough", Barns.of("s10;s10").lasts(2), 1);
        due.is("one too few", Barns.of("s10;s10").lasts(3), 0);
        due.is("not enough on the second", Barns.of("s20;s10").lasts(2), 1);
        due.is("just enough on the second", Barns.of("s20;s20").lasts(2), 2);
    }

    @Sentence(promise = 0, says = "till all is GONE, or a DAY has not enough (100 at most)")
    static void lastsWithAllGone(Due due) {
        BarnSummers x = Barns.of("s10;s10");
        x.cut(0, 1);
        x.cut(1, 1);
        due.is("lasts(1)", x.lasts(1), 0);
        due.is("lasts(6)", x.lasts(6), 0);
    }

    @Sentence(promise = 0, says = "till all is GONE, or a DAY has not enough (100 at most)")
    static void melancholyAloneIsNeverEnough(Due due) {
        due.is("lasts(1)", Barns.of("m90;m90").lasts(1), 0);
    }

    @Sentence(promise = 0, says = "till all is GONE, or a DAY has not enough (100 at most)")
    static void lastsAHundredDaysAtMost(Due due) throws ReflectiveOperationException {
        due.is("of the most light there is", Barns.of(DRY_AND_FULL).lasts(1), 81);
        int[] lights = {98, 99, 100, 120};
        int[] days = {99, 100, 100, 100};
        for (int k = 0; k < lights.length; k++) {
            BarnSummers x = Barns.of("s90;s10");
            Inside.setLight(x, 0, lights[k]);
            due.is("with light " + lights[k] + " and 1", x.lasts(1), days[k]);
        }
    }

    @Sentence(promise = 0, says = "each DAY, ahead of what it brings, as much is needed")
    static void cutAheadOfTheFire(Due due) {
        BarnSummers x = Barns.of("s10;s10");
        Barns.warm(x, 0, 29);
        x.rain(0, 1);
        due.is("it would burn on the first", x.burnt(1), 1);
        due.is("lasts(1)", x.lasts(1), 2);
    }

    @Sentence(promise = 0, says = "each DAY, ahead of what it brings, as much is needed")
    static void whatBurnsFeedsNobody(Due due) {
        BarnSummers x = Barns.of("s90;s90");
        Barns.warm(x, 0, 29);
        x.rain(0, 1);
        due.is("the other bay's and one slice", x.lasts(1), 10);
    }

    @Sentence(promise = 0, says = "each of the BAY whose top one is least LIGHT now (of like ones the first one)")
    static void theFirstOfLikeTops(Due due) {
        due.is("clover ahead of a plain one", Barns.of("c30;s30,s10").lasts(2), 4);
        due.is("a plain one ahead of clover", Barns.of("s30,s10;c30").lasts(2), 5);
    }

    // ---- 14

    @Sentence(promise = 14, says = "OUTSIDE: days (1 to 4), what")
    static void plansForTooManyOrTooFewDays(Due due) {
        BarnSummers x = Barns.of("s90;s90");
        for (int days : new int[] {LOW, -1, 0, 5, HIGH}) {
            due.is("plan(" + days + ", 0)", x.plan(days, 0), OUTSIDE);
            due.is("plan(" + days + ", 10)", x.plan(days, 10), OUTSIDE);
        }
        due.is("plan(1, 0)", x.plan(1, 0), 18);
        due.is("plan(4, 0)", x.plan(4, 0), 18);
    }

    @Sentence(promise = 14, says = "OUTSIDE: days (1 to 4), what")
    static void planWhatsOutside(Due due) {
        BarnSummers x = Barns.of("s90;s90");
        for (int what : new int[] {LOW, -1, 1, 4, 9, 14, HIGH}) {
            due.is("plan(1, " + what + ")", x.plan(1, what), OUTSIDE);
            due.is("plan(4, " + what + ")", x.plan(4, what), OUTSIDE);
        }
    }

    @Sentence(promise = 14, says = "STATE: no BARN")
    static void planWithoutABarn(Due due) {
        BarnSummers x = new BarnSummers();
        due.is("plan(1, 0)", x.plan(1, 0), STATE);
        due.is("plan(1, 13)", x.plan(1, 13), STATE);
        due.is("outside ahead of state", x.plan(0, 0), OUTSIDE);
        due.is("outside ahead of state, by days", x.plan(5, 0), OUTSIDE);
        due.is("outside ahead of state, by what", x.plan(1, 9), OUTSIDE);
        due.is("outside ahead of state, by what above", x.plan(1, 14), OUTSIDE);
    }

    @Sentence(promise = 14, says = "10 to 13 the BAY of the so-manieth DAY (NONE: nothing, or there are not so many)")
    static void planOfDaysThatAreNot(Due due) {
        BarnSummers x = Barns.of("s90;o90");
        for (int days = 1; days <= 4; days++) {
            for (int day = 0; day < 4; day++) {
                int bay = day >= days ? NONE : days == 4 && day == 0 ? 0 : 1;
                due.is("plan(" + days + ", 1" + day + ")", x.plan(days, 10 + day), bay);
            }
        }
    }

    @Sentence(promise = 14, says = "10 to 13 the BAY of the so-manieth DAY (NONE: nothing, or there are not so many)")
    static void planOnceAllIsGone(Due due) {
        planIs(due, Barns.of("s10;s10"), 2, 0, 1, NONE, NONE);
        planIs(due, Barns.of("s10;s10;s10"), 3, 0, 1, 2, NONE);
    }

    @Sentence(promise = 0, says = "PLAN for so many DAYS (1 to 4)")
    static void planOfTheFewestAndTheMostDays(Due due) {
        int[] much = {16, 19, 22, 25};
        for (int days = 1; days <= 4; days++) {
            due.is("plan(" + days + ", 0)", Barns.of("o90;m10,o30").plan(days, 0), much[days - 1]);
        }
    }

    @Sentence(promise = 0, says = "a SLICE of 3 is cut there (none has: nothing)")
    static void planWithAllGone(Due due) {
        BarnSummers x = Barns.of("s10;s10");
        x.cut(0, 1);
        x.cut(1, 1);
        planIs(due, x, 0, NONE, NONE, NONE, NONE);
    }

    @Sentence(promise = 0, says = "each DAY one BAY that has LIGHT is chosen")
    static void planMustCutWhatGivesNothing(Due due) {
        due.is("how much of two melancholy ones", Barns.of("m40;m50").plan(1, 0), 6);
        due.is("of like ones the first", Barns.of("m40;m50").plan(1, 10), 0);
    }

    @Sentence(promise = 0, says = "each DAY one BAY that has LIGHT is chosen")
    static void planThatIsWorthNothing(Due due) {
        planIs(due, Barns.of("m10;m10"), 0, 0, 1, NONE, NONE);
        planIs(due, Barns.of("m30;m20;m10"), 0, 0, 1, 2, NONE);
    }

    @Sentence(promise = 0, says = "each DAY one BAY that has LIGHT is chosen")
    static void planPassesAnEmptyBay(Due due) {
        BarnSummers x = Barns.of("s10;s90;s10");
        x.cut(0, 1);
        planIs(due, x, 10, 1, 1, 1, 2);
        due.is("for one day", x.plan(1, 10), 1);
    }

    @Sentence(promise = 0, says = "of like ones the first by numbers (nothing ahead of all)")
    static void theFirstOfLikePlans(Due due) {
        planIs(due, Barns.of("s90;s90;s90"), 27, 0, 0, 0, 1);
        planIs(due, Barns.of(DRY_AND_FULL), 81, 0, 0, 0, 0);
        due.is("one day", Barns.of("s50;s50").plan(1, 10), 0);
    }

    @Sentence(promise = 0, says = "so that most is GIVEN by all SLICES, and what all are LIGHT in the end, together")
    static void planByWhatBurns(Due due) {
        BarnSummers x = Barns.of("s90;s90");
        Barns.warm(x, 1, 29);
        x.rain(1, 1);
        due.is("what burns is cut first", x.plan(1, 10), 1);
        due.is("it gives 3, the other one stays", x.plan(1, 0), 12);
    }

    private static void planIs(Due due, BarnSummers x, int much, int... bays) {
        due.is("plan(4, 0)", x.plan(4, 0), much);
        for (int day = 0; day < 4; day++) {
            due.is("plan(4, 1" + day + ")", x.plan(4, 10 + day), bays[day]);
        }
    }

    // ---- 15

    @Sentence(promise = 15, says = "OUTSIDE: many (2, 3)")
    static void sharesAmongTooManyOrTooFew(Due due) {
        BarnSummers x = Barns.of("s90;s90");
        for (int many : new int[] {LOW, -1, 0, 1, 4, HIGH}) {
            due.is("share(" + many + ")", x.share(many), OUTSIDE);
        }
        due.is("none is done", x.count(12), 0);
        due.is("share(2)", x.share(2), 9);
        due.is("share(3)", x.share(3), 0);
    }

    @Sentence(promise = 15, says = "STATE: no BARN, or share() was done 12 times ever (refusals do not count, all else does)")
    static void shareWithoutABarn(Due due) {
        BarnSummers x = new BarnSummers();
        due.is("share(2)", x.share(2), STATE);
        due.is("share(3)", x.share(3), STATE);
        due.is("outside ahead of state", x.share(1), OUTSIDE);
        due.is("outside ahead of state, above", x.share(4), OUTSIDE);
        due.is("none is done", x.count(12), 0);
    }

    @Sentence(promise = 15, says = "share() was done 12 times ever (refusals do not count, all else does)")
    static void theTwelfthAndTheThirteenthShare(Due due) {
        BarnSummers x = Barns.of("s90;s80");
        for (int done = 1; done <= 12; done++) {
            due.is("the " + done, x.share(2), 8);
            due.is("count(12)", x.count(12), done);
        }
        due.is("the 13th", x.share(2), STATE);
        due.is("the 13th, among three", x.share(3), STATE);
        due.is("outside ahead of state", x.share(4), OUTSIDE);
        due.is("count(12) then", x.count(12), 12);
    }

    @Sentence(promise = 15, says = "share() was done 12 times ever (refusals do not count, all else does)")
    static void refusedSharesDoNotCount(Due due) {
        BarnSummers x = new BarnSummers();
        for (int again = 0; again < 20; again++) {
            x.share(2);
            x.share(1);
        }
        Barns.read(x, "s90;s80");
        for (int again = 0; again < 20; again++) {
            x.share(4);
        }
        for (int done = 1; done <= 12; done++) {
            due.is("the " + done, x.share(3), 0);
        }
        due.is("the 13th", x.share(3), STATE);
    }

    @Sentence(promise = 15, says = "share() was done 12 times ever (refusals do not count, all else does)")
    static void sharesAreCountedForEver(Due due) {
        BarnSummers x = Barns.of("s90;s80");
        x.image();
        for (int done = 0; done < 6; done++) {
            x.share(2);
        }
        x.restore();
        due.is("behind restore()", x.count(12), 6);
        Barns.read(x, "s90;s80");
        due.is("with another barn", x.count(12), 6);
        for (int done = 0; done < 6; done++) {
            due.is("share(2)", x.share(2), 8);
        }
        due.is("the 13th", x.share(2), STATE);
        Barns.read(x, "s90;s80");
        due.is("the 13th with another barn", x.share(2), STATE);
    }

    @Sentence(promise = 15, says = "share() was done 12 times ever (refusals do not count, all else does)")
    static void digestIsNoShare(Due due) {
        BarnSummers x = Barns.of("s90;s80");
        for (int again = 0; again < 20; again++) {
            x.digest();
        }
        due.is("count(12)", x.count(12), 0);
        due.is("share(2)", x.share(2), 8);
    }

    @Sentence(promise = 0, says = "are given to so many, each whole, so that he who has least LIGHT has most")
    static void fewerCartsThanMen(Due due) {
        BarnSummers x = Barns.of("s90;s90");
        due.is("two among three", x.share(3), 0);
        x.cut(0, 3);
        due.is("6 and 9 among two", x.share(2), 6);
        Barns.clear(x, 0);
        due.is("one among two", x.share(2), 0);
        Barns.clear(x, 1);
        due.is("none among two", x.share(2), 0);
        due.is("none among three", x.share(3), 0);
    }

    @Sentence(promise = 0, says = "SHARE for so many (2 or 3): all CARTS that are not GONE are given to so many, each whole")
    static void sharesOfTheMostAndTheLeast(Due due) {
        BarnSummers x = Barns.of(DRY_AND_FULL);
        due.is("nine of 9 among two", x.share(2), 36);
        due.is("nine of 9 among three", x.share(3), 27);
        x = Barns.of("s10;s10;s10");
        due.is("three of 1 among two", x.share(2), 1);
        due.is("three of 1 among three", x.share(3), 1);
        x = Barns.of("s90;s10,s10,s10");
        due.is("a large one among two", x.share(2), 3);
        due.is("a large one among three", x.share(3), 1);
        x = Barns.of("s10;s90;s90");
        due.is("a small one among two", x.share(2), 9);
        due.is("a small one among three", x.share(3), 1);
        x = Barns.of("s50;s30;s70");
        due.is("one each among three", x.share(3), 3);
        due.is("the same again", x.share(3), 3);
        Barns.read(x, "s90;s90");
        due.is("two among three, behind three", x.share(3), 0);
    }

    // ---- 16

    @Sentence(promise = 16, says = "OUTSIDE: days (0 to 20)")
    static void burntBehindTooManyOrTooFewDays(Due due) {
        BarnSummers x = Barns.of("c19;s10");
        for (int days : new int[] {LOW, -1, 21, HIGH}) {
            due.is("burnt(" + days + ")", x.burnt(days), OUTSIDE);
        }
        due.is("burnt(0)", x.burnt(0), 0);
        due.is("burnt(20)", x.burnt(20), 1);
    }

    @Sentence(promise = 16, says = "STATE: no BARN")
    static void burntWithoutABarn(Due due) {
        BarnSummers x = new BarnSummers();
        due.is("burnt(0)", x.burnt(0), STATE);
        due.is("burnt(20)", x.burnt(20), STATE);
        due.is("outside ahead of state", x.burnt(21), OUTSIDE);
        due.is("outside ahead of state, below", x.burnt(-1), OUTSIDE);
    }

    @Sentence(promise = 0, says = "BURNT behind so many DAYS (0 to 20), if nothing is cut")
    static void burntOnTheTwentiethDay(Due due) {
        BarnSummers x = Barns.of("s10;s10,s90");
        Barns.warm(x, 1, 9);
        x.rain(1, 1);
        due.is("29 behind 20", x.burnt(20), 0);
        x.day();
        due.is("29 behind 19", x.burnt(19), 0);
        due.is("30 behind 20, with what lies on it", x.burnt(20), 6);
    }

    @Sentence(promise = 0, says = "which CARTS are GONE then that are not now, as bits")
    static void burntTellsNotWhatIsGoneNow(Due due) {
        BarnSummers x = Barns.of("s10,s10;c19,s10;c16");
        x.cut(0, 1);
        due.is("behind 1", x.burnt(1), 0);
        due.is("behind 2", x.burnt(2), 4 + 8);
        due.is("behind 3", x.burnt(3), 4 + 8 + 16);
        Barns.days(x, 2);
        due.is("behind 0, with some gone", x.burnt(0), 0);
        due.is("behind 1, with some gone", x.burnt(1), 16);
    }

    @Sentence(promise = 0, says = "which CARTS are GONE then that are not now, as bits")
    static void burntOfAllAndOfNone(Due due) {
        due.is("of all", Barns.of("s59,s59,s59;s59,s59,s59;s59,s59,s59").burnt(20), 511);
        due.is("of none", Barns.of(DRY_AND_FULL).burnt(20), 0);
        BarnSummers x = Barns.of("c19;c19");
        Barns.days(x, 2);
        due.is("with all gone", x.burnt(20), 0);
    }

    @Sentence(promise = 0, says = "---- what would be")
    static void whatWouldBeIsNotDone(Due due) {
        BarnSummers x = Barns.of("c39,s55;s28,m30;o61,a91");
        x.day();
        x.see(0, 1, 3);
        long before = x.digest();
        for (int much = 1; much <= 6; much++) {
            x.lasts(much);
            due.is("behind lasts(" + much + ")", x.digest(), before);
        }
        for (int days = 1; days <= 4; days++) {
            x.plan(days, 0);
            due.is("behind plan(" + days + ", 0)", x.digest(), before);
        }
        x.burnt(20);
        due.is("behind burnt(20)", x.digest(), before);
        x.winters(60, 7, 0);
        due.is("behind winters(60, 7, 0)", x.digest(), before);
        x.share(3);
        due.is("behind share(3), but for count(12)", x.digest() - 1, before);
    }
}
