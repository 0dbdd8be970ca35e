/** A barn of summers: what lies in it, what is done with it, and what would become of it. */
public final class BarnSummers {
    public static final int NONE = -1, UNKNOWN = -101, OUTSIDE = -102, STATE = -103, FULL = -104;

    private static final int MOST_BAYS = 3, MOST_HIGH = 3, MOST_CARTS = MOST_BAYS * MOST_HIGH;
    private static final int MOST_LIGHT = 9, MOST_WET = 9, MOST_SLICE = 3;
    private static final int BURNS_AT = 30;
    private static final int MOST_DAYS = 999, MOST_GIVEN = 9000, MOST_SHARES = 12;

    private final Page page = new Page();
    private final Barn now = new Barn();
    private final Barn kept = new Barn();
    private final Seen seen = new Seen();
    private final Seen keptSeen = new Seen();
    private final Foresight foresight = new Foresight();
    private final Feeling feeling = new Feeling();
    private final Sharing sharing = new Sharing();
    private boolean hasImage;
    private int barnsRead;
    private int sharesDone;

    public BarnSummers() {
    }

    // ---- the barn

    public int letter(int code) {
        if (code < 1 || code > 126) {
            return OUTSIDE;
        }
        if (page.size >= Page.ROOM) {
            return FULL;
        }
        page.append(code);
        return page.size;
    }

    public int blank() {
        int had = page.size;
        page.size = 0;
        return had;
    }

    public int fault() {
        return page.firstFault();
    }

    public int barn() {
        if (!page.isWhole()) {
            return STATE;
        }
        page.readInto(now);
        page.size = 0;
        seen.size = 0;
        hasImage = false;
        barnsRead++;
        return now.carts;
    }

    public int cart(int cart, int what) {
        if (isNoCart(cart)) {
            return UNKNOWN;
        }
        boolean gone = now.isGone(cart);
        switch (what) {
            case 0: return now.kind[cart];
            case 1: return now.light[cart];
            case 2: return now.wet[cart];
            case 3: return now.warm[cart];
            case 4: return now.home[cart];
            case 5: return gone ? NONE : now.howManyOn(cart);
            case 6: return gone ? 0 : now.gain(cart);
            case 7: return gone ? NONE : feeling.wets(now, seen, cart);
            case 8: return gone ? NONE : feeling.bestDay(now, seen, cart);
            case 10:
            case 11:
            case 12: return gone ? NONE : Kind.gives(now.kind[cart], Math.min(what - 9, now.light[cart]));
            default: return OUTSIDE;
        }
    }

    public int as(int cart, int kind) {
        if (isNoCart(cart)) {
            return UNKNOWN;
        }
        if (kind < 0 || kind >= Kind.MANY) {
            return OUTSIDE;
        }
        return Kind.isA(now.kind[cart], kind) ? cart : NONE;
    }

    public int bay(int bay, int what) {
        if (isNoBay(bay)) {
            return UNKNOWN;
        }
        switch (what) {
            case 0: return now.high[bay];
            case 1: return now.top(bay);
            case 2: return now.lightOf(bay);
            case 3: return foresight.safe(now, bay);
            case 4: return now.lightOfSome(bay, foresight.safe(now, bay));
            case 10:
            case 11:
            case 12: return now.at(bay, what - 10);
            default: return OUTSIDE;
        }
    }

    // ---- what is done

    public int cut(int bay, int much) {
        if (isNoBay(bay)) {
            return UNKNOWN;
        }
        if (much < 1 || much > MOST_SLICE) {
            return OUTSIDE;
        }
        if (now.high[bay] == 0) {
            return STATE;
        }
        if (now.given >= MOST_GIVEN) {
            return FULL;
        }
        return now.slice(bay, much);
    }

    public int day() {
        if (isNoBarn()) {
            return STATE;
        }
        if (now.days >= MOST_DAYS) {
            return FULL;
        }
        return now.passDay();
    }

    public int turn(int bay) {
        if (isNoBay(bay)) {
            return UNKNOWN;
        }
        if (now.high[bay] == 0) {
            return STATE;
        }
        now.turnOver(bay);
        return now.high[bay];
    }

    public int rain(int cart, int wet) {
        if (isNoCart(cart)) {
            return UNKNOWN;
        }
        if (wet < 0 || wet > MOST_WET) {
            return OUTSIDE;
        }
        if (now.isGone(cart)) {
            return STATE;
        }
        int was = now.wet[cart];
        now.wet[cart] = wet;
        return was;
    }

    // ---- what would be

    public int lasts(int much) {
        if (much < 1 || much > 6) {
            return OUTSIDE;
        }
        if (isNoBarn()) {
            return STATE;
        }
        return foresight.daysItLasts(now, much);
    }

    public int plan(int days, int what) {
        if (days < 1 || days > Foresight.PLAN_DAYS) {
            return OUTSIDE;
        }
        if (what != 0 && (what < 10 || what >= 10 + Foresight.PLAN_DAYS)) {
            return OUTSIDE;
        }
        if (isNoBarn()) {
            return STATE;
        }
        foresight.makePlan(now, days);
        return what == 0 ? foresight.bestMuch : foresight.plannedBay(days, what - 10);
    }

    public int share(int many) {
        if (many < 2 || many > 3) {
            return OUTSIDE;
        }
        if (isNoBarn() || sharesDone >= MOST_SHARES) {
            return STATE;
        }
        sharesDone++;
        return many == 2 ? sharing.amongTwo(now) : sharing.amongThree(now);
    }

    public int burnt(int days) {
        if (days < 0 || days > 20) {
            return OUTSIDE;
        }
        if (isNoBarn()) {
            return STATE;
        }
        return foresight.goneBehind(now, days);
    }

    // ---- what is seen

    public int see(int cart, int day, int warm) {
        if (isNoCart(cart)) {
            return UNKNOWN;
        }
        if (day < 1 || day > Feeling.DAYS || warm < 0 || warm > BURNS_AT) {
            return OUTSIDE;
        }
        if (now.isGone(cart)) {
            return STATE;
        }
        if (seen.size >= Seen.ROOM) {
            return FULL;
        }
        seen.append(cart, day, warm);
        return seen.size;
    }

    public int forget() {
        int was = seen.size;
        seen.size = 0;
        return was;
    }

    public int winters(int days, int seed, int what) {
        if (days < 1 || days > 60 || seed < 0 || what < 0 || what > 2) {
            return OUTSIDE;
        }
        if (isNoBarn()) {
            return STATE;
        }
        return foresight.winter(now, days, seed, what);
    }

    // ---- what is told of all

    public int image() {
        if (isNoBarn()) {
            return STATE;
        }
        kept.copyFrom(now);
        keptSeen.copyFrom(seen);
        hasImage = true;
        return now.days;
    }

    public int restore() {
        if (!hasImage) {
            return STATE;
        }
        now.copyFrom(kept);
        seen.copyFrom(keptSeen);
        return now.days;
    }

    public int count(int what) {
        switch (what) {
            case 0: return now.bays;
            case 1: return now.carts;
            case 2: return now.howManyLie();
            case 3: return now.lightOfAll();
            case 4: return now.wetOfAll();
            case 5: return now.mostWarm();
            case 6: return now.days;
            case 7: return now.given;
            case 8: return now.burnt;
            case 9: return seen.size;
            case 10: return page.size;
            case 11: return barnsRead;
            case 12: return sharesDone;
            default: return OUTSIDE;
        }
    }

    public long digest() {
        long h = 1201;
        for (int cart = 0; cart < now.carts; cart++) {
            for (int what = 0; what <= 12; what++) {
                h = what == 9 ? h : with(h, cart(cart, what));
            }
        }
        for (int bay = 0; bay < now.bays; bay++) {
            for (int what = 0; what <= 12; what++) {
                h = what > 4 && what < 10 ? h : with(h, bay(bay, what));
            }
        }
        if (!isNoBarn()) {
            h = with(h, foresight.daysItLasts(now, 2));
            foresight.makePlan(now, 2);
            h = with(h, foresight.bestMuch);
            h = with(h, foresight.plannedBay(2, 0));
            h = with(h, foresight.plannedBay(2, 1));
            h = with(h, foresight.goneBehind(now, 9));
        }
        for (int place = 0; place < page.size; place++) {
            h = with(h, page.letters[place]);
        }
        for (int what = 0; what <= 12; what++) {
            h = with(h, count(what));
        }
        return h;
    }

    private static long with(long h, int number) {
        return 31 * h + number;
    }

    private boolean isNoBarn() {
        return now.carts == 0;
    }

    private boolean isNoCart(int cart) {
        return cart < 0 || cart >= now.carts;
    }

    private boolean isNoBay(int bay) {
        return bay < 0 || bay >= now.bays;
    }

    /** The KINDS by number, and in what each differs from a plain SUMMER. */
    private static final class Kind {
        static final int MANY = 5;
        static final int SUMMER = 0, OLD = 1, CLOVER = 2, MELANCHOLY = 3, ANCIENT = 4;

        static int ofLetter(int letter) {
            switch (letter) {
                case 's': return SUMMER;
                case 'o': return OLD;
                case 'c': return CLOVER;
                case 'm': return MELANCHOLY;
                case 'a': return ANCIENT;
                default: return NONE;
            }
        }

        static boolean isA(int kind, int other) {
            return kind == other || other == SUMMER || (kind == ANCIENT && other == OLD);
        }

        static int gives(int kind, int less) {
            switch (kind) {
                case OLD: return 2 * less;
                case CLOVER: return less + 1;
                case MELANCHOLY: return 0;
                case ANCIENT: return 2 * less + 1;
                default: return less;
            }
        }

        static int warms(int kind, int damp) {
            switch (kind) {
                case OLD: return damp / 2;
                case CLOVER: return 2 * damp;
                case MELANCHOLY: return 0;
                // both halves are rounded down, the OLD one's first
                case ANCIENT: return damp / 2 / 2;
                default: return damp;
            }
        }
    }

    /** THE PAGE. A CART has three letters and a sign behind it: a place's rest by 4 tells what is due there. */
    private static final class Page {
        static final int ROOM = 38;

        final int[] letters = new int[ROOM];
        int size;

        void append(int code) {
            if (size < ROOM) {
                letters[size] = code;
                size++;
            }
        }

        int firstFault() {
            int bays = 1;
            int high = 1;
            for (int place = 0; place < size; place++) {
                int letter = letters[place];
                if (!isDue(place, letter, bays, high)) {
                    return place;
                }
                if (letter == ',') {
                    high++;
                } else if (letter == ';') {
                    bays++;
                    high = 1;
                }
            }
            return size;
        }

        static boolean isDue(int place, int letter, int bays, int high) {
            switch (place & 3) {
                case 0: return Kind.ofLetter(letter) != NONE;
                case 1: return letter >= '1' && letter <= '9';
                case 2: return letter >= '0' && letter <= '9';
                default: return (letter == ',' && high < MOST_HIGH) || (letter == ';' && bays < MOST_BAYS);
            }
        }

        boolean isWhole() {
            return (size & 3) == 3 && firstFault() == size && hasSecondBay();
        }

        boolean hasSecondBay() {
            for (int place = 0; place < size; place++) {
                if (letters[place] == ';') {
                    return true;
                }
            }
            return false;
        }

        void readInto(Barn barn) {
            barn.empty();
            int bay = 0;
            for (int place = 0; place + 2 < size; place += 4) {
                if (place > 0 && letters[place - 1] == ';') {
                    bay++;
                }
                barn.lay(bay, Kind.ofLetter(letters[place]), letters[place + 1] - '0', letters[place + 2] - '0');
            }
        }
    }

    /** How a BARN is. A CART is GONE just when it has no LIGHT; then it has no WET and is not WARM either. */
    private static final class Barn {
        int bays;
        int carts;
        int days;
        int given;
        int burnt;
        final int[] kind = new int[MOST_CARTS];
        final int[] home = new int[MOST_CARTS];
        final int[] light = new int[MOST_CARTS];
        final int[] wet = new int[MOST_CARTS];
        final int[] warm = new int[MOST_CARTS];
        /** Of each BAY how many CARTS lie in it. */
        final int[] high = new int[MOST_BAYS];
        /** The CARTS that lie in a BAY, from the lowest on; each BAY has MOST_HIGH places. */
        final int[] lies = new int[MOST_CARTS];

        void copyFrom(Barn other) {
            bays = other.bays;
            carts = other.carts;
            days = other.days;
            given = other.given;
            burnt = other.burnt;
            System.arraycopy(other.kind, 0, kind, 0, MOST_CARTS);
            System.arraycopy(other.home, 0, home, 0, MOST_CARTS);
            System.arraycopy(other.light, 0, light, 0, MOST_CARTS);
            System.arraycopy(other.wet, 0, wet, 0, MOST_CARTS);
            System.arraycopy(other.warm, 0, warm, 0, MOST_CARTS);
            System.arraycopy(other.high, 0, high, 0, MOST_BAYS);
            System.arraycopy(other.lies, 0, lies, 0, MOST_CARTS);
        }

        void empty() {
            bays = 0;
            carts = 0;
            days = 0;
            given = 0;
            burnt = 0;
            for (int bay = 0; bay < MOST_BAYS; bay++) {
                high[bay] = 0;
            }
        }

        void lay(int bay, int itsKind, int itsLight, int itsWet) {
            if (bay >= MOST_BAYS || high[bay] >= MOST_HIGH || carts >= MOST_CARTS) {
                return;
            }
            kind[carts] = itsKind;
            home[carts] = bay;
            light[carts] = itsLight;
            wet[carts] = itsWet;
            warm[carts] = 0;
            lies[bay * MOST_HIGH + high[bay]] = carts;
            high[bay]++;
            carts++;
            bays = bay + 1;
        }

        boolean isGone(int cart) {
            return light[cart] == 0;
        }

        int at(int bay, int place) {
            return place < 0 || place >= high[bay] ? NONE : lies[bay * MOST_HIGH + place];
        }

        int top(int bay) {
            return high[bay] == 0 ? NONE : lies[bay * MOST_HIGH + high[bay] - 1];
        }

        int placeOf(int cart) {
            int bay = home[cart];
            for (int place = 0; place < high[bay]; place++) {
                if (lies[bay * MOST_HIGH + place] == cart) {
                    return place;
                }
            }
            return NONE;
        }

        int howManyOn(int cart) {
            return high[home[cart]] - 1 - placeOf(cart);
        }

        int lightOf(int bay) {
            int sum = 0;
            for (int place = 0; place < high[bay]; place++) {
                sum += light[lies[bay * MOST_HIGH + place]];
            }
            return sum;
        }

        int lightOfSome(int bay, int places) {
            int sum = 0;
            for (int place = 0; place < high[bay]; place++) {
                if ((places >> place & 1) == 1) {
                    sum += light[lies[bay * MOST_HIGH + place]];
                }
            }
            return sum;
        }

        int lightOfAll() {
            int sum = 0;
            for (int cart = 0; cart < carts; cart++) {
                sum += light[cart];
            }
            return sum;
        }

        int wetOfAll() {
            int sum = 0;
            for (int cart = 0; cart < carts; cart++) {
                sum += wet[cart];
            }
            return sum;
        }

        int mostWarm() {
            int most = 0;
            for (int cart = 0; cart < carts; cart++) {
                most = Math.max(most, warm[cart]);
            }
            return most;
        }

        int howManyLie() {
            int sum = 0;
            for (int bay = 0; bay < bays; bay++) {
                sum += high[bay];
            }
            return sum;
        }

        int gain(int cart) {
            return gainAt(home[cart], placeOf(cart));
        }

        int gainAt(int bay, int place) {
            if (place < 0 || place >= high[bay]) {
                return 0;
            }
            int cart = lies[bay * MOST_HIGH + place];
            int damp = wet[cart];
            for (int above = place + 1; above < high[bay]; above++) {
                if (wet[lies[bay * MOST_HIGH + above]] > 0) {
                    damp++;
                }
            }
            return Kind.warms(kind[cart], damp);
        }

        void warmBay(int bay) {
            for (int place = 0; place < high[bay]; place++) {
                warm[lies[bay * MOST_HIGH + place]] += gainAt(bay, place);
            }
        }

        int burnBay(int bay) {
            for (int place = 0; place < high[bay]; place++) {
                if (warm[lies[bay * MOST_HIGH + place]] >= BURNS_AT) {
                    return loseFrom(bay, place);
                }
            }
            return 0;
        }

        int loseFrom(int bay, int lowest) {
            int lost = high[bay] - lowest;
            for (int place = lowest; place < high[bay]; place++) {
                lose(lies[bay * MOST_HIGH + place]);
            }
            high[bay] = lowest;
            return lost;
        }

        void lose(int cart) {
            light[cart] = 0;
            wet[cart] = 0;
            warm[cart] = 0;
        }

        void dryTop(int bay) {
            int cart = top(bay);
            if (cart != NONE && wet[cart] > 0) {
                wet[cart]--;
            }
        }

        int passDay() {
            int lost = 0;
            for (int bay = 0; bay < bays; bay++) {
                warmBay(bay);
                lost += burnBay(bay);
                dryTop(bay);
            }
            days++;
            burnt += lost;
            return lost;
        }

        int slice(int bay, int much) {
            int cart = top(bay);
            if (cart == NONE) {
                return 0;
            }
            int less = Math.min(much, light[cart]);
            int gives = Kind.gives(kind[cart], less);
            light[cart] -= less;
            if (light[cart] == 0) {
                loseFrom(bay, high[bay] - 1);
            }
            if (kind[cart] == Kind.MELANCHOLY) {
                dryTopsBut(bay);
            }
            given += gives;
            return gives;
        }

        void dryTopsBut(int bay) {
            for (int other = 0; other < bays; other++) {
                if (other != bay) {
                    dryTop(other);
                }
            }
        }

        void turnOver(int bay) {
            int lowest = bay * MOST_HIGH;
            int highest = lowest + high[bay] - 1;
            for (int place = lowest; place <= highest; place++) {
                warm[lies[place]] = 0;
            }
            for (int low = lowest, up = highest; low < up; low++, up--) {
                int cart = lies[low];
                lies[low] = lies[up];
                lies[up] = cart;
            }
        }

        void takeOut(int bay, int places) {
            int left = 0;
            for (int place = 0; place < high[bay]; place++) {
                int cart = lies[bay * MOST_HIGH + place];
                if ((places >> place & 1) == 1) {
                    lose(cart);
                } else {
                    lies[bay * MOST_HIGH + left] = cart;
                    left++;
                }
            }
            high[bay] = left;
        }

        int bayOfLeastLight() {
            int best = NONE;
            int least = 0;
            for (int bay = 0; bay < bays; bay++) {
                int cart = top(bay);
                if (cart != NONE && (best == NONE || light[cart] < least)) {
                    least = light[cart];
                    best = bay;
                }
            }
            return best;
        }
    }

    /** What was SEEN, in rows side by side. */
    private static final class Seen {
        static final int ROOM = 6;

        final int[] cart = new int[ROOM];
        final int[] day = new int[ROOM];
        final int[] warm = new int[ROOM];
        int size;

        void append(int itsCart, int itsDay, int itsWarm) {
            if (size < ROOM) {
                cart[size] = itsCart;
                day[size] = itsDay;
                warm[size] = itsWarm;
                size++;
            }
        }

        void copyFrom(Seen other) {
            size = other.size;
            System.arraycopy(other.cart, 0, cart, 0, ROOM);
            System.arraycopy(other.day, 0, day, 0, ROOM);
            System.arraycopy(other.warm, 0, warm, 0, ROOM);
        }
    }

    /** What would become of a BARN, tried on a copy that is kept for it. */
    private static final class Foresight {
        static final int PLAN_DAYS = 4;
        static final int LASTS_DAYS = 100;
        static final int SAFE_DAYS = 10;

        final Barn trial = new Barn();
        int bestMuch;
        /** Two bits a DAY, the first DAY's highest: 0 nothing, else the BAY and 1. As numbers they are in order. */
        int bestPlan;

        int daysItLasts(Barn barn, int much) {
            trial.copyFrom(barn);
            for (int days = 0; days < LASTS_DAYS; days++) {
                if (!isFed(much)) {
                    return days;
                }
                trial.passDay();
            }
            return LASTS_DAYS;
        }

        boolean isFed(int much) {
            int got = 0;
            for (int slices = 0; slices < MOST_CARTS * MOST_LIGHT && got < much; slices++) {
                int bay = trial.bayOfLeastLight();
                if (bay == NONE) {
                    return false;
                }
                got += trial.slice(bay, 1);
            }
            return got >= much;
        }

        void makePlan(Barn barn, int days) {
            bestMuch = NONE;
            bestPlan = 0;
            for (int plan = 0; plan < 1 << 2 * days; plan++) {
                int much = worthOf(barn, days, plan);
                if (much > bestMuch) {
                    bestMuch = much;
                    bestPlan = plan;
                }
            }
        }

        int plannedBay(int days, int day) {
            return day >= days ? NONE : bayIn(bestPlan, days, day);
        }

        static int bayIn(int plan, int days, int day) {
            return (plan >> 2 * (days - 1 - day) & 3) - 1;
        }

        /** NONE: the plan chooses what can't be chosen. */
        int worthOf(Barn barn, int days, int plan) {
            trial.copyFrom(barn);
            for (int day = 0; day < days; day++) {
                int bay = bayIn(plan, days, day);
                if (bay >= trial.bays) {
                    return NONE;
                }
                if (bay == NONE ? trial.howManyLie() > 0 : trial.high[bay] == 0) {
                    return NONE;
                }
                if (bay != NONE) {
                    trial.slice(bay, MOST_SLICE);
                }
                trial.passDay();
            }
            return trial.given - barn.given + trial.lightOfAll();
        }

        /** The places to take out of a BAY; all of them is always a way, so there is one. */
        int safe(Barn barn, int bay) {
            int best = 0;
            int least = MOST_HIGH * MOST_LIGHT + 1;
            for (int places = 0; places < 1 << barn.high[bay]; places++) {
                int much = barn.lightOfSome(bay, places);
                if (much < least && isSafeWithout(barn, bay, places)) {
                    least = much;
                    best = places;
                }
            }
            return best;
        }

        boolean isSafeWithout(Barn barn, int bay, int places) {
            trial.copyFrom(barn);
            trial.takeOut(bay, places);
            for (int day = 0; day < SAFE_DAYS; day++) {
                trial.warmBay(bay);
                if (trial.burnBay(bay) > 0) {
                    return false;
                }
                trial.dryTop(bay);
            }
            return true;
        }

        int goneBehind(Barn barn, int days) {
            trial.copyFrom(barn);
            for (int day = 0; day < days; day++) {
                trial.passDay();
            }
            int bits = 0;
            for (int cart = 0; cart < barn.carts; cart++) {
                if (trial.isGone(cart) && !barn.isGone(cart)) {
                    bits |= 1 << cart;
                }
            }
            return bits;
        }

        int winter(Barn barn, int days, int firstSeed, int what) {
            trial.copyFrom(barn);
            long seed = firstSeed;
            for (int day = 0; day < days; day++) {
                seed = seedBehind(seed);
                int much = 1 + drawOf(seed, MOST_SLICE);
                seed = seedBehind(seed);
                trial.slice(drawOf(seed, trial.bays), much);
                trial.passDay();
            }
            switch (what) {
                case 0: return trial.given - barn.given;
                case 1: return trial.burnt - barn.burnt;
                default: return (int) seed;
            }
        }

        static long seedBehind(long seed) {
            return (1103515245L * seed + 12345L) & 0x7fffffffL;
        }

        static int drawOf(long seed, int many) {
            return many <= 0 ? 0 : (int) ((seed >> 16) % many);
        }
    }

    /** How WARM a CART would be by how WET it is, tried on a copy on which nothing BURNS. */
    private static final class Feeling {
        static final int DAYS = 9;
        static final int WETS = MOST_WET + 1;

        final Barn trial = new Barn();
        /** By WET, then by DAY (1 to DAYS). */
        final int[] warmths = new int[WETS * DAYS];
        /** By how WARM it is: how many WETS would have it so. */
        final int[] like = new int[BURNS_AT + 1];

        int wets(Barn barn, Seen seen, int cart) {
            tryAll(barn, cart);
            return wetsThatFit(seen, cart);
        }

        int bestDay(Barn barn, Seen seen, int cart) {
            tryAll(barn, cart);
            int wets = wetsThatFit(seen, cart);
            if (wets == 0) {
                return NONE;
            }
            int best = NONE;
            int fewest = WETS + 1;
            for (int day = 1; day <= DAYS; day++) {
                int left = leftAtWorst(wets, day);
                if (left < fewest) {
                    fewest = left;
                    best = day;
                }
            }
            return best;
        }

        void tryAll(Barn barn, int cart) {
            int bay = barn.home[cart];
            for (int wet = 0; wet < WETS; wet++) {
                trial.copyFrom(barn);
                trial.wet[cart] = wet;
                for (int day = 1; day <= DAYS; day++) {
                    trial.warmBay(bay);
                    trial.dryTop(bay);
                    warmths[wet * DAYS + day - 1] = Math.min(BURNS_AT, trial.warm[cart]);
                }
            }
        }

        int wetsThatFit(Seen seen, int cart) {
            int bits = 0;
            for (int wet = 0; wet < WETS; wet++) {
                if (fits(seen, cart, wet)) {
                    bits |= 1 << wet;
                }
            }
            return bits;
        }

        boolean fits(Seen seen, int cart, int wet) {
            for (int k = 0; k < seen.size; k++) {
                if (seen.cart[k] == cart && warmths[wet * DAYS + seen.day[k] - 1] != seen.warm[k]) {
                    return false;
                }
            }
            return true;
        }

        int leftAtWorst(int wets, int day) {
            for (int warm = 0; warm <= BURNS_AT; warm++) {
                like[warm] = 0;
            }
            int most = 0;
            for (int wet = 0; wet < WETS; wet++) {
                if ((wets >> wet & 1) == 1) {
                    int warm = warmths[wet * DAYS + day - 1];
                    like[warm]++;
                    most = Math.max(most, like[warm]);
                }
            }
            return most;
        }
    }

    /** Who has least has a half or a third of all at most, the next one a half: higher sums need not be kept. */
    private static final class Sharing {
        static final int LEAST_OF_THREE = MOST_CARTS * MOST_LIGHT / 3;

        /** By what the one has: what the next can have then, as bits. */
        final long[] reach = new long[LEAST_OF_THREE + 1];

        int amongTwo(Barn barn) {
            long sums = 1L;
            for (int cart = 0; cart < barn.carts; cart++) {
                sums |= sums << barn.light[cart];
            }
            return highestSum(sums, 0, barn.lightOfAll() / 2);
        }

        int amongThree(Barn barn) {
            for (int one = 0; one <= LEAST_OF_THREE; one++) {
                reach[one] = 0L;
            }
            reach[0] = 1L;
            for (int cart = 0; cart < barn.carts; cart++) {
                giveAway(barn.light[cart]);
            }
            int all = barn.lightOfAll();
            for (int one = Math.min(LEAST_OF_THREE, all / 3); one > 0; one--) {
                if (highestSum(reach[one], one, (all - one) / 2) != NONE) {
                    return one;
                }
            }
            return 0;
        }

        void giveAway(int light) {
            // from the highest on, so that no CART is given twice
            for (int one = LEAST_OF_THREE; one >= 0; one--) {
                long sums = reach[one] | reach[one] << light;
                if (one >= light) {
                    sums |= reach[one - light];
                }
                reach[one] = sums;
            }
        }

        static int highestSum(long sums, int from, int to) {
            for (int sum = to; sum >= from; sum--) {
                if ((sums >> sum & 1L) == 1L) {
                    return sum;
                }
            }
            return NONE;
        }
    }
}
