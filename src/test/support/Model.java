import java.util.ArrayList;
import java.util.Arrays;
import java.util.List;
import java.util.TreeMap;
import java.util.regex.Pattern;

/**
 * The document said again, as slowly and plainly as can be, with the Java library: lists of objects, copies of
 * everything, every set and every choice tried. It shares no code and no way of counting with the class.
 */
final class Model {
    static final int NONE = -1, UNKNOWN = -101, OUTSIDE = -102, STATE = -103, FULL = -104;
    private static final String CART = "[socma][1-9][0-9]";
    private static final String BAY = CART + "(," + CART + "){0,2}";
    private static final Pattern BARN = Pattern.compile(BAY + "(;" + BAY + "){1,2}");

    static final class Cart {
        int number, bay, light, wet, warm;
        char kind;

        Cart copy() {
            Cart c = new Cart();
            c.number = number;
            c.bay = bay;
            c.light = light;
            c.wet = wet;
            c.warm = warm;
            c.kind = kind;
            return c;
        }

        boolean isOld() {
            return kind == 'o' || kind == 'a';
        }

        int gives(int less) {
            if (kind == 'm') {
                return 0;
            }
            int much = isOld() ? less + less : less;
            return kind == 'c' || kind == 'a' ? much + 1 : much;
        }

        int gain(List<Cart> above) {
            double damp = wet;
            for (Cart c : above) {
                damp += c.wet > 0 ? 1 : 0;
            }
            if (isOld()) {
                damp = Math.floor(damp / 2);
            }
            if (kind == 'a') {
                damp = Math.floor(damp / 2);
            }
            return kind == 'm' ? 0 : (int) (kind == 'c' ? damp * 2 : damp);
        }
    }

    /** A whole barn: every cart by number, and of each bay those that lie in it. */
    static final class World {
        List<Cart> all = new ArrayList<>();
        List<List<Cart>> bays = new ArrayList<>();
        List<int[]> seen = new ArrayList<>();
        int days, given, burnt;
        boolean burning = true;

        World copy() {
            World w = new World();
            for (Cart c : all) {
                w.all.add(c.copy());
            }
            for (List<Cart> bay : bays) {
                List<Cart> row = new ArrayList<>();
                for (Cart c : bay) {
                    row.add(w.all.get(c.number));
                }
                w.bays.add(row);
            }
            w.seen.addAll(seen);
            w.days = days;
            w.given = given;
            w.burnt = burnt;
            w.burning = burning;
            return w;
        }

        boolean lies(Cart c) {
            return bays.get(c.bay).contains(c);
        }

        List<Cart> above(Cart c) {
            List<Cart> bay = bays.get(c.bay);
            return bay.subList(bay.indexOf(c) + 1, bay.size());
        }

        void dry(List<Cart> bay) {
            if (!bay.isEmpty()) {
                Cart top = bay.get(bay.size() - 1);
                top.wet = Math.max(0, top.wet - 1);
            }
        }

        int slice(int number, int much) {
            List<Cart> bay = bays.get(number);
            if (bay.isEmpty()) {
                return 0;
            }
            Cart top = bay.get(bay.size() - 1);
            int less = Math.min(top.light, much);
            top.light -= less;
            if (top.light == 0) {
                bay.remove(top);
            }
            if (top.kind == 'm') {
                for (List<Cart> other : bays) {
                    if (other != bay) {
                        dry(other);
                    }
                }
            }
            given += top.gives(less);
            return top.gives(less);
        }

        int day() {
            for (List<Cart> bay : bays) {
                for (Cart c : bay) {
                    c.warm += c.gain(above(c));
                }
            }
            int lost = 0;
            for (List<Cart> bay : bays) {
                for (int place = 0; burning && place < bay.size(); place++) {
                    if (bay.get(place).warm >= 30) {
                        while (bay.size() > place) {
                            bay.remove(bay.size() - 1);
                            lost++;
                        }
                    }
                }
            }
            for (List<Cart> bay : bays) {
                dry(bay);
            }
            days++;
            burnt += lost;
            return lost;
        }

        int light() {
            int sum = 0;
            for (List<Cart> bay : bays) {
                for (Cart c : bay) {
                    sum += c.light;
                }
            }
            return sum;
        }
    }

    private final StringBuilder page = new StringBuilder();
    private World world;
    private World image;
    private int read;
    private int shares;

    int letter(int code) {
        if (code < 1 || code > 126) {
            return OUTSIDE;
        }
        if (page.length() + 1 > 38) {
            return FULL;
        }
        page.append((char) code);
        return page.length();
    }

    int blank() {
        int had = page.length();
        page.setLength(0);
        return had;
    }

    int fault() {
        for (int end = 1; end <= page.length(); end++) {
            java.util.regex.Matcher m = BARN.matcher(page.substring(0, end));
            if (!m.matches() && !m.hitEnd()) {
                return end - 1;
            }
        }
        return page.length();
    }

    int barn() {
        if (!BARN.matcher(page).matches()) {
            return STATE;
        }
        world = new World();
        for (String text : page.toString().split(";")) {
            List<Cart> bay = new ArrayList<>();
            for (String one : text.split(",")) {
                Cart c = new Cart();
                c.number = world.all.size();
                c.bay = world.bays.size();
                c.kind = one.charAt(0);
                c.light = one.charAt(1) - '0';
                c.wet = one.charAt(2) - '0';
                world.all.add(c);
                bay.add(c);
            }
            world.bays.add(bay);
        }
        image = null;
        read++;
        page.setLength(0);
        return world.all.size();
    }

    private boolean noCart(int cart) {
        return world == null || cart < 0 || cart >= world.all.size();
    }

    private boolean noBay(int bay) {
        return world == null || bay < 0 || bay >= world.bays.size();
    }

    int cart(int cart, int what) {
        if (noCart(cart)) {
            return UNKNOWN;
        }
        Cart c = world.all.get(cart);
        boolean lies = world.lies(c);
        switch (what) {
            case 0: return "socma".indexOf(c.kind);
            case 1: return lies ? c.light : 0;
            case 2: return lies ? c.wet : 0;
            case 3: return lies ? c.warm : 0;
            case 4: return c.bay;
            case 5: return lies ? world.above(c).size() : NONE;
            case 6: return lies ? c.gain(world.above(c)) : 0;
            case 7: return lies ? bits(wets(cart)) : NONE;
            case 8: return lies ? feel(cart) : NONE;
            case 10: case 11: case 12: return lies ? c.gives(Math.min(what - 9, c.light)) : NONE;
            default: return OUTSIDE;
        }
    }

    private static int bits(List<Integer> numbers) {
        int sum = 0;
        for (int n : numbers) {
            sum += 1 << n;
        }
        return sum;
    }

    private int warmBehind(int cart, int wet, int days) {
        World w = world.copy();
        w.burning = false;
        w.all.get(cart).wet = wet;
        for (int d = 0; d < days; d++) {
            w.day();
        }
        return Math.min(30, w.all.get(cart).warm);
    }

    private List<Integer> wets(int cart) {
        List<Integer> can = new ArrayList<>();
        for (int wet = 0; wet <= 9; wet++) {
            boolean fits = true;
            for (int[] s : world.seen) {
                fits &= s[0] != cart || warmBehind(cart, wet, s[1]) == s[2];
            }
            if (fits) {
                can.add(wet);
            }
        }
        return can;
    }

    private int feel(int cart) {
        List<Integer> can = wets(cart);
        int best = NONE, fewest = 99;
        for (int d = 1; d <= 9 && !can.isEmpty(); d++) {
            TreeMap<Integer, Integer> groups = new TreeMap<>();
            for (int wet : can) {
                groups.merge(warmBehind(cart, wet, d), 1, Integer::sum);
            }
            int worst = java.util.Collections.max(groups.values());
            if (worst < fewest) {
                fewest = worst;
                best = d;
            }
        }
        return best;
    }

    int as(int cart, int kind) {
        if (noCart(cart)) {
            return UNKNOWN;
        }
        if (kind < 0 || kind > 4) {
            return OUTSIDE;
        }
        Cart c = world.all.get(cart);
        boolean is = kind == 0 || (kind == 1 ? c.isOld() : c.kind == "socma".charAt(kind));
        return is ? cart : NONE;
    }

    int bay(int bay, int what) {
        if (noBay(bay)) {
            return UNKNOWN;
        }
        List<Cart> row = world.bays.get(bay);
        switch (what) {
            case 0: return row.size();
            case 1: return row.isEmpty() ? NONE : row.get(row.size() - 1).number;
            case 2: return row.stream().mapToInt(c -> c.light).sum();
            case 3: return safe(bay)[1];
            case 4: return safe(bay)[0];
            case 10: case 11: case 12: return what - 10 < row.size() ? row.get(what - 10).number : NONE;
            default: return OUTSIDE;
        }
    }

    /** The least of all pairs of light and set that do not burn. */
    private int[] safe(int bay) {
        int[] best = null;
        int size = world.bays.get(bay).size();
        for (int set = 0; set < 1 << size; set++) {
            World w = world.copy();
            int light = 0;
            for (int place = size - 1; place >= 0; place--) {
                if ((set & 1 << place) != 0) {
                    light += w.bays.get(bay).remove(place).light;
                }
            }
            int left = w.bays.get(bay).size();
            for (int d = 0; d < 10; d++) {
                w.day();
            }
            int[] pair = {light, set};
            if (w.bays.get(bay).size() == left && (best == null || Arrays.compare(pair, best) < 0)) {
                best = pair;
            }
        }
        return best;
    }

    int cut(int bay, int much) {
        if (noBay(bay)) {
            return UNKNOWN;
        }
        if (much < 1 || much > 3) {
            return OUTSIDE;
        }
        if (world.bays.get(bay).isEmpty()) {
            return STATE;
        }
        return world.given >= 9000 ? FULL : world.slice(bay, much);
    }

    int day() {
        return world == null ? STATE : world.days >= 999 ? FULL : world.day();
    }

    int turn(int bay) {
        if (noBay(bay)) {
            return UNKNOWN;
        }
        List<Cart> row = world.bays.get(bay);
        if (row.isEmpty()) {
            return STATE;
        }
        java.util.Collections.reverse(row);
        for (Cart c : row) {
            c.warm = 0;
        }
        return row.size();
    }

    int rain(int cart, int wet) {
        if (noCart(cart)) {
            return UNKNOWN;
        }
        if (wet < 0 || wet > 9) {
            return OUTSIDE;
        }
        Cart c = world.all.get(cart);
        if (!world.lies(c)) {
            return STATE;
        }
        int was = c.wet;
        c.wet = wet;
        return was;
    }

    int lasts(int much) {
        if (much < 1 || much > 6) {
            return OUTSIDE;
        }
        if (world == null) {
            return STATE;
        }
        World w = world.copy();
        for (int done = 0; ; done++) {
            if (done == 100) {
                return 100;
            }
            int need = much;
            while (need > 0) {
                int bay = leastLight(w);
                if (bay == NONE) {
                    return done;
                }
                need -= w.slice(bay, 1);
            }
            w.day();
        }
    }

    private static int leastLight(World w) {
        int best = NONE, least = 99;
        for (int b = 0; b < w.bays.size(); b++) {
            List<Cart> row = w.bays.get(b);
            if (!row.isEmpty() && row.get(row.size() - 1).light < least) {
                least = row.get(row.size() - 1).light;
                best = b;
            }
        }
        return best;
    }

    int plan(int days, int what) {
        if (days < 1 || days > 4 || !(what == 0 || what >= 10 && what <= 13)) {
            return OUTSIDE;
        }
        if (world == null) {
            return STATE;
        }
        List<Integer> best = bestPlan(world, days);
        if (what == 0) {
            return best.get(best.size() - 1);
        }
        return what - 10 < days ? best.get(what - 10) : NONE;
    }

    /** The bays of the best plan, and behind them what it is worth from here on. */
    private static List<Integer> bestPlan(World from, int days) {
        if (days == 0) {
            return List.of(from.light());
        }
        List<Integer> best = null;
        for (int bay = from.light() == 0 ? NONE : 0; bay < from.bays.size(); bay++) {
            if (from.light() == 0 ? bay != NONE : from.bays.get(bay).isEmpty()) {
                continue;
            }
            World w = from.copy();
            int gave = bay == NONE ? 0 : w.slice(bay, 3);
            w.day();
            List<Integer> rest = bestPlan(w, days - 1);
            int worth = gave + rest.get(rest.size() - 1);
            if (best == null || worth > best.get(best.size() - 1)) {
                best = new ArrayList<>();
                best.add(bay);
                best.addAll(rest.subList(0, rest.size() - 1));
                best.add(worth);
            }
        }
        return best;
    }

    int share(int many) {
        if (many != 2 && many != 3) {
            return OUTSIDE;
        }
        if (world == null || shares >= 12) {
            return STATE;
        }
        shares++;
        List<Cart> lying = new ArrayList<>();
        world.bays.forEach(lying::addAll);
        return bestShare(lying, new int[many]);
    }

    private static int bestShare(List<Cart> lying, int[] has) {
        if (lying.isEmpty()) {
            return Arrays.stream(has).min().getAsInt();
        }
        int best = 0;
        for (int who = 0; who < has.length; who++) {
            has[who] += lying.get(0).light;
            best = Math.max(best, bestShare(lying.subList(1, lying.size()), has));
            has[who] -= lying.get(0).light;
        }
        return best;
    }

    int burnt(int days) {
        if (days < 0 || days > 20) {
            return OUTSIDE;
        }
        if (world == null) {
            return STATE;
        }
        World w = world.copy();
        for (int d = 0; d < days; d++) {
            w.day();
        }
        List<Integer> lost = new ArrayList<>();
        for (Cart c : world.all) {
            if (world.lies(c) && !w.lies(w.all.get(c.number))) {
                lost.add(c.number);
            }
        }
        return bits(lost);
    }

    int see(int cart, int day, int warm) {
        if (noCart(cart)) {
            return UNKNOWN;
        }
        if (day < 1 || day > 9 || warm < 0 || warm > 30) {
            return OUTSIDE;
        }
        if (!world.lies(world.all.get(cart))) {
            return STATE;
        }
        if (world.seen.size() == 6) {
            return FULL;
        }
        world.seen.add(new int[] {cart, day, warm});
        return world.seen.size();
    }

    int forget() {
        int was = world == null ? 0 : world.seen.size();
        if (world != null) {
            world.seen.clear();
        }
        return was;
    }

    int winters(int days, int seed, int what) {
        if (days < 1 || days > 60 || seed < 0 || what < 0 || what > 2) {
            return OUTSIDE;
        }
        if (world == null) {
            return STATE;
        }
        World w = world.copy();
        java.math.BigInteger s = java.math.BigInteger.valueOf(seed);
        int given = 0, lost = 0;
        for (int d = 0; d < days; d++) {
            s = next(s);
            int much = 1 + draw(s, 3);
            s = next(s);
            given += w.slice(draw(s, w.bays.size()), much);
            lost += w.day();
        }
        return what == 0 ? given : what == 1 ? lost : s.intValueExact();
    }

    private static java.math.BigInteger next(java.math.BigInteger s) {
        return s.multiply(java.math.BigInteger.valueOf(1103515245)).add(java.math.BigInteger.valueOf(12345))
            .mod(java.math.BigInteger.TWO.pow(31));
    }

    private static int draw(java.math.BigInteger s, int many) {
        return s.divide(java.math.BigInteger.valueOf(65536)).mod(java.math.BigInteger.valueOf(many)).intValueExact();
    }

    int image() {
        if (world == null) {
            return STATE;
        }
        image = world.copy();
        return world.days;
    }

    int restore() {
        if (image == null) {
            return STATE;
        }
        world = image.copy();
        return world.days;
    }

    int count(int what) {
        World w = world == null ? new World() : world;
        List<Cart> lying = new ArrayList<>();
        w.bays.forEach(lying::addAll);
        switch (what) {
            case 0: return w.bays.size();
            case 1: return w.all.size();
            case 2: return lying.size();
            case 3: return w.light();
            case 4: return lying.stream().mapToInt(c -> c.wet).sum();
            case 5: return lying.stream().mapToInt(c -> c.warm).max().orElse(0);
            case 6: return w.days;
            case 7: return w.given;
            case 8: return w.burnt;
            case 9: return w.seen.size();
            case 10: return page.length();
            case 11: return read;
            case 12: return shares;
            default: return OUTSIDE;
        }
    }

    long digest() {
        List<Integer> told = new ArrayList<>();
        for (int c = 0; c < count(1); c++) {
            for (int what : new int[] {0, 1, 2, 3, 4, 5, 6, 7, 8, 10, 11, 12}) {
                told.add(cart(c, what));
            }
        }
        for (int b = 0; b < count(0); b++) {
            for (int what : new int[] {0, 1, 2, 3, 4, 10, 11, 12}) {
                told.add(bay(b, what));
            }
        }
        if (world != null) {
            told.addAll(List.of(lasts(2), plan(2, 0), plan(2, 10), plan(2, 11), burnt(9)));
        }
        page.chars().forEach(told::add);
        for (int what = 0; what <= 12; what++) {
            told.add(count(what));
        }
        long h = 1201;
        for (int number : told) {
            h = h * 31 + number;
        }
        return h;
    }
}
