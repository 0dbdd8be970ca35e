/** Makes objects for tests from texts. */
final class Barns {
    private Barns() {
    }

    static BarnSummers of(String text) {
        BarnSummers x = new BarnSummers();
        read(x, text);
        return x;
    }

    static int read(BarnSummers x, String text) {
        x.blank();
        write(x, text);
        return x.barn();
    }

    /** What barn() answers to a text, on a new object. */
    static int readOf(String text) {
        return read(new BarnSummers(), text);
    }

    static void write(BarnSummers x, String text) {
        for (int i = 0; i < text.length(); i++) {
            x.letter(text.charAt(i));
        }
    }

    static int faultOf(String text) {
        BarnSummers x = new BarnSummers();
        write(x, text);
        return x.fault();
    }

    static int days(BarnSummers x, int many) {
        int lost = 0;
        for (int i = 0; i < many; i++) {
            lost += x.day();
        }
        return lost;
    }

    /** By rain and days a plain CART is warmer by so much; it is dry then. What lies on it must be dry. */
    static void warm(BarnSummers x, int cart, int much) {
        for (int left = much; left > 0; left -= 9) {
            x.rain(cart, Math.min(9, left));
            x.day();
        }
        x.rain(cart, 0);
    }

    /** Slices of 1 of a BAY till all in it is GONE. */
    static void clear(BarnSummers x, int bay) {
        for (int slices = 0; slices < 27 && x.bay(bay, 0) > 0; slices++) {
            x.cut(bay, 1);
        }
    }
}
