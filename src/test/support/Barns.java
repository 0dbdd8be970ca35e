/** Makes objects for tests from texts. */
final class Barns {
    private Barns() {
    }

    static BarnSummers of(String text) {
        BarnSummers x = new BarnSummers();
        read(x, text);
        return x;
    }

    static int read(BarnSummers x, String text) {
        x.blank();
        write(x, text);
        return x.barn();
    }

    static void write(BarnSummers x, String text) {
        for (int i = 0; i < text.length(); i++) {
            x.letter(text.charAt(i));
        }
    }

    static int faultOf(String text) {
        BarnSummers x = new BarnSummers();
        write(x, text);
        return x.fault();
    }

    static int days(BarnSummers x, int many) {
        int lost = 0;
        for (int i = 0; i < many; i++) {
            lost += x.day();
        }
        return lost;
    }
}
