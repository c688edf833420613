/** What the tests share: answers set against those that are due, and texts told to an object. */
final class Due {
    private static int wrong;
    private static int asked;

    private Due() {
    }

    static void due(String call, long got, long want) {
        asked++;
        if (got != want) {
            wrong++;
            System.out.println(call + " answered " + got + ", due is " + want);
        }
    }

    static void due(String call, boolean got, boolean want) {
        due(call, got ? 1 : 0, want ? 1 : 0);
    }

    /** Puts a text on the TAPE, behind what is there. */
    static void tell(FieldCutter x, String text) {
        int already = x.about(7);
        for (int at = 0; at < text.length(); at += 20) {
            int[] n = new int[5];
            for (int k = 0; k < 20; k++) {
                int c = at + k < text.length() ? text.charAt(at + k) : 0;
                n[k / 4] |= c << (24 - k % 4 * 8);
            }
            x.feed(n[0], n[1], n[2], n[3], n[4]);
        }
        x.end(already + text.length());
    }

    static FieldCutter read(String text) {
        FieldCutter x = new FieldCutter();
        tell(x, text);
        x.book();
        return x;
    }

    static void finish(String test) {
        System.out.println(test + ": " + asked + " answers, " + wrong + " not as due");
        if (wrong != 0) {
            System.exit(1);
        }
    }
}
