/** What the tests share: rows of answers that are due, and towns told by their text. */
final class Due {
    private int looked;
    private int wrong;

    void due(String call, long got, long want) {
        looked++;
        if (got != want) {
            wrong++;
            System.out.println(call + " answered " + got + ", due is " + want);
        }
    }

    void end() {
        System.out.println(looked + " answers looked at, " + wrong + " not as due");
        if (wrong != 0 || looked == 0) {
            System.exit(1);
        }
    }

    static int fed(OneWayTillNoon x, String text) {
        int answer = 0;
        for (int from = 0; from < text.length(); from += 8) {
            int n = Math.min(8, text.length() - from);
            answer = x.feed(n, packed(text.substring(from, from + n)));
        }
        return answer;
    }

    static long packed(String few) {
        long bytes = 0;
        for (int i = few.length() - 1; i >= 0; i--) {
            bytes = bytes << 8 | few.charAt(i) & 255;
        }
        return bytes;
    }

    static int told(OneWayTillNoon x, String text) {
        fed(x, text);
        return x.town();
    }

    static OneWayTillNoon townOf(String... texts) {
        OneWayTillNoon x = new OneWayTillNoon();
        for (String text : texts) {
            if (told(x, text) < 0) {
                throw new IllegalStateException("the test's own town is wrong: " + text);
            }
        }
        return x;
    }
}
