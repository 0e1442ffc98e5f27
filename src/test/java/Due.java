/** What the tests share: rows of answers that are due, and towns told by their text. */
final class Due {
    private int looked;
    private int wrong;
    private String sentence = "";
    private int lookedAhead = -1;

    /** The rows behind it are those of one bit of a sentence, word by word as the document has it. */
    void says(int promise, String words) {
        endSentence();
        sentence = (promise == Document.TERMS ? "terms" : "promise " + promise) + " \"" + words + "\": ";
        lookedAhead = looked;
        if (!Document.section(promise).contains(words)) {
            wrong++;
            System.out.println(sentence + "the document does not say so");
        }
    }

    private void endSentence() {
        if (looked == lookedAhead) {
            wrong++;
            System.out.println(sentence + "no row looks at it");
        }
    }

    void due(String call, long got, long want) {
        looked++;
        if (got != want) {
            wrong++;
            System.out.println(sentence + call + " answered " + got + ", due is " + want);
        }
    }

    void same(String what, String got, String want) {
        looked++;
        if (!got.equals(want)) {
            wrong++;
            int place = 0;
            while (place < got.length() && place < want.length() && got.charAt(place) == want.charAt(place)) {
                place++;
            }
            System.out.println(sentence + what + " answered .. " + from(got, place) + ", due is .. " + from(want, place));
        }
    }

    private static String from(String text, int place) {
        return text.substring(Math.max(0, place - 40), Math.min(text.length(), place + 40));
    }

    void end() {
        endSentence();
        System.out.println(looked + " answers looked at, " + wrong + " not as due");
        if (wrong != 0 || looked == 0) {
            System.exit(1);
        }
    }

    static int fed(OneWayTillNoon x, String text) {
        int answer = 0;
        for (int from = 0; from < text.length(); from += 8) {
            int n = Math.min(8, text.length() - from);
            answer = x.feed(n, packed(text.substring(from, from + n)));
        }
        return answer;
    }

    static long packed(String few) {
        long bytes = 0;
        for (int i = few.length() - 1; i >= 0; i--) {
            bytes = bytes << 8 | few.charAt(i) & 255;
        }
        return bytes;
    }

    static int told(OneWayTillNoon x, String text) {
        fed(x, text);
        return x.town();
    }

    static int toldNew(String text) {
        return told(new OneWayTillNoon(), text);
    }

    static OneWayTillNoon townOf(String... texts) {
        OneWayTillNoon x = new OneWayTillNoon();
        for (String text : texts) {
            if (told(x, text) < 0) {
                throw new IllegalStateException("the test's own town is wrong: " + text);
            }
        }
        return x;
    }
}
