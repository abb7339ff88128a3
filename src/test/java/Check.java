/** What the tests share: counting wrong answers, and feeding a text to a dinner. */
final class Check {
    private static final int MOST_PRINTED = 100;
    private static int wrong = 0;
    private static int asked = 0;

    private Check() {
    }

    static void due(String call, long got, long want) {
        asked++;
        if (got != want) {
            wrong++;
            if (wrong > MOST_PRINTED) {
                return;
            }
            System.out.println(call + " answered " + got + ", due is " + want);
        }
    }

    /** Puts a text on the tape, five bytes at once, and answers what the last feed() answered. */
    static int feed(StalemateDinner d, String text) {
        int answer = d.count(5);
        for (int i = 0; i < text.length(); i += 5) {
            int n = Math.min(5, text.length() - i);
            int[] b = new int[5];
            for (int k = 0; k < n; k++) {
                b[k] = text.charAt(i + k);
            }
            answer = d.feed(n, b[0], b[1], b[2], b[3], b[4]);
        }
        return answer;
    }

    static int text(StalemateDinner d, String text) {
        feed(d, text);
        return d.text();
    }

    /** A text that becomes the law. */
    static void law(StalemateDinner d, String text) {
        int t = text(d, text);
        due("text of " + text + " is one", t > 0 ? 1 : t, 1);
        d.force(t);
    }

    /** A sheet of a sort that holds these numbers. */
    static void sheet(StalemateDinner d, int s, int sort, int... numbers) {
        d.sheet(s, sort, numbers.length);
        for (int i = 0; i < numbers.length; i++) {
            d.cell(s, i, numbers[i]);
        }
    }

    static void end() {
        System.out.println(wrong == 0 ? asked + " answers are as due" : wrong + " of " + asked + " answers are not as due");
        if (wrong != 0) {
            System.exit(1);
        }
    }
}
