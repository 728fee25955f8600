/** Counts and prints the calls whose answer is not the one that is due. */
final class Check {
    private static int wrong = 0;
    private static int asked = 0;
    private static String test = "";

    private Check() {
    }

    /** What is printed from now on begins with the name of this test. */
    static void in(String name) {
        test = name + ": ";
    }

    static void due(String call, long got, long want) {
        asked++;
        if (got != want) {
            wrong++;
            System.out.println(test + call + " answered " + got + ", due is " + want);
        }
    }

    static void so(String what, boolean is) {
        due(what, is ? 1 : 0, 1);
    }

    /** Feeds a text, five bytes by five; the answer of text(). */
    static int read(LaughterIsMinted x, String text) {
        int[] b = java.util.Arrays.copyOf(text.chars().toArray(), text.length() + 4);
        for (int i = 0; i < text.length(); i += 5) {
            x.feed(Math.min(5, text.length() - i), b[i], b[i + 1], b[i + 2], b[i + 3], b[i + 4]);
        }
        return x.text();
    }

    /** A SHEET of a sort becomes these numbers. */
    static void sheet(LaughterIsMinted x, int s, int sort, int... numbers) {
        due("sheet", x.sheet(s, sort, numbers.length), 1);
        for (int i = 0; i < numbers.length; i++) {
            due("cell", x.cell(s, i, numbers[i]), 1);
        }
    }

    static void end(String name) {
        System.out.println(name + ": " + asked + " asked, " + wrong + " not as due");
        if (wrong != 0 || asked == 0) {
            System.exit(1);
        }
    }
}
