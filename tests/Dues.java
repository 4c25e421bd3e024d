/** Counts answers, prints every one that is not the due one, and ends the test with code 1 if there was one. */
final class Dues {
    private final String test;
    private int calls = 0;
    private int wrong = 0;

    Dues(String test) {
        this.test = test;
    }

    void due(int promise, String call, long got, long want) {
        calls++;
        if (got != want) {
            wrong++;
            System.out.println(test + ", promise " + promise + ": " + call + " answered " + got + ", due is " + want);
        }
    }

    void close() {
        System.out.println(test + ": " + (calls - wrong) + " answers as due, " + wrong + " not");
        if (wrong != 0) {
            System.exit(1);
        }
    }

    static void types(NoBetweens x, String text) {
        for (int i = 0; i < text.length(); i++) {
            x.type(text.charAt(i));
        }
    }

    /** Types a text, has it read, and gives what land() answered. */
    static int reads(NoBetweens x, String text) {
        types(x, text);
        return x.land();
    }

    static NoBetweens told(String text) {
        NoBetweens x = new NoBetweens();
        int answer = reads(x, text);
        if (answer < 0) {
            System.out.println("a test's own text is faulty: " + text);
            System.exit(1);
        }
        return x;
    }
}
