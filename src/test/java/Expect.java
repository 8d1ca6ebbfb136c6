/** Prints every answer that is not the one that is due, and ends with 1 if there was one. */
final class Expect {
    private static int wrong = 0;
    private static int asked = 0;
    private static String sentence = "";

    private Expect() {
    }

    /** The words of the document that the next answers are held against. */
    static void about(String words) {
        sentence = words + ": ";
    }

    static void is(String call, long got, long want) {
        asked++;
        if (got != want) {
            wrong++;
            if (wrong <= 50) {
                System.out.println(sentence + call + " answered " + got + ", due is " + want);
            }
        }
    }

    static void holds(String what, boolean held) {
        is(what, held ? 1 : 0, 1);
    }

    static boolean failed() {
        return wrong > 0;
    }

    static void end() {
        System.out.println(asked + " answers, " + wrong + " of them not as due");
        if (wrong > 0) {
            System.exit(1);
        }
    }
}
