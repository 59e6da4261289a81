/** What the tests share: it prints every answer that is not the one due, and ends the test by it. */
final class Due {
    private static int wrong = 0;
    private static int sentences = 0;
    private static int answers = 0;
    private static String words = "";

    private Due() {
    }

    /** The words of the document that the answers from here on hold; a wrong answer is told with them. */
    static void sentence(String newWords) {
        everySentenceIsTested();
        sentences++;
        answers = 0;
        words = newWords;
    }

    private static void everySentenceIsTested() {
        if (sentences != 0 && answers == 0) {
            wrong++;
            System.out.println("no answer was looked at for: " + words);
        }
    }

    static void is(String call, long got, long want) {
        same(call, Long.toString(got), Long.toString(want));
    }

    static void yes(String call, boolean got) {
        is(call, got ? 1 : 0, 1);
    }

    static void no(String call, boolean got) {
        is(call, got ? 1 : 0, 0);
    }

    static void same(String call, String got, String want) {
        answers++;
        if (!got.equals(want)) {
            wrong++;
            String where = words.isEmpty() ? "" : "[" + words + "] ";
            System.out.println(where + call + " answered " + got + ", due is " + want);
        }
    }

    static void end() {
        everySentenceIsTested();
        if (sentences != 0) {
            System.out.println(sentences + " sentences");
        }
        System.out.println(wrong == 0 ? "all answers are as due" : wrong + " answers are not as due");
        if (wrong != 0) {
            System.exit(1);
        }
    }
}
