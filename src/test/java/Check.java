/** What all tests of the project use: comparing an answer with the one that is due, and ending. */
final class Check {
    private static final int SHOWN = 20;

    private static String sentence = "";
    private static int wrong = 0;

    interface Call {
        Object answer();
    }

    private Check() { }

    /** From now on it is this sentence of the document that is tested; a wrong answer is told with it. */
    static void sentence(String words) {
        sentence = "\"" + words + "\" ";
    }

    /** What a call answered, or the name of what it threw. */
    static String outcome(Call call) {
        try {
            return String.valueOf(call.answer());
        } catch (RuntimeException e) {
            return e.getClass().getSimpleName();
        }
    }

    static void due(String what, Object got, Object want) {
        if (!got.equals(want)) {
            wrong++;
            if (wrong <= SHOWN) {
                System.out.println(sentence + what + ": " + got + ", due is " + want);
            }
        }
    }

    static void dueOutcome(String what, Call call, Object want) {
        due(what, outcome(call), String.valueOf(want));
    }

    static boolean allRight() {
        return wrong == 0;
    }

    static void end() {
        System.exit(allRight() ? 0 : 1);
    }
}
