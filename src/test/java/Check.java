/** Counts what the tests find, and prints what is not as it is due. */
final class Check {
    interface Call {
        void run();
    }

    static int passed = 0;
    static int failed = 0;

    private Check() {
    }

    static void equal(String what, Object answer, Object due) {
        if (due.equals(answer)) {
            passed++;
        } else {
            failed++;
            System.out.println(what + " answered " + answer + ", due is " + due);
        }
    }

    static void fails(String what, Class<? extends RuntimeException> due, Call call) {
        equal(what, thrownBy(call), due.getSimpleName());
    }

    static void works(String what, Call call) {
        equal(what, thrownBy(call), "nothing");
    }

    private static String thrownBy(Call call) {
        try {
            call.run();
            return "nothing";
        } catch (RuntimeException e) {
            return e.getClass().getSimpleName();
        }
    }
}
