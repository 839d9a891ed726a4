/** Counts what is as due and prints what is not. */
final class Check {
    interface Call {
        Object answer();
    }

    private int passed;
    private int failed;

    /** What the call answers, or the exact name of the exception that it throws. */
    static Object outcome(Call call) {
        try {
            return call.answer();
        } catch (RuntimeException e) {
            return "throws." + e.getClass().getName();
        }
    }

    void due(String what, Object want, Call call) {
        Object got = outcome(call);
        if (want.equals(got)) {
            passed++;
        } else {
            failed++;
            System.out.println(what + " answered " + got + ", due is " + want);
        }
    }

    void refuses(String what, Class<? extends RuntimeException> kind, Call call) {
        due(what, "throws." + kind.getName(), call);
    }

    /** A test for one sentence of the document, which is told with how many checks it had. */
    void sentence(String words, Runnable test) {
        int passedBefore = passed;
        int failedBefore = failed;
        test.run();
        if (passed == passedBefore) {
            failed++;
        }
        String found = failed == failedBefore ? "holds" : "DOES NOT HOLD";
        System.out.println("  " + found + " (" + (passed - passedBefore) + "): " + words);
    }

    void end(String name) {
        System.out.println(name + ": " + passed + " passed, " + failed + " failed");
        if (failed > 0 || passed == 0) {
            System.exit(1);
        }
    }
}
