/** Counts the answers that are not as due, for the tests beside it. */
final class Check {
    /** A call that may throw, or any other thing to do. */
    interface Call {
        long answer();
    }

    private int wrong;

    void due(String what, long got, long want) {
        if (got != want) {
            wrong++;
            System.out.println(what + " answered " + got + ", due is " + want);
        }
    }

    void due(String what, boolean got, boolean want) {
        due(what, got ? 1 : 0, want ? 1 : 0);
    }

    /** The call must throw just this class (not one below it), and leave the digest as it was. */
    void refused(String what, BridgeAuction x, Class<? extends RuntimeException> due, Call call) {
        long before = x.digest();
        Class<?> thrown = null;
        try {
            call.answer();
        } catch (RuntimeException e) {
            thrown = e.getClass();
        }
        if (thrown != due) {
            wrong++;
            System.out.println(what + " threw " + thrown + ", due is " + due);
        }
        due("digest after the refused " + what, x.digest(), before);
    }

    void finish() {
        System.out.println(wrong == 0 ? "all answers are as due" : wrong + " answers are not as due");
        if (wrong != 0) {
            System.exit(1);
        }
    }

    static void type(BridgeAuction x, String script) {
        for (int i = 0; i < script.length(); i++) {
            x.type(script.charAt(i));
        }
    }

    /** Runs this text as the script and empties it again. */
    static int runText(BridgeAuction x, String script) {
        x.clearScript();
        type(x, script);
        int answer = x.run();
        x.clearScript();
        return answer;
    }
}
