/**
 * The edges that the document names for scripts (promises 23, 24 and 25): one method for each
 * sentence.
 */
final class EdgeScriptTest {
    private static final Check check = new Check();
    private static final Class<IllegalArgumentException> ARGUMENT = IllegalArgumentException.class;
    private static final Class<IllegalStateException> STATE = IllegalStateException.class;
    private static final String[] WORDS = {"link", "bid", "fail", "fix", "prio", "host", "tick"};
    private static final int[] NUMBERS = {3, 3, 1, 1, 2, 2, 1};

    public static void main(String[] args) {
        leastAndGreatestByte();
        anEmptyScript();
        aFullScript();
        aFullScriptThatEndsTooSoon();
        clearingTellsTheLength();
        everyByteInFrontOfACommand();
        everyByteBehindAWord();
        everyByteInFrontOfANumber();
        everyByteBehindADigit();
        everyByteBehindFourDigits();
        everyByteBehindANumberThatIsNotTheLast();
        everyByteBehindTheLastNumber();
        everyByteBehindACommand();
        everyPrefixOfAScript();
        theFirstOfTwoFaults();
        oneNumberTooFewOrTooMany();
        oneToFourDigits();
        wordsThatAreNoCommands();
        wordsThatAreTooShortOrTooLong();
        spacesWhereTheyMayStand();
        nothingIsDoneWithAFault();
        greatestNumbersOfEveryCommand();
        numbersOutOfRangeEndTheRun();
        stoppedByEachException();
        whatWasDoneBeforeStays();
        theScriptStaysAsItIs();
        check.finish();
    }

    private static int run(String script) {
        return Check.runText(new BridgeAuction(), script);
    }

    private static void fault(String script, int due) {
        check.due("'" + script + "'", run(script), -10 - due);
    }

    private static boolean isLetter(int value) {
        return value >= 'a' && value <= 'z';
    }

    private static boolean isDigit(int value) {
        return value >= '0' && value <= '9';
    }

    /** "value: 0 to 127" */
    private static void leastAndGreatestByte() {
        BridgeAuction x = new BridgeAuction();
        check.due("type(0)", x.type(0), 1);
        check.due("type(127)", x.type(127), 2);
        check.refused("type(-1)", x, ARGUMENT, () -> x.type(-1));
        check.refused("type(128)", x, ARGUMENT, () -> x.type(128));
        check.refused("type(256 + ' ')", x, ARGUMENT, () -> x.type(256 + ' '));
    }

    private static void anEmptyScript() {
        BridgeAuction x = new BridgeAuction();
        check.due("run", x.run(), 0);
        check.due("it is undoable", x.undo(), 0);
        check.due("clearScript", x.clearScript(), 0);
    }

    /** "The script has at most 120 bytes." */
    private static void aFullScript() {
        BridgeAuction x = new BridgeAuction();
        String script = "tick 1;".repeat(16) + "tick 10;";
        for (int i = 0; i < 120; i++) {
            check.due("type", x.type(script.charAt(i)), i + 1);
        }
        check.refused("the 121st byte", x, STATE, () -> x.type(' '));
        check.refused("a wrong 121st byte", x, ARGUMENT, () -> x.type(128));
        check.refused("another wrong 121st byte", x, ARGUMENT, () -> x.type(-1));
        check.due("run", x.run(), 17);
        check.due("time", x.time(), 26);
        check.due("clearScript", x.clearScript(), 120);
        check.due("there is room again", x.type(' '), 1);
    }

    /** "or the length of the script if it ends too soon" */
    private static void aFullScriptThatEndsTooSoon() {
        fault(" ".repeat(114) + "tick 1", 120);
        fault(" ".repeat(116) + "tick", 120);
        fault(" ".repeat(119) + "!", 119);
        check.due("spaces alone", run(" ".repeat(120)), 0);
        check.due("a command at the very end", run(" ".repeat(113) + "tick 1;"), 1);
    }

    private static void clearingTellsTheLength() {
        BridgeAuction x = new BridgeAuction();
        for (int length = 0; length <= 120; length += 40) {
            Check.type(x, "x".repeat(length));
            check.due("clearScript", x.clearScript(), length);
            check.due("and again", x.clearScript(), 0);
        }
    }

    /** "The fault of a script is the index of the first byte that cannot stand at its place" */
    private static void everyByteInFrontOfACommand() {
        for (char v = 0; v < 128; v++) {
            check.due("a byte " + (int) v + " alone", run("" + v), v == ' ' ? 0 : -10);
        }
    }

    private static void everyByteBehindAWord() {
        for (char v = 0; v < 128; v++) {
            // A letter makes it another word.
            fault("tick" + v, isLetter(v) ? 0 : v == ' ' ? 5 : 4);
        }
    }

    private static void everyByteInFrontOfANumber() {
        for (char v = 0; v < 128; v++) {
            fault("tick " + v, v == ' ' || isDigit(v) ? 6 : 5);
        }
    }

    private static void everyByteBehindADigit() {
        for (char v = 0; v < 128; v++) {
            if (v == ';') {
                check.due("tick 1;", run("tick 1;"), 1);
            } else {
                fault("tick 1" + v, v == ' ' || isDigit(v) ? 7 : 6);
            }
        }
    }

    /** "each of one to four digits" */
    private static void everyByteBehindFourDigits() {
        for (char v = 0; v < 128; v++) {
            if (v == ';') {
                check.due("tick 0001;", run("tick 0001;"), 1);
            } else {
                fault("tick 0001" + v, v == ' ' ? 10 : 9);
            }
        }
    }

    private static void everyByteBehindANumberThatIsNotTheLast() {
        for (char v = 0; v < 128; v++) {
            fault("prio 1" + v, v == ' ' || isDigit(v) ? 7 : 6);
            fault("link 0 1" + v, v == ' ' || isDigit(v) ? 9 : 8);
            fault("prio 1 " + v, v == ' ' || isDigit(v) ? 8 : 7);
        }
    }

    private static void everyByteBehindTheLastNumber() {
        for (char v = 0; v < 128; v++) {
            if (v == ';') {
                check.due("tick 1 ;", run("tick 1 ;"), 1);
            } else {
                fault("tick 1 " + v, v == ' ' ? 8 : 7);
            }
        }
    }

    private static void everyByteBehindACommand() {
        for (char v = 0; v < 128; v++) {
            check.due("a command and the byte " + (int) v, run("tick 1;" + v), v == ' ' ? 1 : -17);
        }
    }

    private static void everyPrefixOfAScript() {
        String script = " link 0 1 5; bid 3 0 1000 ;fail 0;fix 0;prio 3 9;host 7 3;tick 200; ";
        for (int length = 0; length <= script.length(); length++) {
            String prefix = script.substring(0, length);
            String rest = prefix.substring(prefix.lastIndexOf(';') + 1);
            String word = rest.trim().split(" ")[0];
            boolean isWord = java.util.List.of(WORDS).contains(word);
            int commands = prefix.length() - prefix.replace(";", "").length();
            int due = word.isEmpty() ? commands : isWord ? -10 - length : -10 - prefix.lastIndexOf(word);
            check.due("'" + prefix + "'", run(prefix), due);
        }
    }

    private static void theFirstOfTwoFaults() {
        fault("prio 1tick 1;!", 6);
        fault("tick 1 tick 1;!", 7);
        fault("tick tick 1;!", 5);
        fault("tick!tock 1;", 4);
        fault("tock 1;!", 0);
        fault("!tick 1;!", 0);
    }

    /** "followed by its numbers" */
    private static void oneNumberTooFewOrTooMany() {
        for (int w = 0; w < WORDS.length; w++) {
            String fewer = WORDS[w] + " 1".repeat(NUMBERS[w] - 1);
            String right = fewer + " 1";
            fault(fewer + ";", fewer.length());
            fault(fewer + " ;", fewer.length() + 1);
            fault(right + " 1;", right.length() + 1);
            check.due("'" + right + ";' has no fault", run(right + ";") >= 0, true);
        }
    }

    private static void oneToFourDigits() {
        check.due("one", run("tick 7;"), 1);
        check.due("two", run("tick 07;"), 1);
        check.due("three", run("tick 007;"), 1);
        check.due("four", run("tick 0007;"), 1);
        fault("tick 00007;", 9);
        fault("link 0 1 00001;", 13);
        check.due("the greatest is no fault", run("tick 9999;"), 0);
    }

    /** "A word that is not one of these is at fault with its first byte" */
    private static void wordsThatAreNoCommands() {
        String[] others = {"grant 0 1;", "send 0 1;", "times 1 5 0;", "undo;", "run;", "bridges 4;", "a 1;", "z 1;"};
        for (String other : others) {
            fault(other, 0);
            fault("tick 1;  " + other, 9);
        }
        fault("Tick 1;", 0);
        fault("tIck 1;", 0);
        fault("ticK 1;", 0);
    }

    /** "found when the word is complete: when a byte that is no letter, or the end of the script, follows it" */
    private static void wordsThatAreTooShortOrTooLong() {
        for (String word : WORDS) {
            for (int length = 1; length < word.length(); length++) {
                String part = word.substring(0, length);
                fault(part, 0);
                fault(part + " 1;", 0);
                fault(part + ";", 0);
                fault(part + "1;", 0);
            }
            fault(word + word, 0);
            fault(word + "a 1 1 1;", 0);
            fault("a" + word + " 1 1 1;", 0);
            fault(word, word.length());
        }
        for (String word : WORDS) {
            for (int place = 0; place < word.length(); place++) {
                fault(word.substring(0, place) + "z" + word.substring(place + 1) + " 1 1 1;", 0);
            }
        }
        fault("x".repeat(120), 0);
        fault(" " + "x".repeat(119), 1);
    }

    /** "Spaces may also stand in front of a command, in front of a semicolon, and at the end." */
    private static void spacesWhereTheyMayStand() {
        check.due("everywhere", run("   tick   1   ;   tick   2   ;   "), 2);
        check.due("nowhere but in front of a number", run("tick 1;tick 2;"), 2);
        fault("ti ck 1;", 0);
        fault("tick 1 1;", 7);
        fault("tick1;", 4);
        fault("link 0 1, 5;", 8);
    }

    /** "if it has a fault, nothing is done" */
    private static void nothingIsDoneWithAFault() {
        BridgeAuction x = Recipe.busy();
        x.clearScript();
        Check.type(x, "tick 1;link 0 3 1;x");
        long before = x.digest();
        check.due("run", x.run(), -10 - 18);
        check.due("digest", x.digest(), before);
        check.due("three states are saved still", x.undo(), 2);
    }

    private static void greatestNumbersOfEveryCommand() {
        BridgeAuction x = new BridgeAuction();
        check.due("run", Check.runText(x, "link 3 0 100;bid 3 0 1000;prio 3 9;host 7 0;tick 200;fail 0;fix 0;"), 7);
        check.due("lower bridge", x.link(0, 0), 0);
        check.due("higher bridge", x.link(0, 1), 3);
        check.due("cost", x.link(0, 2), 100);
        check.due("bid", x.bidOf(3, 0), 1000);
        check.due("priority", x.setPriority(3, 9), 9);
        check.due("host", x.moveHost(7, 0), 0);
        check.due("time", x.time(), 200);
        check.due("up", x.link(0, 4), 1);
        check.due("run", Check.runText(x, "link 0 3 1;bid 0 1 0;prio 0 0;host 0 3;tick 1;"), 5);
        check.due("cost", x.link(1, 2), 1);
        check.due("priority", x.setPriority(0, 0), 0);
        check.due("host", x.moveHost(0, 3), 3);
        check.due("time", x.time(), 201);
        check.due("run", Check.runText(x, "fail 1;fail 0;fix 1;"), 3);
        check.due("link 0 is down", x.link(0, 4), 0);
        check.due("link 1 is up", x.link(1, 4), 1);
        check.due("run", Check.runText(x, "fix 1;"), 0);
        check.due("run", Check.runText(x, "fail 0;"), 0);
    }

    private static void stops(String command) {
        BridgeAuction x = new BridgeAuction();
        x.addLink(0, 1, 1);
        BridgeAuction y = new BridgeAuction();
        y.addLink(0, 1, 1);
        y.tick(1);
        check.due("'" + command + "'", Check.runText(x, "tick 1;" + command + "tick 1;"), 1);
        check.due("digest after '" + command + "'", x.digest(), y.digest());
    }

    private static void numbersOutOfRangeEndTheRun() {
        String[] commands = {"link 0 4 1;", "link 4 0 1;", "link 0 0 1;", "link 0 1 0;", "link 0 1 101;",
            "bid 4 0 1;", "bid 0 1 1;", "bid 0 0 1001;", "fail 1;", "fix 1;", "fix 0;", "prio 4 0;", "prio 0 10;",
            "host 8 0;", "host 0 4;", "tick 0;", "tick 201;", "tick 9999;"};
        for (String command : commands) {
            stops(command);
        }
    }

    /** "until one of them would throw an exception, which is not thrown" */
    private static void stoppedByEachException() {
        BridgeAuction x = Recipe.full();
        check.due("IllegalStateException of a link", Check.runText(x, "link 0 1 1;tick 1;"), 0);
        check.due("IllegalStateException of fail", Check.runText(x, "fail 15;tick 1;"), 0);
        check.due("IllegalStateException of fix", Check.runText(x, "fix 14;tick 1;"), 0);
        check.due("IndexOutOfBoundsException", Check.runText(x, "fix 16;tick 1;"), 0);
        check.due("IllegalArgumentException", Check.runText(x, "link 0 0 1;tick 1;"), 0);
        check.due("time", x.time(), 12);
        check.due("it is undoable even so", x.undo(), 2);
    }

    private static void whatWasDoneBeforeStays() {
        BridgeAuction x = new BridgeAuction();
        check.due("run", Check.runText(x, "link 0 1 5;fail 0;fail 0;fix 0;"), 2);
        check.due("links", x.links(), 1);
        check.due("it is down", x.link(0, 4), 0);
        check.due("undo", x.undo(), 0);
        check.due("links before", x.links(), 0);
    }

    /** "Runs the script, which stays as it is." */
    private static void theScriptStaysAsItIs() {
        BridgeAuction x = new BridgeAuction();
        Check.type(x, "tick 2;");
        check.due("run", x.run(), 1);
        check.due("run again", x.run(), 1);
        x.type('!');
        check.due("run with a fault", x.run(), -10 - 7);
        check.due("and again", x.run(), -10 - 7);
        check.due("time", x.time(), 4);
        check.due("clearScript", x.clearScript(), 8);
        check.due("run of nothing", x.run(), 0);
    }
}
