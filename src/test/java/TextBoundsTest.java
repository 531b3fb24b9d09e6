/**
 * The boundary cases of sections 1 and 2: every byte at every kind of place, every point where a text
 * can end, the ends of every range, names, limits, spaces, and which of two errors counts.
 */
public final class TextBoundsTest {
    private static final Checks CHECKS = new Checks("TextBoundsTest");
    private static final String TWO_NODES = "node a;node b;";
    private static final int BEGIN_OF_LINK = TWO_NODES.length();

    private TextBoundsTest() {
    }

    public static void main(String[] args) {
        everyByteAtTheBeginning();
        everyByteWhereANameIsDue();
        everyByteWhereAKnownNameIsDue();
        everyByteBehindAName();
        everyByteWhereANumberIsDue();
        everyByteBehindANumber();
        everyByteBetweenStatements();
        everyEnd();
        rangesOfSettings();
        rangesOfLinks();
        lastOneCounts();
        lengthsOfNames();
        namesThatAreTaken();
        twelveNodes();
        twentyFourLinks();
        spacesEverywhere();
        noSpaces();
        firstErrorEndsIt();
        wrongKeywords();
        longestText();
        bufferIsEmptiedByErrors();
        errorsChangeNothing();
        latestError();
        wholeBufferIsTheName();
        numbersOfTheText();
        CHECKS.end();
    }

    /** An error and its position; for a text without an error, the number of links. */
    private static void text(String text, int error, int position) {
        PathReservations net = new PathReservations();
        CHECKS.equal("load '" + text + "'", Nets.load(net, text), error == 0 ? position : -100 - position);
        CHECKS.equal("error of '" + text + "'", net.loadError(), error);
    }

    private static boolean isLetter(int b) {
        return b >= 'a' && b <= 'z';
    }

    private static boolean isDigit(int b) {
        return b >= '0' && b <= '9';
    }

    // ---- error 1: every byte from 1 to 255 (0 can't stand in the buffer)

    private static void everyByteAtTheBeginning() {
        for (int b = 1; b < 256; b++) {
            text((char) b + "node a", b == ' ' ? 0 : 1, 0);
        }
    }

    private static void everyByteWhereANameIsDue() {
        for (int b = 1; b < 256; b++) {
            if (isLetter(b)) {
                text("node " + (char) b, 0, 0);
            } else {
                text("node " + (char) b, 1, b == ' ' ? 6 : 5);
            }
        }
    }

    private static void everyByteWhereAKnownNameIsDue() {
        for (int b = 1; b < 256; b++) {
            String text = TWO_NODES + "link " + (char) b + " b 1 1 1";
            if (b == 'a') {
                text(text, 0, 1);
            } else if (b == 'b') {
                text(text, 3, BEGIN_OF_LINK + 7);
            } else if (b == ' ') {
                text(text, 1, BEGIN_OF_LINK + 9);
            } else {
                text(text, isLetter(b) ? 3 : 1, BEGIN_OF_LINK + 5);
            }
        }
    }

    private static void everyByteBehindAName() {
        for (int b = 1; b < 256; b++) {
            if (isLetter(b) || b == ' ') {
                text("node a" + (char) b, 0, 0);
            } else {
                text("node a" + (char) b, 1, b == ';' ? 7 : 6);
            }
        }
    }

    private static void everyByteWhereANumberIsDue() {
        for (int b = 1; b < 256; b++) {
            if (isDigit(b)) {
                text("hold " + (char) b, b == '0' ? 2 : 0, b == '0' ? 5 : 0);
            } else {
                text("hold " + (char) b, 1, b == ' ' ? 6 : 5);
            }
        }
    }

    private static void everyByteBehindANumber() {
        for (int b = 1; b < 256; b++) {
            if (isDigit(b) || b == ' ') {
                text("hold 5" + (char) b, 0, 0);
            } else {
                text("hold 5" + (char) b, 1, b == ';' ? 7 : 6);
            }
        }
    }

    private static void everyByteBetweenStatements() {
        for (int b = 1; b < 256; b++) {
            String text = "node a " + (char) b + "node b";
            if (b == ';') {
                text(text, 0, 0);
            } else {
                text(text, 1, b == ' ' ? 8 : 7);
            }
        }
    }

    /** Section 2: a text that ends too early has its length as the position, one cut in a keyword has not. */
    private static void everyEnd() {
        String text = "node a;node c;link a c 12 34 5;hold 7";
        int good = -1;
        int[] position = {
            0, 0, 0, 0, 4, 5, good, 7, 7, 7, 7, 11, 12, good, 14, 14, 14, 14, 18, 19, 20, 21, 22, 23, 24, 25,
            26, 27, 28, 29, good, 31, 31, 31, 31, 35, 36, good,
        };
        CHECKS.equal("every end is told", position.length, text.length() + 1);
        for (int end = 0; end < position.length; end++) {
            boolean whole = position[end] == good;
            int links = end < 30 ? 0 : 1;
            text(text.substring(0, end), whole ? 0 : 1, whole ? links : position[end]);
            boolean inKeyword = position[end] < end;
            if (!whole && !inKeyword) {
                text(text.substring(0, end) + "  ", 1, end + 2);
            }
        }
    }

    // ---- error 2: the ends of every range

    private static void rangesOfSettings() {
        String[] names = {"hold", "retry", "tries", "expire", "cancel"};
        int[] least = {1, 1, 1, 0, 0};
        int[] greatest = {500, 100, 9, 100, 100};
        for (int what = 0; what < names.length; what++) {
            int place = names[what].length() + 1;
            for (int value : new int[] {least[what], greatest[what]}) {
                CHECKS.equal(names[what] + " " + value, Nets.net(names[what] + " " + value).setting(what), value);
                CHECKS.equal(names[what] + " 0" + value, Nets.net(names[what] + " 0" + value).setting(what), value);
            }
            text(names[what] + " " + (greatest[what] + 1), 2, place);
            text(names[what] + " 00" + (greatest[what] + 1), 2, place);
            if (least[what] > 0) {
                text(names[what] + " " + (least[what] - 1), 2, place);
                text(names[what] + " 000", 2, place);
            }
            for (String huge : hugeNumbers(least[what])) {
                text(names[what] + "  " + huge, 2, place + 1);
            }
        }
    }

    /** Numbers that would be in the range if they wrapped round in 8, 16, 31, 32, 63 or 64 bits. */
    private static String[] hugeNumbers(int inRange) {
        java.math.BigInteger one = java.math.BigInteger.ONE;
        int[] bits = {31, 32, 33, 63, 64, 65, 128};
        String[] numbers = new String[bits.length + 1];
        for (int i = 0; i < bits.length; i++) {
            numbers[i] = one.shiftLeft(bits[i]).add(java.math.BigInteger.valueOf(inRange)).toString();
        }
        numbers[bits.length] = "1" + "0".repeat(600);
        return numbers;
    }

    private static void rangesOfLinks() {
        String begin = TWO_NODES + "link a b ";
        int[] least = {0, 0, 1};
        int[] greatest = {1000, 1000, 50};
        for (int i = 0; i < least.length; i++) {
            for (int value : new int[] {least[i], greatest[i]}) {
                PathReservations net = Nets.net(begin + numbers(i, "" + value));
                CHECKS.equal("number " + i + " of a link is " + value, net.linkValue(0, 2 + i), value);
            }
            int place = begin.length() + 2 * i;
            text(begin + numbers(i, "" + (greatest[i] + 1)), 2, place);
            text(begin + numbers(i, "-1"), 1, place);
            if (least[i] > 0) {
                text(begin + numbers(i, "" + (least[i] - 1)), 2, place);
            }
            for (String huge : hugeNumbers(least[i])) {
                text(begin + numbers(i, huge), 2, place);
            }
        }
    }

    /** Three numbers of one digit, one of which is another one. */
    private static String numbers(int index, String other) {
        String[] numbers = {"7", "8", "9"};
        numbers[index] = other;
        return String.join(" ", numbers);
    }

    private static void lastOneCounts() {
        String[] names = {"hold", "retry", "tries", "expire", "cancel"};
        for (int what = 0; what < names.length; what++) {
            PathReservations net = Nets.net(names[what] + " 9;" + names[what] + " 3;" + names[what] + " 4");
            CHECKS.equal("the last " + names[what], net.setting(what), 4);
            int wrong = (names[what] + " 9;").length() + names[what].length() + 1;
            text(names[what] + " 9;" + names[what] + " 501;" + names[what] + " 4", 2, wrong);
        }
    }

    // ---- error 3: names

    private static void lengthsOfNames() {
        String letters = "abcdefghijklmnopqrstuvwxyz";
        for (int length = 1; length <= 26; length++) {
            String name = letters.substring(0, length);
            boolean fits = length <= 6;
            text("node " + name, fits ? 0 : 3, fits ? 0 : 5);
            String begin = "node abcdef;node " + (char) ('z' - length % 2) + ";link ";
            text(begin + name + " abcdef 1 1 1", 3, begin.length() + (length == 6 ? 7 : 0));
        }
        text("node abcdef;node q;link q abcdef 1 1 1", 0, 1);
        text("node abcdef;node q;link q abcdefg 1 1 1", 3, 26);
        text("node abcdef;node q;link q abcde 1 1 1", 3, 26);
        CHECKS.equal("six letters", Nets.net("node zyxwvu").nameLetter(0, 5), 'u');
    }

    private static void namesThatAreTaken() {
        text("node a;node b;node a", 3, 19);
        text("node a;node b;node b", 3, 19);
        text("node ab;node a;node b;node ba", 0, 0);
        text("node abcdef;node abcdeg;node bbcdef", 0, 0);
        text("node abcdef;node  abcdef", 3, 18);
        text(Nets.nodes(11) + ";node k", 3, 82);
        text(TWO_NODES + "link b b 1 1 1", 3, BEGIN_OF_LINK + 7);
        text(TWO_NODES + "link  c  c 1 1 1", 3, BEGIN_OF_LINK + 6);
        text(TWO_NODES + "link b c 1 1 1;node c", 3, BEGIN_OF_LINK + 7);
        text("link a b 1 1 1;" + TWO_NODES + "hold 5", 3, 5);
    }

    // ---- error 4: too many

    private static void twelveNodes() {
        CHECKS.equal("eleven", Nets.net(Nets.nodes(11)).nodeCount(), 11);
        CHECKS.equal("twelve", Nets.net(Nets.nodes(12)).nodeCount(), 12);
        String twelve = Nets.nodes(12) + ";";
        text(twelve + "node m", 4, twelve.length());
        text(twelve + " node m", 4, twelve.length() + 1);
        text(twelve + "nodem", 1, twelve.length());
        text(twelve + "link l l 1 1 1", 3, twelve.length() + 7);
        text(twelve + "link l a 1 1 1;node m", 4, twelve.length() + 15);
        text(twelve + "node a;node m", 4, twelve.length());
        text(twelve + "node abcdefg", 4, twelve.length());
    }

    private static void twentyFourLinks() {
        String most = TWO_NODES + "link a b 1 1 1;".repeat(23);
        CHECKS.equal("23 links", Nets.net(most + "hold 5").linkCount(), 23);
        CHECKS.equal("24 links", Nets.net(most + "link b a 1 1 1").linkCount(), 24);
        String all = most + "link b a 1 1 1;";
        text(all + "link a b 1 1 1", 4, all.length());
        text(all + "  link b a 1 1 1", 4, all.length() + 2);
        text(all + "link c b 1 1 1", 4, all.length());
        text(all + "link a b 1 1 51", 4, all.length());
        text(all + "node c", 0, 24);
        text(all + "node c;link a b 1 1 1", 4, all.length() + 7);
        text(all + "node a", 3, all.length() + 5);
        text(all + "linka b 1 1 1", 1, all.length());
    }

    // ---- spaces

    private static void spacesEverywhere() {
        String spread = "  node   a  ;   node    b  ;  link   a   b   7    8   9  ;   hold   6   ;  tries  2   ";
        PathReservations net = Nets.net(spread);
        CHECKS.equal("nodes", net.nodeCount(), 2);
        CHECKS.equal("capacity", net.linkValue(0, 2), 7);
        CHECKS.equal("price", net.linkValue(0, 3), 8);
        CHECKS.equal("delay", net.linkValue(0, 4), 9);
        CHECKS.equal("hold", net.setting(0), 6);
        CHECKS.equal("tries", net.setting(2), 2);
        text(" ", 1, 1);
        text("node a ;", 1, 8);
        text("node a ; ", 1, 9);
        text("no de a", 1, 0);
        text("node a b", 1, 7);
        text("hold 1 2", 1, 7);
        text("hold 1 ;hold 2 x", 1, 15);
    }

    /** They may stand there, but need not. */
    private static void noSpaces() {
        PathReservations net = Nets.net("hold6;node a;node b;link a b7 8 9");
        CHECKS.equal("hold", net.setting(0), 6);
        CHECKS.equal("capacity", net.linkValue(0, 2), 7);
        text("nodea", 1, 0);
        text(TWO_NODES + "link ab 7 8 9", 3, BEGIN_OF_LINK + 5);
        text(TWO_NODES + "link a b 789", 1, BEGIN_OF_LINK + 12);
    }

    // ---- which error counts

    private static void firstErrorEndsIt() {
        String[] texts = {"x", "hold 0", "node a", "node q"};
        int[] errors = {1, 2, 3, 4};
        int[] offsets = {0, 5, 5, 0};
        String begin = Nets.nodes(11) + ";";
        String full = Nets.nodes(12) + ";";
        for (int first = 0; first < texts.length; first++) {
            String before = errors[first] == 4 ? full : begin;
            for (int second = 0; second < texts.length; second++) {
                String text = before + texts[first] + ";" + texts[second];
                text(text, errors[first], before.length() + offsets[first]);
            }
        }
        text(TWO_NODES + "link a a 1001 1001 51", 3, BEGIN_OF_LINK + 7);
        text(TWO_NODES + "link c a 1001 1001 51", 3, BEGIN_OF_LINK + 5);
        text(TWO_NODES + "link a b 1001 1001 51", 2, BEGIN_OF_LINK + 9);
        text(TWO_NODES + "link a b 1000 1001 51", 2, BEGIN_OF_LINK + 14);
        text(TWO_NODES + "link a b 1000 1000 51;", 2, BEGIN_OF_LINK + 19);
        text(TWO_NODES + "link a b 1000 1000 50;", 1, BEGIN_OF_LINK + 22);
        text(TWO_NODES + "link a b 1001", 2, BEGIN_OF_LINK + 9);
        text(TWO_NODES + "link a 5 1001", 1, BEGIN_OF_LINK + 7);
        text("hold 501x", 2, 5);
        text("hold 500x", 1, 8);
        text("node abcdefg5", 3, 5);
    }

    private static void wrongKeywords() {
        for (String word : new String[] {"nod", "nodes", "lin", "links", "hol", "holds", "retr", "retrys", "trie",
            "triesx", "expir", "expires", "cance", "cancels", "a", "zzzzzz", "xnode", "anode", "holdhold"}) {
            text(word + " a", 1, 0);
            text("node a; " + word + " 5", 1, 8);
        }
        text("HOLD 5", 1, 0);
        text("Hold 5", 1, 0);
        text("hOLD 5", 1, 0);
    }

    // ---- the buffer

    private static void longestText() {
        String text = TWO_NODES + "link a b 3 4 5";
        PathReservations net = new PathReservations();
        CHECKS.equal("700 bytes", Nets.write(net, " ".repeat(700 - text.length()) + text), 700);
        CHECKS.equal("one more", net.append('x'), -2);
        CHECKS.equal("is not taken", net.append(0), 700);
        CHECKS.equal("all is read", net.load(), 1);
        CHECKS.equal("the last number", net.linkValue(0, 4), 5);
        CHECKS.equal("a name of 700 letters", Nets.write(net, "a".repeat(700)), 700);
        CHECKS.equal("is no keyword", net.load(), -100);
        CHECKS.equal("and no name", Nets.write(net, "node " + "a".repeat(695)), 700);
        CHECKS.equal("at its first letter", net.load(), -105);
        CHECKS.equal("699 bytes", Nets.write(net, "hold " + "0".repeat(693) + "5"), 699);
        CHECKS.equal("two more are too many", net.append(0x3031), -2);
        CHECKS.equal("a byte 0 does not count", net.append(0x3000), 700);
        CHECKS.equal("a long number", net.load(), 0);
        CHECKS.equal("is 50", net.setting(0), 50);
        CHECKS.equal("700 semicolons", Nets.write(net, ";".repeat(700)), 700);
        CHECKS.equal("the first one is wrong", net.load(), -100);
    }

    private static void bufferIsEmptiedByErrors() {
        for (String text : new String[] {"x", "hold 0", "node abcdefg", Nets.nodes(12) + ";node m", "node", "node a"}) {
            PathReservations net = new PathReservations();
            Nets.load(net, text);
            CHECKS.equal("empty after '" + text + "'", net.append(0), 0);
            CHECKS.equal("a good text after '" + text + "'", Nets.load(net, Nets.TRIANGLE), 3);
            CHECKS.equal("its error", net.loadError(), 0);
            CHECKS.equal("an empty text then", net.load(), -100);
            CHECKS.equal("error 1", net.loadError(), 1);
            CHECKS.equal("changes nothing", net.linkCount(), 3);
        }
    }

    private static void errorsChangeNothing() {
        String[] texts = {
            "hold 9;retry 9;tries 9;expire 9;cancel 9;x", "node x;node y;link x y 1 1 1;hold 0",
            "node x;node y;link x y 1 1 1;node x", Nets.nodes(12) + ";node m", "hold 9;",
            "node x;node y" + ";link x y 1 1 1".repeat(25), "",
        };
        for (String text : texts) {
            PathReservations net = Nets.net("retry 7;" + Nets.TRIANGLE);
            net.request(0, 2, 2, 9);
            net.advance(4);
            net.takeDown(2);
            String before = Nets.state(net);
            boolean wrong = Nets.load(net, text) <= -100;
            CHECKS.same("an error in '" + text + "'", wrong, true);
            CHECKS.same("nothing changed by '" + text + "'", Nets.state(net), before);
            CHECKS.equal("nodes after '" + text + "'", net.nodeCount(), 3);
            CHECKS.equal("links after '" + text + "'", net.linkCount(), 3);
            CHECKS.equal("node c after '" + text + "'", Nets.nodeNamed(net, "c"), 2);
            CHECKS.equal("node x after '" + text + "'", Nets.nodeNamed(net, "x"), -1);
        }
    }

    /** Promise 4: of the latest call, whatever came before. */
    private static void latestError() {
        String[] texts = {"node a", "x", "hold 0", "node abcdefg", Nets.nodes(12) + ";node m"};
        for (int first = 0; first < texts.length; first++) {
            for (int second = 0; second < texts.length; second++) {
                PathReservations net = new PathReservations();
                Nets.load(net, texts[first]);
                CHECKS.equal("error of '" + texts[first] + "'", net.loadError(), first);
                Nets.load(net, texts[second]);
                CHECKS.equal("then of '" + texts[second] + "'", net.loadError(), second);
                CHECKS.equal("asked again", net.loadError(), second);
            }
        }
    }

    /** Promise 5: exactly this name, and the buffer is emptied in any case. */
    private static void wholeBufferIsTheName() {
        String text = "node ab;node abc;node abcdef";
        for (int b = 1; b < 256; b++) {
            PathReservations net = Nets.net(text);
            CHECKS.equal("ab and the byte " + b, Nets.nodeNamed(net, "ab" + (char) b), b == 'c' ? 1 : -1);
            CHECKS.equal("the buffer is empty", net.append(0), 0);
            CHECKS.equal("the byte " + b + " and ab", Nets.nodeNamed(net, (char) b + "ab"), -1);
            CHECKS.equal("abcde and the byte " + b, Nets.nodeNamed(net, "abcde" + (char) b), b == 'f' ? 2 : -1);
            CHECKS.equal("abcdef and the byte " + b, Nets.nodeNamed(net, "abcdef" + (char) b), -1);
        }
        PathReservations net = Nets.net(text);
        CHECKS.equal("an empty buffer", net.nodeNamed(), -1);
        CHECKS.equal("700 bytes", Nets.nodeNamed(net, "abcdef".repeat(116) + "abcd"), -1);
        CHECKS.equal("its last six letters", Nets.nodeNamed(net, "ghabcdef"), -1);
        CHECKS.equal("the name itself", Nets.nodeNamed(net, "abcdef"), 2);
        Nets.write(net, "ab");
        net.load();
        CHECKS.equal("a load took the name away", net.nodeNamed(), -1);
    }

    /** Section 1: the order of the text gives the numbers; all links are up at first. */
    private static void numbersOfTheText() {
        PathReservations net = Nets.net("node c;node a;link a c 1 2 3;node b;link c b 4 5 6;"
            + "link b a 7 8 9;link c b 4 5 6");
        String names = "cab";
        int[][] links = {{1, 0, 1, 2, 3}, {0, 2, 4, 5, 6}, {2, 1, 7, 8, 9}, {0, 2, 4, 5, 6}};
        CHECKS.equal("nodes", net.nodeCount(), names.length());
        for (int node = 0; node < names.length(); node++) {
            CHECKS.equal("name of node " + node, net.nameLetter(node, 0), names.charAt(node));
        }
        CHECKS.equal("links", net.linkCount(), links.length);
        for (int link = 0; link < links.length; link++) {
            for (int what = 0; what < 5; what++) {
                CHECKS.equal("value " + what + " of link " + link, net.linkValue(link, what), links[link][what]);
            }
            CHECKS.equal("link " + link + " is up", net.linkValue(link, 8), 1);
            CHECKS.equal("nothing is promised on link " + link, net.linkValue(link, 5), 0);
            CHECKS.equal("all is available on link " + link, net.linkValue(link, 6), links[link][2]);
            CHECKS.equal("nothing failed at link " + link, net.linkValue(link, 7), 0);
        }
    }
}
