import java.nio.charset.StandardCharsets;
import java.util.List;

/** Promise 29: fault. Each FAULT, its place, and which of two comes first. */
final class Promise29Fault {
    private static final List<String> TOKENS = List.of("shut", "worth", "whose", "yes", "or", "and", "not", "gas",
            "cracks", "size", "week", "people", "heard", "ask", "kin", "<=", ">=", "<", ">", "=", "#", "+", "-", "*",
            "/", "(", ")", ";", "5", "10000", "oil", "Gas", "?", "!", "_");
    private static final List<String> OF_VOTERS = List.of("heard", "ask", "kin");
    private static final List<String> OF_HOUSES = List.of("gas", "cracks", "size");
    private static final String COMPARES = " <= >= < > = # ";
    private static final String JOINS = " + - * / ";
    private static final String BEGINS = " 5 10000 ( - gas cracks size week people heard ask kin ";

    private Promise29Fault() {
    }

    static void tests(Edge edge) {
        what(edge);
        latest(edge);
        first(edge);
        beginnings(edge);
        insides(edge);
        ends(edge);
        separators(edge);
        letters(edge);
        longest(edge);
        numbers(edge);
        owners(edge);
        depth(edge);
        depthClosesAgain(edge);
        secondTime(edge);
        names(edge);
        clauses(edge);
        ofOneTheLeast(edge);
        lengths(edge);
        asksAlone(edge);
    }

    private static void faulty(Edge edge, String text, int kind, int place) {
        SeamFire x = new SeamFire(2, 2);
        edge.is("act() of " + text, kind == 0 ? 0 : -1, Due.act(x, text));
        edge.is("FAULT of " + text, kind, x.fault(0));
        edge.is("its place in " + text, place, x.fault(1));
    }

    private static void good(Edge edge, String text) {
        faulty(edge, text, 0, -1);
    }

    private static void what(Edge edge) {
        edge.sentence(29, "0 its FAULT (0 without), 1 its place (NONE without). NONE for others, and ahead of any");
        SeamFire x = new SeamFire(2, 2);
        edge.is("fault(0) ahead of any", -1, x.fault(0));
        edge.is("fault(1) ahead of any", -1, x.fault(1));
        Due.put(x, "?");
        edge.is("fault(0) of a tape that wasn't read", -1, x.fault(0));
        x.act();
        edge.is("fault(0)", 1, x.fault(0));
        edge.is("fault(1)", 0, x.fault(1));
        x.act();
        edge.is("fault(0) without", 0, x.fault(0));
        edge.is("fault(1) without", -1, x.fault(1));
        for (int what : new int[] {-1, 2, Edge.MIN, Edge.MAX}) {
            edge.refusedAlways("fault(" + what + ")", -1, o -> o.fault(what));
        }
    }

    private static void latest(Edge edge) {
        edge.sentence(29, "Of the latest text that was read");
        SeamFire x = new SeamFire(2, 2);
        Due.act(x, "worth 10000;");
        edge.is("the first", 2, x.fault(0));
        edge.is("its place", 6, x.fault(1));
        Due.act(x, "yes 1=1; yes 1=1;");
        edge.is("the second", 4, x.fault(0));
        edge.is("its place", 9, x.fault(1));
        x.feed(0, 0, 0, 0, 0);
        x.weeks(1);
        x.image();
        x.back();
        edge.is("the second still", 4, x.fault(0));
        edge.is("its place", 9, x.fault(1));
    }

    private static void first(Edge edge) {
        edge.sentence(29, "FAULTS, the first as TOKENS are come to, at the TOKEN's first byte");
        faulty(edge, "worth 10000 ?", 2, 6);
        faulty(edge, "worth ? 10000", 1, 6);
        faulty(edge, "worth kin 10000 ?", 5, 6);
        faulty(edge, "worth 1;worth 10000;", 4, 8);
        faulty(edge, "worth 10000;worth 1;", 2, 6);
        faulty(edge, "yes 1=1; shut kin=10000;", 5, 14);
        faulty(edge, "yes 1=1; shut 10000=kin;", 2, 14);
        faulty(edge, "  worth\n\n  cracked ;", 1, 11);
        faulty(edge, "worth (((((((((10000", 3, 14);
        faulty(edge, "worth ((((((((10000", 2, 14);
        faulty(edge, "worth 1 <= 2;", 1, 8);
        faulty(edge, "shut 1 2345 = 1;", 1, 7);
    }

    /** What may stand behind a beginning: all tokens are tried, and behind a good one comes a bad sign. */
    private static void behind(Edge edge, String beginning, String sort, String may) {
        for (String token : TOKENS) {
            int kind = 1;
            if (may.contains(" " + token + " ")) {
                kind = kindOf(token, sort);
            }
            int place = beginning.length();
            if (kind == 0) {
                faulty(edge, beginning + token + " ?", 1, place + token.length() + 1);
            } else {
                faulty(edge, beginning + token + " ;", kind, place);
            }
        }
    }

    private static int kindOf(String token, String sort) {
        if (token.equals("10000")) {
            return 2;
        }
        boolean wrong = OF_VOTERS.contains(token) && !sort.equals("yes")
                || OF_HOUSES.contains(token) && sort.equals("whose");
        return wrong ? 5 : 0;
    }

    private static void beginnings(Edge edge) {
        edge.sentence(29, "1 it can't stand there, or is none: where CLAUSES begin");
        behind(edge, "", "", " shut worth whose yes ");
        behind(edge, "whose 1 1=1; ", "", " shut worth whose yes ");
        behind(edge, "whose ", "whose", " 5 10000 ");
        for (String sort : List.of("shut", "whose", "yes")) {
            String head = sort.equals("whose") ? "whose 3 " : sort + " ";
            behind(edge, head, sort, BEGINS + "not ");
            behind(edge, head + "not ", sort, BEGINS + "not ");
            behind(edge, head + "not not ", sort, BEGINS + "not ");
            behind(edge, head + "1=1 or ", sort, BEGINS + "not ");
            behind(edge, head + "1=1 and ", sort, BEGINS + "not ");
        }
        behind(edge, "worth ", "worth", BEGINS);
    }

    private static void insides(Edge edge) {
        edge.sentence(29, "1 it can't stand there, or is none: within CLAUSES");
        for (String sort : List.of("shut", "whose", "yes")) {
            String head = sort.equals("whose") ? "whose 3 " : sort + " ";
            behind(edge, head + "week ", sort, JOINS + COMPARES);
            behind(edge, head + "not week ", sort, JOINS + COMPARES);
            behind(edge, head + "(week) ", sort, JOINS + COMPARES);
            behind(edge, head + "- week ", sort, JOINS + COMPARES);
            behind(edge, head + "week <= ", sort, BEGINS);
            behind(edge, head + "week # ", sort, BEGINS);
            behind(edge, head + "week = 1 ", sort, JOINS + " or and ; ");
            behind(edge, head + "week = (1) ", sort, JOINS + " or and ; ");
            behind(edge, head + "week = (1 ", sort, JOINS + ") ");
            behind(edge, head + "(week ", sort, JOINS + ") ");
            behind(edge, head + "( ", sort, BEGINS);
        }
        for (String join : List.of("+", "-", "*", "/")) {
            behind(edge, "worth 1 " + join + " ", "worth", BEGINS);
            behind(edge, "worth 1 " + join + " 2 ", "worth", JOINS + "; ");
        }
        behind(edge, "worth 1 ", "worth", JOINS + "; ");
        behind(edge, "worth people ", "worth", JOINS + "; ");
        behind(edge, "worth - ", "worth", BEGINS);
        behind(edge, "worth ( ", "worth", BEGINS);
        behind(edge, "worth ((1 ", "worth", JOINS + ") ");
        behind(edge, "worth ((1) ", "worth", JOINS + ") ");
        behind(edge, "worth ((1)) ", "worth", JOINS + "; ");
    }

    private static void ends(Edge edge) {
        edge.sentence(29, "of the end at the length");
        String[] heads = {"shut", "worth", "whose", "yes", "whose 1", "shut 1", "shut 1=", "shut 1=1", "shut not",
            "shut 1=1 or", "shut 1=1 and", "worth 1", "worth 1+", "worth 1/", "worth -", "worth (", "worth (1",
            "worth (1)", "yes 1=1; shut"};
        for (String head : heads) {
            faulty(edge, head, 1, head.length());
            faulty(edge, head + "  \n ", 1, head.length() + 4);
        }
        good(edge, "");
        good(edge, "\n");
        good(edge, "worth 1;");
        good(edge, "worth 1;  \n ");
    }

    private static void separators(Edge edge) {
        edge.sentence(29, "TOKENS, blanks (32, 10) aside");
        for (int b = 0; b < 256; b++) {
            String text = new String(new byte[] {'s', 'h', 'u', 't', (byte) b, '1', '=', '1', ';'},
                    StandardCharsets.ISO_8859_1);
            boolean letter = b >= 'a' && b <= 'z' || b >= 'A' && b <= 'Z';
            if (b == 32 || b == 10 || b == '-' || b >= '0' && b <= '9') {
                good(edge, text);
            } else if (b == '(') {
                faulty(edge, text, 1, 6);
            } else {
                faulty(edge, text, 1, letter ? 0 : 4);
            }
            faulty(edge, "worth 1" + (char) b, b == ';' ? 0 : 1, placeBehindOne(b));
        }
    }

    /** Of "worth 1" and one byte more: a digit, a blank or a sign that joins leaves the end wanting. */
    private static int placeBehindOne(int b) {
        if (b == ';') {
            return -1;
        }
        boolean goesOn = b == 32 || b == 10 || b >= '0' && b <= '9' || "+-*/".indexOf(b) >= 0;
        return goesOn ? 8 : 7;
    }

    private static void letters(Edge edge) {
        edge.sentence(29, "letters a .. z, A .. Z one behind the other (one TOKEN), digits likewise");
        for (String word : List.of("Shut", "sHut", "shuT", "SHUT", "shu", "shutt", "ashut", "zshut", "shuta", "shutz",
                "shutA", "shutZ", "s", "yesyes", "yesworth")) {
            faulty(edge, word + " 1=1;", 1, 0);
        }
        good(edge, "shut1=1;");
        good(edge, "yes kin=1or ask=2and 3=heard;");
        good(edge, "yes not 1=2or not 2=1;");
        faulty(edge, "yes not1=1or1=1;", 0, -1);
        faulty(edge, "yes notweek=1;", 1, 4);
        faulty(edge, "worth 1 2;", 1, 8);
        faulty(edge, "worth week people;", 1, 11);
        good(edge, "worth 12;");
        good(edge, "worth week+people;");
        faulty(edge, "sh ut 1=1;", 1, 0);
    }

    private static void longest(Edge edge) {
        edge.sentence(29, "<= >= < > = # + - * / ( ) ; (the longest)");
        good(edge, "shut 1<=2;");
        good(edge, "shut 1>=2;");
        good(edge, "shut 1<2;");
        good(edge, "shut 1>2;");
        faulty(edge, "shut 1< =2;", 1, 8);
        faulty(edge, "shut 1> =2;", 1, 8);
        faulty(edge, "shut 1=<2;", 1, 7);
        faulty(edge, "shut 1=>2;", 1, 7);
        faulty(edge, "shut 1<>2;", 1, 7);
        faulty(edge, "shut 1><2;", 1, 7);
        faulty(edge, "shut 1<==2;", 1, 8);
        faulty(edge, "shut 1==2;", 1, 7);
        faulty(edge, "shut 1##2;", 1, 7);
        faulty(edge, "shut 1<", 1, 7);
        faulty(edge, "shut 1<=", 1, 8);
        good(edge, "shut 1<-2;");
        good(edge, "shut 1<=-2;");
    }

    private static void numbers(Edge edge) {
        edge.sentence(29, "2 a NUMBER that isn't one of those told: NUMBERS, 0 .. 9999");
        good(edge, "worth 0;");
        good(edge, "worth 9999;");
        good(edge, "worth 009999;");
        for (String number : List.of("10000", "010000", "99999", "65536", "2147483647", "2147483648", "4294967295",
                "4294967296", "4294967297", "9223372036854775807", "9223372036854775808", "18446744073709551615",
                "18446744073709551616", "18446744073709551617", "340282366920938463463374607431768211456")) {
            faulty(edge, "worth " + number + ";", 2, 6);
            faulty(edge, "worth 1+-(" + number + ");", 2, 10);
            faulty(edge, "shut " + number + "=1;", 2, 5);
            faulty(edge, "yes 1<" + number + ";", 2, 6);
            faulty(edge, "whose " + number + " 1=1;", 2, 6);
            faulty(edge, "whose 1 1=" + number + ";", 2, 10);
            faulty(edge, number, 1, 0);
        }
        faulty(edge, "worth 9999 10000;", 1, 11);
    }

    private static void owners(Edge edge) {
        edge.sentence(29, "2 a NUMBER that isn't one of those told: whose NUMBER EITHER ; (0 .. 9)");
        for (int owner = 0; owner <= 9; owner++) {
            good(edge, "whose " + owner + " 1=1;");
        }
        good(edge, "whose 09 1=1;");
        for (int owner : new int[] {10, 11, 99, 100, 256, 9999, 10000}) {
            faulty(edge, "whose " + owner + " 1=1;", 2, 6);
        }
        faulty(edge, "whose 1=1;", 1, 7);
        faulty(edge, "whose -1 1=1;", 1, 6);
        faulty(edge, "whose (1) 1=1;", 1, 6);
    }

    private static void depth(Edge edge) {
        edge.sentence(29, "3 the 9th of ( not and - (of one ONE) that are open around one another (at it)");
        good(edge, "worth " + "(".repeat(8) + "1" + ")".repeat(8) + ";");
        faulty(edge, "worth " + "(".repeat(9) + "1" + ")".repeat(9) + ";", 3, 14);
        good(edge, "worth " + "-".repeat(8) + "1;");
        faulty(edge, "worth " + "-".repeat(9) + "1;", 3, 14);
        good(edge, "shut " + "not ".repeat(8) + "1=1;");
        faulty(edge, "shut " + "not ".repeat(9) + "1=1;", 3, 37);
        good(edge, "worth " + "-(".repeat(4) + "1" + ")".repeat(4) + ";");
        faulty(edge, "worth " + "-(".repeat(4) + "-1" + ")".repeat(4) + ";", 3, 14);
        faulty(edge, "worth " + "-(".repeat(4) + "(1)" + ")".repeat(4) + ";", 3, 14);
        good(edge, "yes not not not ((--(1)))=1;");
        good(edge, "yes not not not 1=((--(1)));");
        faulty(edge, "yes not not not ((--((1))))=1;", 3, 21);
        faulty(edge, "yes not not not 1=((--((1))));", 3, 23);
        faulty(edge, "whose 1 " + "not ".repeat(8) + "-1=1;", 3, 40);
        faulty(edge, "whose 1 " + "not ".repeat(8) + "(1)=1;", 3, 40);
        faulty(edge, "whose 1 " + "not ".repeat(8) + "1=-1;", 3, 42);
        faulty(edge, "shut 1=1 or 1=1 and " + "not ".repeat(9) + "1=1;", 3, 52);
        faulty(edge, "worth " + "(".repeat(290), 3, 14);
        faulty(edge, "worth " + "-".repeat(290), 3, 14);
        faulty(edge, "shut " + "not ".repeat(73), 3, 37);
    }

    private static void depthClosesAgain(Edge edge) {
        edge.sentence(29, "3 open around one another: what is closed doesn't count, nor - of two PRODUCTS");
        good(edge, "worth " + "(1)+".repeat(20) + "1;");
        good(edge, "worth " + "-1-".repeat(20) + "1;");
        good(edge, "worth " + "1-".repeat(40) + "1;");
        good(edge, "worth 1" + "-".repeat(9) + "1;");
        faulty(edge, "worth 1" + "-".repeat(10) + "1;", 3, 16);
        good(edge, "worth " + "(".repeat(8) + "1-1" + ")".repeat(8) + ";");
        faulty(edge, "worth " + "(".repeat(8) + "1--1" + ")".repeat(8) + ";", 3, 16);
        good(edge, "worth " + "(".repeat(8) + "1" + ")".repeat(8) + "*" + "-".repeat(8) + "1;");
        good(edge, "worth (((((((-1+-1+(1)))))))) ;");
        good(edge, "shut " + "not 1=1 and ".repeat(20) + "not 1=1;");
        good(edge, "shut " + "not 1=1 or ".repeat(20) + "not 1=1;");
        good(edge, "shut " + "not ".repeat(8) + "1=1 and " + "not ".repeat(8) + "1=1;");
        good(edge, "shut " + "not ".repeat(8) + "1=1 or " + "(".repeat(8) + "1" + ")".repeat(8) + "=1;");
        good(edge, "shut " + "(".repeat(8) + "1" + ")".repeat(8) + "=" + "(".repeat(8) + "1" + ")".repeat(8) + ";");
        good(edge, "shut " + "not ".repeat(8) + "1=1; yes " + "not ".repeat(8) + "1=1;");
    }

    private static void secondTime(Edge edge) {
        edge.sentence(29, "4 shut, worth, yes for the second time (at it)");
        faulty(edge, "shut 1=1; shut 1=1;", 4, 10);
        faulty(edge, "worth 1; worth 1;", 4, 9);
        faulty(edge, "yes 1=1; yes 1=1;", 4, 9);
        faulty(edge, "yes 1=1; worth 1; shut 1=1; whose 1 1=1; yes", 4, 41);
        faulty(edge, "shut 1=1; worth 1; shut", 4, 19);
        faulty(edge, "worth 1; whose 1 1=1; worth", 4, 22);
        good(edge, "shut 1=1; worth 1; yes 1=1;");
        good(edge, "yes 1=1; worth 1; shut 1=1;");
        good(edge, "whose 1 1=1; whose 1 1=1; whose 2 1=1;");
        SeamFire x = new SeamFire(2, 2);
        edge.is("one text", 0, Due.act(x, "shut 1=1; worth 1; yes 1=1;"));
        edge.is("the next begins anew", 1, Due.act(x, "shut 1=1; worth 1; yes 1=1;"));
        edge.is("with a FAULT", -1, Due.act(x, "shut 1=1; worth 1; yes 1"));
        edge.is("the next begins anew", 2, Due.act(x, "shut 1=1; worth 1; yes 1=1;"));
    }

    private static void names(Edge edge) {
        edge.sentence(29, "5 heard, ask, kin but in yes; gas, cracks, size in whose (at it)");
        for (String name : OF_VOTERS) {
            good(edge, "yes " + name + "=1;");
            good(edge, "yes 1=1 and not -(" + name + ")=1;");
            faulty(edge, "shut " + name + "=1;", 5, 5);
            faulty(edge, "shut 1=" + name + ";", 5, 7);
            faulty(edge, "worth " + name + ";", 5, 6);
            faulty(edge, "worth 1+-(" + name + ");", 5, 10);
            faulty(edge, "whose 1 " + name + "=1;", 5, 8);
            faulty(edge, "yes " + name + "=1; worth " + name + ";", 5, 14 + name.length());
        }
        for (String name : OF_HOUSES) {
            good(edge, "yes " + name + "=1;");
            good(edge, "shut " + name + "=1;");
            good(edge, "worth " + name + ";");
            faulty(edge, "whose 1 " + name + "=1;", 5, 8);
            faulty(edge, "whose 1 1=1 or 1=" + name + ";", 5, 17);
            good(edge, "whose 1 1=1; shut " + name + "=1;");
        }
        for (String name : List.of("week", "people")) {
            good(edge, "yes " + name + "=1; shut " + name + "=1; worth " + name + "; whose 1 " + name + "=1;");
        }
    }

    private static void clauses(Edge edge) {
        edge.sentence(29, "6 the 21st CLAUSE (at its first TOKEN): {CLAUSE}, 20 at most");
        String whose = "whose 1 1=1;";
        good(edge, whose.repeat(19));
        good(edge, whose.repeat(20));
        faulty(edge, whose.repeat(20) + whose, 6, 240);
        faulty(edge, whose.repeat(20) + "  worth", 6, 242);
        faulty(edge, whose.repeat(20) + "shut", 6, 240);
        faulty(edge, whose.repeat(20) + "yes", 6, 240);
        faulty(edge, whose.repeat(20) + "whose 10000", 6, 240);
        good(edge, "shut 1=1;worth 1;yes 1=1;" + whose.repeat(17));
        faulty(edge, "shut 1=1;worth 1;yes 1=1;" + whose.repeat(17) + "whose", 6, 229);
        good(edge, whose.repeat(20) + " \n");
    }

    private static void ofOneTheLeast(Edge edge) {
        edge.sentence(29, "of one the least");
        String whose = "whose 1 1=1;";
        faulty(edge, whose.repeat(19) + "worth 1;worth", 4, 236);
        faulty(edge, "yes 1=1;" + whose.repeat(19) + "yes", 4, 236);
        faulty(edge, whose.repeat(20) + "gas", 1, 240);
        faulty(edge, whose.repeat(20) + "10000", 1, 240);
        faulty(edge, "worth ((((((((not", 1, 14);
        faulty(edge, "worth 1 heard", 1, 8);
        faulty(edge, "whose gas", 1, 6);
        faulty(edge, "whose (", 1, 6);
        faulty(edge, "worth ((((((((1(", 1, 15);
        faulty(edge, "worth 1; 10000", 1, 9);
    }

    private static void lengths(Edge edge) {
        edge.sentence(29, "texts of up to 300 bytes: FAULTS to the last of them, and at the length");
        faulty(edge, " ".repeat(299) + "?", 1, 299);
        faulty(edge, " ".repeat(299) + "<", 1, 299);
        faulty(edge, " ".repeat(299) + "a", 1, 299);
        faulty(edge, " ".repeat(299) + "1", 1, 299);
        faulty(edge, " ".repeat(295) + "worth", 1, 300);
        faulty(edge, "worth " + "1+".repeat(147), 1, 300);
        faulty(edge, "worth " + "0".repeat(294), 1, 300);
        faulty(edge, "worth " + "9".repeat(294), 2, 6);
        faulty(edge, "worth " + "a".repeat(294), 1, 6);
        faulty(edge, "a".repeat(300), 1, 0);
        faulty(edge, ";".repeat(300), 1, 0);
        good(edge, " ".repeat(292) + "worth 1;");
        faulty(edge, "worth 1;".repeat(37), 4, 8);
    }

    private static void asksAlone(Edge edge) {
        edge.sentence(29, "Nothing beyond the answers and state changes described: it asks alone");
        edge.asksAlone("fault(0)", o -> o.fault(0));
        edge.asksAlone("fault(1)", o -> o.fault(1));
    }
}
