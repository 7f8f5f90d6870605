/** Promises 14 to 18, the tape and the rules, with section 2 of the terms: each test names the sentence that it holds. */
public final class Promise14To18Test {
    private static final Promises T = new Promises(Promise14To18Test.class);
    private static final int MIN = Integer.MIN_VALUE, MAX = Integer.MAX_VALUE;
    private static final int BAD = -1, FULL = -2, NONE = -3;
    private static final int UNION = 0, COUNTY = 1, COMPANY = 2;
    /** SOME, with nothing on THE TAPE. */
    private static final java.util.function.Supplier<LongStrike> EMPTY_TAPE = () -> {
        LongStrike x = Valleys.SOME.get();
        x.read(-1);
        return x;
    };

    public static void main(String[] args) {
        T.run();
    }

    /** Read as a side's rules of a new object: so many lines. */
    private static void good(String text, int lines) {
        T.due("\"" + text + "\"", Valleys.read(new LongStrike(), UNION, text), lines);
    }

    private static void fault(String text, int place) {
        T.due("\"" + text + "\"", Valleys.read(new LongStrike(), UNION, text), -100 - place);
    }

    /** Whether a union's ticket with that condition comes to household 0. */
    private static void cond(LongStrike x, String cond, boolean isTrue) {
        T.due("read of " + cond, Valleys.read(x, UNION, "ticket 1 if " + cond + ";"), 1);
        T.due(cond, x.of(0, 12), isTrue ? 1 : 0);
    }

    // ---- 14: feed

    private static void p14_oneToEightBytes() {
        T.sentence(14, "n bytes (1 to 8) come to THE TAPE, the lowest of eight first: how many it has.");
        LongStrike x = new LongStrike();
        int size = 0;
        for (int n = 1; n <= 8; n++) {
            size += n;
            T.due("feed(0, " + n + ")", x.feed(0x2020202020202020L, n), size);
            T.due("many(14)", x.many(14), size);
        }
    }

    private static void p14_lowestFirst() {
        T.sentence(14, "the lowest of eight first");
        LongStrike x = new LongStrike();
        x.feed(0x65_74_6F_76L, 4);
        T.due("vote, and no more", x.read(0), -104);
        x.feed(0x3B_65_74_6F_76L, 5);
        T.due("vote;", x.read(0), 1);
        x.feed(0x20_20_20_3B_65_74_6F_76L, 8);
        T.due("vote; and three blanks", x.read(0), 1);
        x.feed(0xFF_FF_FF_3B_65_74_6F_76L, 5);
        T.due("bytes above the fifth don't come", x.read(0), 1);
        x.feed(0xFF_20_20_3B_65_74_6F_76L, 8);
        T.due("the eighth comes", x.read(0), -107);
        x.feed(0x76_20_20_20_20_20_20_20L, 8);
        x.feed(0x3B_65_74_6FL, 4);
        T.due("a name goes on from one feed to the next", x.read(0), 1);
    }

    private static void p14_bad() {
        T.sentence(14, "n bytes (1 to 8) come to THE TAPE, the lowest of eight first: how many it has. BAD;");
        for (int n : new int[] {0, 9, -1, -8, MIN, MAX}) {
            T.refused("feed(32, " + n + ")", Valleys.SOME, x -> x.feed(32, n), BAD);
            T.refused("feed(-1, " + n + ")", Valleys.SOME, x -> x.feed(-1L, n), BAD);
        }
    }

    private static void p14_threeHundred() {
        T.sentence(14, "FULL: more than 300.");
        LongStrike x = new LongStrike();
        for (int i = 1; i <= 37; i++) T.due("feed of 8", x.feed(0x2020202020202020L, 8), 8 * i);
        for (int n = 5; n <= 8; n++) T.due("296 and " + n, x.feed(0x7878787878787878L, n), FULL);
        T.due("nothing of them came", x.many(14), 296);
        T.due("296 and 1", x.feed(32, 1), 297);
        T.due("297 and 4", x.feed(0x78787878L, 4), FULL);
        T.due("297 and 3", x.feed(0x202020, 3), 300);
        for (int n = 1; n <= 8; n++) T.due("300 and " + n, x.feed(0x78, n), FULL);
        T.due("many(14)", x.many(14), 300);
        T.due("300 blanks are a text without lines", x.read(0), 0);
        T.due("room again", x.feed(32, 1), 1);
        T.refused("a byte more", Valleys.FULL, v -> v.feed(32, 1), FULL);
        T.refused("eight more", Valleys.FULL, v -> v.feed(-1L, 8), FULL);
    }

    private static void p14_badAheadOfFull() {
        T.sentence(14, "BAD; FULL: more than 300.");
        for (int n : new int[] {0, 9, -1, MIN, MAX}) T.refused("feed(32, " + n + ")", Valleys.FULL, x -> x.feed(32, n), BAD);
    }

    // ---- 15: read

    private static void p15_howManyLines() {
        T.sentence(15, "THE TAPE is the TEXT of a side's RULES: how many LINES");
        good("", 0);
        good(" ", 0);
        good(" ".repeat(300), 0);
        for (int n = 1; n <= 10; n++) good("vote;".repeat(n), n);
        good("ticket 1;rank 2;safety 3;quorum 4;evict 5;vote;relief 6;", 7);
        for (int side = 0; side < 3; side++) {
            LongStrike x = new LongStrike();
            T.due("read(" + side + ")", Valleys.read(x, side, "vote;rank 3;"), 2);
            for (int other = 0; other < 3; other++) T.due("line(" + other + ", 1, 1)", x.line(other, 1, 1), other == side ? 3 : -9);
        }
    }

    private static void p15_tenLinesAtMost() {
        T.sentence(15, "TEXT: { LINE ; }, 10 LINES at most.");
        String ten = "vote;".repeat(10);
        good(ten, 10);
        good("  " + ten + "   ", 10);
        good("rank 1;".repeat(10), 10);
        LongStrike x = new LongStrike();
        Valleys.read(x, 0, "rank 1;".repeat(9) + "rank 9;");
        T.due("the tenth line", x.line(0, 9, 1), 9);
    }

    private static void p15_theEleventhLine() {
        T.sentence(15, "can't stand there (a NUMBER that is not as told, the fifth \"(\", the first NAME of the "
            + "eleventh LINE, too)");
        String ten = "vote;".repeat(10);
        fault(ten + "vote;", 50);
        fault(ten + "   vote;", 53);
        fault(ten + "vote", 50);
        fault(ten + "v", 50);
        fault(ten + ";", 50);
        fault(ten + " 7", 51);
        fault(ten + ten, 50);
        fault("vote;".repeat(9) + "vote", 49);
        fault("vote;".repeat(9) + "vote vote", 50);
        LongStrike x = new LongStrike();
        Valleys.read(x, 0, "rank 1;".repeat(9) + "rank 9;");
        T.due("a faulty text of eleven", Valleys.read(x, 0, ten + "vote;"), -150);
        T.due("the tenth line stays", x.line(0, 9, 1), 9);
    }

    private static void p15_tapeIsUsedUp() {
        T.sentence(15, "THE TAPE takes bytes, 300 at most; read() uses it up.");
        LongStrike x = new LongStrike();
        Checks.feed(x, "vote;");
        T.due("read(0)", x.read(0), 1);
        T.due("many(14)", x.many(14), 0);
        T.due("read(0) of nothing", x.read(0), 0);
        T.due("the rules of nothing", x.line(0, 0, 0), -9);
        Checks.feed(x, "vote");
        T.due("a fault", x.read(0), -104);
        T.due("many(14) behind a fault", x.many(14), 0);
        T.due("the next text is read alone", Valleys.read(x, 0, "rank 4;"), 1);
        T.due("its line", x.line(0, 0, 1), 4);
    }

    private static void p15_noSuchSide() {
        T.sentence(15, "-100 less its FAULT (the RULES stay as they were). BAD: there is no such side.");
        for (int side : new int[] {-1, 3, MIN, MAX}) T.refused("read(" + side + ")", EMPTY_TAPE, x -> x.read(side), BAD);
    }

    private static void p15_noSuchSideUsesTheTapeUp() {
        T.sentence(15, "such a call changes nothing (but that read() uses THE TAPE up)");
        for (int side : new int[] {-1, 3, MIN, MAX}) {
            LongStrike x = new LongStrike();
            Checks.feed(x, "vote;");
            T.due("read(" + side + ")", x.read(side), BAD);
            T.due("many(14)", x.many(14), 0);
            for (int s = 0; s < 3; s++) T.due("no rules: " + s, x.line(s, 0, 0), -9);
        }
    }

    private static void p15_rulesStayBehindAFault() {
        T.sentence(15, "-100 less its FAULT (the RULES stay as they were).");
        String[] faulty = {"vote", "ticket 3; rank 10;", "ticket 3 if pit = 1; x", "ticket 3; vote; vote if (pit=1;", ";"};
        int[] due = {-104, -115, -121, -130, -100};
        for (int i = 0; i < faulty.length; i++) {
            String text = faulty[i];
            for (int side : new int[] {UNION, COUNTY, COMPANY}) {
                T.refused("\"" + text + "\" for side " + side, EMPTY_TAPE, x -> Valleys.read(x, side, text), due[i]);
            }
        }
    }

    private static void p15_sorts() {
        T.sentence(15, "LINE: ticket N [ if COND ] | rank N [ if COND ] | safety N | quorum N | evict N | vote [ if "
            + "COND ] | relief N [ if COND ]");
        for (String sort : new String[] {"ticket 1", "rank 1", "vote", "relief 1"}) {
            good(sort + ";", 1);
            good(sort + " if pit=0;", 1);
            fault(sort + " if;", sort.length() + 3);
            fault(sort + " if", sort.length() + 3);
            fault(sort + " pit=0;", sort.length() + 1);
            fault(sort + " if pit=0 if pit=0;", sort.length() + 10);
            fault(sort + " and pit=0;", sort.length() + 1);
            fault(sort, sort.length());
            fault(sort + " ", sort.length() + 1);
        }
        for (String sort : new String[] {"safety 1", "quorum 1", "evict 1"}) {
            good(sort + ";", 1);
            fault(sort + " if pit=0;", sort.length() + 1);
            fault(sort, sort.length());
            fault(sort + " 1;", sort.length() + 1);
        }
        for (String sort : new String[] {"ticket", "rank", "safety", "quorum", "evict", "relief"}) {
            fault(sort + ";", sort.length());
            fault(sort + " ;", sort.length() + 1);
            fault(sort, sort.length());
            fault(sort + "  ", sort.length() + 2);
            fault(sort + " if pit=0;", sort.length() + 1);
            fault(sort + " vote;", sort.length() + 1);
        }
        fault("vote 1;", 5);
        fault("vote1;", 4);
        for (String name : new String[] {"if", "and", "or", "not", "mouths", "owes", "will", "coal", "hungry", "pit", "village",
                "tickets", "ticke", "ranks", "votes", "vot", "v", "evicts", "x", "tape", "county"}) {
            fault(name + " 1;", 0);
            fault("vote; " + name + " 1;", 6);
        }
        fault("1;", 0);
        fault("=;", 0);
        fault("(vote);", 0);
        fault(";", 0);
        fault("vote;;", 5);
        fault("vote;vote", 9);
    }

    private static void p15_numbers() {
        T.sentence(15, "N are NUMBERS 0 to 999 (of rank 0 to 9).");
        for (String sort : new String[] {"ticket ", "safety ", "quorum ", "evict ", "relief ", "vote if will > "}) {
            for (String n : new String[] {"0", "1", "9", "10", "99", "100", "998", "999", "00", "000", "007", "010"}) good(sort + n + ";", 1);
            for (String n : new String[] {"1000", "0000", "0999", "9999", "1001", "99999999999999999999"}) fault(sort + n + ";", sort.length());
            fault(sort + "-1;", sort.length());
            fault(sort + "+1;", sort.length());
        }
        for (String n : new String[] {"0", "9", "00", "09", "000", "009"}) good("rank " + n + ";", 1);
        for (String n : new String[] {"10", "11", "99", "010", "999", "0009", "0000", "1000"}) fault("rank " + n + ";", 5);
        good("rank 9 if will > 999;", 1);
        good("rank 0 if will > 10;", 1);
        fault("rank 10", 5);
        fault("ticket 1000", 7);
        fault("vote if pit = 1000", 14);
        LongStrike x = new LongStrike();
        Valleys.read(x, 0, "ticket 999;ticket 007;ticket 010;ticket 000;rank 009;");
        int[] due = {999, 7, 10, 0, 9};
        for (int i = 0; i < 5; i++) T.due("line(0, " + i + ", 1)", x.line(0, i, 1), due[i]);
    }

    private static void p15_namesAndNumbersAsLongAsTheyGo() {
        T.sentence(15, "NAMES are rows of letters a to z, NUMBERS rows of digits (1 to 3), both as long as they go");
        fault("votevote;", 0);
        fault("voteif pit=0;", 0);
        fault("vote ifpit=0;", 5);
        fault("vote if notpit=0;", 8);
        fault("vote if pit=0andpit=0;", 13);
        fault("vote if pit=0 andpit=0;", 14);
        fault("ticket 12 3;", 10);
        fault("ticket 1 2 3;", 9);
        fault("ticket 1234;", 7);
        fault("tic ket 1;", 0);
        // what stands just ahead of a, behind z, ahead of 0, behind 9
        fault("vote`;", 4);
        fault("vote{;", 4);
        fault("ticket 1/;", 8);
        fault("ticket 1:;", 8);
        fault("`vote;", 0);
        fault("{vote;", 0);
        fault("ticket /1;", 7);
        fault("ticket :1;", 7);
        fault("VOTE;", 0);
        fault("votE;", 0);
        fault("Vote;", 0);
    }

    private static void p15_blanksPart() {
        T.sentence(15, "blanks (32) part NAMES from NAMES, NUMBERS from NUMBERS, and stand elsewhere as one likes.");
        good("ticket5if(will>3)or not(pit=1)and coal<2or hungry=0;rank 1if pit=0;vote;", 3);
        good("ticket 5 if ( will > 3 ) or not ( pit = 1 ) and coal < 2 or hungry = 0 ; rank 1 if pit = 0 ; vote ; ", 3);
        good("   ticket   5   if   (   will   >   3   )   ;   ", 1);
        good("ticket5;rank1;safety2;quorum3;evict4;vote;relief5;", 7);
        good("vote if not not pit=0;", 1);
        good("vote if not(not(pit=0));", 1);
        good("vote if pit=0and(pit=0)or(pit=0);", 1);
        for (char c : new char[] {0, 9, 10, 13, 11, 12, 31, 33, 127, 128, 133, 160, 255}) {
            fault("vote" + c + ";", 4);
            fault(c + "vote;", 0);
            fault("vote; " + c, 6);
            fault("ticket" + c + "5;", 6);
            fault("vote if" + c + "pit=0;", 7);
            fault("vote if pit" + c + "=0;", 11);
            fault("vote if pit=" + c + "0;", 12);
        }
    }

    private static void p15_condGrammar() {
        T.sentence(15, "COND: ALL { or ALL }      ALL: ONE { and ONE }      ONE: { not } ( FACT SIGN N | \"(\" COND "
            + "\")\" )");
        good("vote if pit=0;", 1);
        good("vote if pit=0 or pit=1 and pit=2 or not pit=3;", 1);
        good("vote if not not not (not pit=0 or (pit=1) and (pit=2 or pit=3));", 1);
        good("vote if " + "not ".repeat(70) + "pit=1;", 1);
        good("vote if pit=1" + " and pit=1".repeat(28) + ";", 1);
        good("vote if pit=1" + " or pit=1".repeat(31) + ";", 1);
        String[] ahead = {"", "not ", "not not ", "pit=1 or ", "pit=1 and ", "(", "(pit=1 or ", "not (", "pit=1 and not "};
        for (String a : ahead) {
            String text = "vote if " + a;
            for (String wrong : new String[] {";", ")", "or", "and", "if", "5", "=", "<", ">", "vote", "x", "ticket", "fact", "mouth",
                    "!", "nott"}) {
                fault(text + wrong + ";", text.length());
            }
            fault(text, text.length());
        }
        for (String done : new String[] {"pit=1", "(pit=1)", "not pit=1", "not (pit=1)", "pit=1 or pit=2", "pit=1 and (pit=2)"}) {
            String text = "vote if " + done + " ";
            for (String wrong : new String[] {")", "(", "not", "pit", "if", "5", "=", "vote", "x", "orr", "an"}) {
                fault(text + wrong + " pit=1;", text.length());
            }
            fault(text, text.length());
            fault("vote if (" + done, 9 + done.length());
            fault("vote if (" + done + ";", 9 + done.length());
            fault("vote if (" + done + " vote;", 10 + done.length());
        }
        fault("vote if ();", 9);
        fault("vote if (pit=1));", 15);
        fault("vote if pit=1);", 13);
    }

    private static void p15_factSignNumber() {
        T.sentence(15, "FACT: mouths | owes | will | coal | hungry | pit | village      SIGN: < | = | >");
        for (String fact : new String[] {"mouths", "owes", "will", "coal", "hungry", "pit", "village"}) {
            for (String sign : new String[] {"<", "=", ">"}) {
                good("vote if " + fact + sign + "1;", 1);
                fault("vote if " + fact + sign + ";", 9 + fact.length());
                fault("vote if " + fact + sign, 9 + fact.length());
                fault("vote if " + fact + sign + fact + ";", 9 + fact.length());
                fault("vote if " + fact + sign + "=1;", 9 + fact.length());
                fault("vote if " + fact + sign + "(1);", 9 + fact.length());
                fault("vote if " + fact + sign + "1000;", 9 + fact.length());
                fault("vote if " + fact + sign + "1 2;", 11 + fact.length());
                fault("vote if 1" + sign + fact + ";", 8);
            }
            for (String wrong : new String[] {"1", ";", "!", "?", ":", "(", ")", "and", "or", "not", "if", "@"}) {
                fault("vote if " + fact + " " + wrong + "1;", 9 + fact.length());
            }
            fault("vote if " + fact, 8 + fact.length());
            fault("vote if " + fact + "s=1;", 8);
            fault("vote if " + fact.substring(1) + "=1;", 8);
            fault("vote if " + fact.substring(0, fact.length() - 1) + "=1;", 8);
        }
        for (String none : new String[] {"larder", "garden", "cold", "ticket", "rank", "relief", "back", "evicted", "day"}) {
            fault("vote if " + none + "=1;", 8);
        }
    }

    private static void p15_fourBrackets() {
        T.sentence(15, "At most 4 \"(\" are open within one another.");
        good("vote if ((((pit=1))));", 1);
        good("vote if ((((pit=1)))) and ((((pit=1)))) or ((((pit=1))));", 1);
        good("vote if (((pit=1 or (pit=1) or (pit=1) or not (pit=1) and (pit=1))));", 1);
        good("vote if (not(not(not(pit=1))));", 1);
        good("vote if " + "(pit=1) or ".repeat(8) + "(pit=1);", 1);
    }

    private static void p15_theFifthBracket() {
        T.sentence(15, "can't stand there (a NUMBER that is not as told, the fifth \"(\", the first NAME of the "
            + "eleventh LINE, too)");
        fault("vote if (((((pit=1)))));", 12);
        fault("vote if ( ( ( ( (pit=1)))));", 16);
        fault("vote if (((((", 12);
        fault("vote if ((((not (pit=1)))));", 16);
        fault("vote if ((((pit=1 or (pit=1)))));", 21);
        fault("vote if ((((pit=1)) and (((pit=1)))));", 26);
        fault("vote if " + "(".repeat(292), 12);
        fault("vote if ((((pit=1)));", 20);
        fault("vote if ((((pit=1)))));", 21);
    }

    private static void p15_theEnd() {
        T.sentence(15, "or the end (how many bytes there are), if more must come.");
        String text = "vote if not (pit<1);";
        int[] due = {0, -100, -100, -100, -104, -105, -105, -107, -108, -108, -108, -111, -112, -113, -113, -113, -116, -117, -118, -119, 1};
        for (int n = 0; n <= text.length(); n++) T.due("\"" + text.substring(0, n) + "\"",
            Valleys.read(new LongStrike(), UNION, text.substring(0, n)), due[n]);
        String other = "rank 3 or";
        int[] wrong = {0, -100, -100, -100, -104, -105, -106, -107, -107, -107};
        for (int n = 0; n <= other.length(); n++) T.due("\"" + other.substring(0, n) + "\"",
            Valleys.read(new LongStrike(), UNION, other.substring(0, n)), wrong[n]);
        fault("vote" + " ".repeat(296), 300);
        fault("vote if pit=1" + " or pit=1".repeat(31) + " or pit", 299);
        fault(" ".repeat(299) + "x", 299);
        fault(" ".repeat(296) + "vote", 300);
        good(" ".repeat(295) + "vote;", 1);
        fault(" ".repeat(293) + "ticket ", 300);
    }

    private static void p15_firstFaultCounts() {
        T.sentence(15, "FAULT: the place (from 0) of the first byte of the first NAME, NUMBER or other byte that can't "
            + "stand there");
        fault("vote x y z;", 5);
        fault("x y z;", 0);
        fault("vote; ticket 1000 if x;", 13);
        fault("ticket 5 if will>1000 and x;", 17);
        fault("  vote  x", 8);
        fault("ticket abc;", 7);
        fault("ticket 123456;", 7);
        fault("\u00e9", 0);
        fault("vote;\u0000", 5);
        fault("\u0080\u0081", 0);
        fault("x".repeat(300), 0);
        fault("7".repeat(300), 0);
        fault("ticket " + "7".repeat(293), 7);
        fault("vote;" + "z".repeat(295), 5);
    }

    private static void p15_manyFaults() {
        T.sentence(15, "FAULT: the place (from 0) of the first byte of the first NAME, NUMBER or other byte that can't "
            + "stand there (a NUMBER that is not as told");
        fault(";", 0);
        fault("  ;", 2);
        fault("5;", 0);
        fault("if;", 0);
        fault("mouths;", 0);
        fault("Vote;", 0);
        fault("vote\n;", 4);
        fault("vote\u0000;", 4);
        fault("\u00ffvote;", 0);
        fault("vote", 4);
        fault("vote  ", 6);
        fault("vote;vote", 9);
        fault("vote;;", 5);
        fault("votes;", 0);
        fault("vot e;", 0);
        fault("vote 5;", 5);
        fault("vote vote;", 5);
        fault("ticket;", 6);
        fault("ticket  ", 8);
        fault("ticket x;", 7);
        fault("ticket 1000;", 7);
        fault("ticket 0001;", 7);
        fault("ticket 5 5;", 9);
        fault("ticket 5,;", 8);
        fault("ticket -5;", 7);
        fault("ticket 5 if;", 11);
        fault("ticket 5 if ", 12);
        fault("ticket 5if", 10);
        fault("ticket 5 iff will>1;", 9);
        fault("ticket 5 when will>1;", 9);
        fault("ticket 5 if 5>will;", 12);
        fault("ticket 5 if will 5;", 17);
        fault("ticket 5 if will>;", 17);
        fault("ticket 5 if will>x;", 17);
        fault("ticket 5 if will>=5;", 17);
        fault("ticket 5 if will > 1000;", 19);
        fault("ticket 5 if will>5", 18);
        fault("ticket 5 if will>5 and;", 22);
        fault("ticket 5 if and pit=1;", 12);
        fault("ticket 5 if or pit=1;", 12);
        fault("ticket 5 if );", 12);
        fault("ticket 5 if ;", 12);
        fault("ticket 5 if will and pit=1;", 17);
        fault("ticket 5 if will;", 16);
        fault("ticket 5 if will> and pit=1;", 18);
        fault("ticket 5 if will>(5);", 17);
        fault("ticket 5 if (will)>5;", 17);
        fault("ticket 5 if will<>5;", 17);
        fault("ticket (5);", 7);
        fault("ticket 5 if (will>5) (pit=1);", 21);
        fault("ticket 5 if (will>5) not pit=1;", 21);
        fault("ticket 5 if (will>5) 5;", 21);
        fault("ticket 5 if will>5 and", 22);
        fault("ticket 5 if will>5 and or pit=1;", 23);
        fault("ticket 5 if will>5 not pit=1;", 19);
        fault("ticket 5 if will>5 pit=1;", 19);
        fault("ticket 5 if will>5);", 18);
        fault("ticket 5 if (will>5;", 19);
        fault("ticket 5 if (will>5", 19);
        fault("ticket 5 if ();", 13);
        fault("ticket 5 if not;", 15);
        fault("ticket 5 if nothing=1;", 12);
        fault("ticket 5 if ticket=1;", 12);
        fault("ticket 5 if (((((pit=1)))));", 16);
        fault("ticket 5 if ((((pit=1)) and (((pit=1);", 30);
        fault("ticket 5 if (not(not(not(not(pit=1)))));", 28);
        fault("rank 10;", 5);
        fault("rank 010;", 5);
        fault("rank 0009;", 5);
        fault("safety 5 if pit=0;", 9);
        fault("quorum 5 if pit=0;", 9);
        fault("evict 5 if pit=0;", 8);
        fault("safety;", 6);
        fault("vote;".repeat(10) + " vote;", 51);
        fault("vote;".repeat(10) + "x", 50);
        fault("vote;".repeat(10) + ";", 50);
        fault("vote;".repeat(9) + "vote", 49);
    }

    private static void p15_faultAtEachPlace() {
        T.sentence(15, "FAULT: the place (from 0) of the first byte of the first NAME, NUMBER or other byte that can't "
            + "stand there");
        for (int place = 0; place < 300; place++) {
            fault(" ".repeat(place) + "x", place);
            fault(" ".repeat(place) + ";", place);
        }
        for (int place = 5; place < 300; place += 5) fault("vote" + " ".repeat(place - 4) + "8".repeat(300 - place), place);
    }

    private static void p15_asManyPartsAsBytes() {
        T.sentence(15, "THE TAPE takes bytes, 300 at most; read() uses it up.");
        for (String sign : new String[] {";", "(", ")", "<", "=", ">", "!", "\u00ff"}) fault(sign.repeat(300), 0);
        fault(";1".repeat(150), 0);
        fault("1;".repeat(150), 0);
        fault("=a".repeat(150), 0);
        fault("a1".repeat(150), 0);
        fault("vote if pit=1;" + ";".repeat(286), 14);
        fault("vote if ((((" + "(".repeat(288), 12);
    }

    private static void p15_textAfterText() {
        T.sentence(15, "Each side's RULES are those that it read latest (at first none).");
        LongStrike x = Valleys.home(1, 1000, 50);
        String ors = "pit=1" + " or pit=1".repeat(29);
        for (int i = 0; i < 4; i++) {
            T.due("a long text", Valleys.read(x, UNION, "vote if " + ors + ";"), 1);
            T.due("it doesn't hold", x.of(0, 15), 0);
            T.due("a long faulty text", Valleys.read(x, UNION, "vote if " + ors), -100 - 8 - ors.length());
            T.due("a long text", Valleys.read(x, UNION, "vote if not(" + ors + ");"), 1);
            T.due("it holds", x.of(0, 15), 1);
        }
    }

    private static void p15_latestRules() {
        T.sentence(15, "Each side's RULES are those that it read latest (at first none).");
        LongStrike x = Valleys.home(1, 1000, 50);
        for (int side = 0; side < 3; side++) T.due("at first none", x.line(side, 0, 0), -9);
        Valleys.read(x, UNION, "ticket 1; ticket 2; ticket 3;");
        Valleys.read(x, COUNTY, "relief 4;");
        Valleys.read(x, UNION, "rank 5;");
        T.due("the latest", x.line(UNION, 0, 0), 1);
        T.due("no second line any more", x.line(UNION, 1, 0), -9);
        T.due("no ticket any more", x.of(0, 12), 0);
        T.due("the county's stay", x.of(0, 14), 4);
        T.due("an empty text", Valleys.read(x, UNION, ""), 0);
        T.due("none again", x.line(UNION, 0, 0), -9);
        T.due("rank without", x.of(0, 13), 9);
    }

    // ---- 16: line

    private static void p16_whatIsTold() {
        T.sentence(16, "what = 0 its sort (0 ticket, 1 rank, 2 safety, 3 quorum, 4 evict, 5 vote, 6 relief), 1 its N (-9: vote), "
            + "2 1 if it has a COND, else 0.");
        for (int side = 0; side < 3; side++) {
            LongStrike x = new LongStrike();
            Valleys.read(x, side, "ticket 999;rank 9 if pit=0;safety 0;quorum 7;evict 12;vote;vote if pit=1;relief 5 if not pit=2;ticket 0 if pit=3;relief 6;");
            int[][] due = {{0, 999, 0}, {1, 9, 1}, {2, 0, 0}, {3, 7, 0}, {4, 12, 0}, {5, -9, 0}, {5, -9, 1}, {6, 5, 1}, {0, 0, 1}, {6, 6, 0}};
            for (int i = 0; i < due.length; i++) {
                for (int what = 0; what < 3; what++) T.due(Promises.told("line", side, i, what), x.line(side, i, what), due[i][what]);
            }
        }
    }

    private static void p16_noneSuch() {
        T.sentence(16, "-9: there is none such, another what.");
        int[][] wrong = {{-1, 0, 0}, {3, 0, 0}, {MIN, 0, 0}, {MAX, 0, 0}, {0, -1, 0}, {0, 6, 0}, {0, 10, 0}, {0, MIN, 0}, {0, MAX, 0},
            {0, 0, -1}, {0, 0, 3}, {0, 0, MIN}, {0, 0, MAX}, {1, 1, 0}, {2, 2, 0}};
        for (int[] w : wrong) T.refused(Promises.told("line", w), Valleys.SOME, x -> x.line(w[0], w[1], w[2]), -9);
        T.due("the last one is there", Valleys.SOME.get().line(0, 5, 0), 5);
        T.due("the tenth of ten", Valleys.FULL.get().line(0, 9, 0), 2);
        T.due("an eleventh of ten", Valleys.FULL.get().line(0, 10, 0), -9);
        T.due("of a new object", new LongStrike().line(0, 0, 0), -9);
    }

    // ---- 17: rule

    private static void p17_quorumWithout() {
        T.sentence(17, "QUORUM: N of the union's first such LINE (50 without).");
        LongStrike x = new LongStrike();
        T.due("QUORUM", x.rule(0), 50);
        Valleys.read(x, COUNTY, "quorum 1;");
        Valleys.read(x, COMPANY, "quorum 2;");
        T.due("the union's alone", x.rule(0), 50);
        for (int n : new int[] {0, 1, 50, 999}) {
            Valleys.read(x, UNION, "vote; quorum " + n + "; quorum 77;");
            T.due("the first one", x.rule(0), n);
        }
    }

    private static void p17_evictWithout() {
        T.sentence(17, "EVICT: N of the company's first such LINE (12 without).");
        LongStrike y = new LongStrike();
        T.due("EVICT", y.rule(2), 12);
        Valleys.read(y, UNION, "evict 1;");
        Valleys.read(y, COUNTY, "evict 2;");
        T.due("the company's alone", y.rule(2), 12);
        for (int n : new int[] {0, 1, 12, 999}) {
            Valleys.read(y, COMPANY, "safety 3; evict " + n + "; evict 77;");
            T.due("the first one", y.rule(2), n);
        }
    }

    private static void p17_safetyIsTheLesser() {
        T.sentence(17, "SAFETY: the lesser one of N of the union's and of the company's first such LINE (0 for one "
            + "without).");
        String[][] texts = {{"", ""}, {"safety 5;", ""}, {"", "safety 5;"}, {"safety 5;", "safety 5;"}, {"safety 5;", "safety 6;"},
            {"safety 6;", "safety 5;"}, {"safety 999;", "safety 998;"}, {"safety 0;", "safety 7;"}, {"safety 7;", "safety 0;"},
            {"safety 4; safety 1;", "safety 3; safety 2;"}, {"safety 3; safety 9;", "rank 1; safety 4; safety 0;"}};
        int[] due = {0, 0, 0, 5, 5, 5, 998, 0, 0, 3, 3};
        for (int i = 0; i < texts.length; i++) {
            LongStrike x = new LongStrike();
            Valleys.read(x, UNION, texts[i][0]);
            Valleys.read(x, COMPANY, texts[i][1]);
            Valleys.read(x, COUNTY, "safety 1;");
            T.due("\"" + texts[i][0] + "\" and \"" + texts[i][1] + "\"", x.rule(1), due[i]);
        }
    }

    private static void p17_bad() {
        T.sentence(17, "What = 0 QUORUM, 1 SAFETY, 2 EVICT. BAD: another what.");
        for (int what : new int[] {-1, 3, MIN, MAX}) T.refused("rule(" + what + ")", Valleys.SOME, x -> x.rule(what), BAD);
    }

    // ---- 18: why, and what lines tell of a household

    private static void p18_firstLineThatHolds() {
        T.sentence(18, "TICKET: N of the first LINE ticket of the union whose COND holds, or that has none (0 without "
            + "such).");
        LongStrike x = Valleys.of(1, 2);
        x.household(0, 0, 1, 1000, 50);
        x.household(0, 1, 1, 1000, 50);
        T.due("without", x.of(0, 12), 0);
        T.due("no line", x.why(0, 0), NONE);
        Valleys.read(x, UNION, "rank 1; ticket 8 if pit = 1; vote; ticket 0 if pit = 0; ticket 7; ticket 6;");
        Valleys.read(x, COUNTY, "ticket 1;");
        Valleys.read(x, COMPANY, "ticket 2;");
        T.due("the first that holds", x.of(1, 12), 8);
        T.due("why", x.why(1, 0), 1);
        T.due("one of 0 counts, too", x.of(0, 12), 0);
        T.due("why", x.why(0, 0), 3);
        Valleys.read(x, UNION, "ticket 7; ticket 8 if pit = 1;");
        T.due("one without a condition comes first", x.of(1, 12), 7);
        T.due("why", x.why(1, 0), 0);
        Valleys.read(x, UNION, "ticket 8 if pit = 1; ticket 9 if mouths > 8;");
        T.due("no one holds", x.of(0, 12), 0);
        T.due("why", x.why(0, 0), NONE);
    }

    private static void p18_rankAndRelief() {
        T.sentence(18, "RANK: likewise of rank (9 without). RELIEF: of relief of the county (0 without).");
        LongStrike x = Valleys.of(1, 2);
        x.household(0, 0, 1, 1000, 50);
        x.household(0, 1, 1, 1000, 50);
        T.due("RANK without", x.of(0, 13), 9);
        T.due("RELIEF without", x.of(0, 14), 0);
        T.due("why", x.why(0, 1), NONE);
        T.due("why", x.why(0, 2), NONE);
        Valleys.read(x, UNION, "relief 5; ticket 3; rank 0 if pit = 1; rank 4 if pit = 2; rank 9;");
        Valleys.read(x, COUNTY, "rank 5; relief 0 if pit = 1; relief 999 if mouths = 1; relief 3;");
        Valleys.read(x, COMPANY, "rank 6; relief 6;");
        int[][] due = {{9, 4, 999, 2}, {0, 2, 0, 1}};
        for (int h = 0; h < 2; h++) {
            T.due("RANK", x.of(h, 13), due[h][0]);
            T.due("why", x.why(h, 1), due[h][1]);
            T.due("RELIEF", x.of(h, 14), due[h][2]);
            T.due("why", x.why(h, 2), due[h][3]);
        }
        Valleys.read(x, UNION, "rank 3 if pit = 1;");
        T.due("no line of rank holds", x.of(0, 13), 9);
        T.due("why", x.why(0, 1), NONE);
    }

    private static void p18_mayVote() {
        T.sentence(18, "It MAY VOTE, if a LINE vote of the union has a COND that holds (or none); or if there is no "
            + "such LINE.");
        String[] texts = {"", "ticket 1;", "vote;", "vote if pit=0;", "vote if pit=1;", "vote if pit=1; vote if pit=0;",
            "vote if pit=1; vote;", "vote; vote if pit=1;", "vote if pit=1; vote if pit=2;", "ticket 1 if pit=0; vote if pit=9;"};
        int[] due = {1, 1, 1, 1, 0, 1, 1, 1, 0, 0};
        for (int i = 0; i < texts.length; i++) {
            LongStrike x = Valleys.home(1, 1000, 50);
            Valleys.read(x, UNION, texts[i]);
            T.due("\"" + texts[i] + "\"", x.of(0, 15), due[i]);
        }
        LongStrike y = Valleys.home(1, 1000, 50);
        Valleys.read(y, COUNTY, "vote if pit=1;");
        Valleys.read(y, COMPANY, "vote if pit=1;");
        T.due("the union's alone", y.of(0, 15), 1);
    }

    private static void p18_factsAsTheyAre() {
        T.sentence(18, "On a HOUSEHOLD (FACTS as they are; owes: what it owes all SHOPS; hungry: its HUNGRY DAYS; pit, "
            + "village: their numbers)");
        String[] facts = {"mouths", "owes", "will", "coal", "hungry", "pit", "village"};
        int[][] are = {{7, 0, 40, 12, 0, 1, 2}, {7, 5, 38, 11, 1, 1, 2}, {7, 5, 36, 10, 2, 1, 2}};
        for (int day = 0; day < 3; day++) {
            for (int i = 0; i < facts.length; i++) {
                LongStrike x = owing(day);
                for (int d = -1; d <= 1; d++) {
                    if (are[day][i] + d < 0) continue;
                    cond(x, facts[i] + "<" + (are[day][i] + d), d > 0);
                    cond(x, facts[i] + "=" + (are[day][i] + d), d == 0);
                    cond(x, facts[i] + ">" + (are[day][i] + d), d < 0);
                }
            }
        }
    }

    /** Household 0 with 7 mouths, of pit 1, in village 2, where shops lend 5 meals in all; so many days later. */
    private static LongStrike owing(int days) {
        LongStrike x = Valleys.of(3, 3);
        x.shop(2, 2);
        x.shop(2, 3);
        x.household(2, 1, 7, 1120, 40);
        if (days > 0) x.days(days);
        return x;
    }

    private static void p18_numbersFromZeroTo999() {
        T.sentence(18, "FACT SIGN N");
        for (int mouths : new int[] {1, 7}) {
            LongStrike home = Valleys.home(mouths, 1000, 50);
            for (int n = 0; n <= 9; n++) {
                cond(home, "mouths < " + n, mouths < n);
                cond(home, "mouths < " + n + " and pit = 0", mouths < n);
                cond(home, "mouths < " + n + " or pit = 1", mouths < n);
                cond(home, "pit = 0 or mouths < " + n, true);
                cond(home, "not mouths < " + n, mouths >= n);
            }
        }
        LongStrike x = owing(1);
        cond(x, "village < 999", true);
        cond(x, "village > 999", false);
        cond(x, "village = 999", false);
        cond(x, "village > 0", true);
        cond(x, "pit < 0", false);
    }

    private static void p18_owesBeyond999() {
        T.sentence(18, "owes: what it owes all SHOPS");
        LongStrike x = Valleys.of(1, 1);
        for (int i = 0; i < 4; i++) x.shop(0, 999);
        x.household(0, 0, 9, 990, 50);
        for (int i = 0; i < 2; i++) x.days(56);
        T.due("owes", x.of(0, 7), 1008);
        cond(x, "owes > 999", true);
        cond(x, "owes = 999", false);
        cond(x, "owes < 999", false);
    }

    private static void p18_andBeforeOr() {
        T.sentence(18, "COND: ALL { or ALL }      ALL: ONE { and ONE }");
        LongStrike x = Valleys.home(1, 1000, 50);
        String[] is = {"pit=1", "pit=0"};
        for (int bits = 0; bits < 16; bits++) {
            boolean a = (bits & 1) > 0, b = (bits & 2) > 0, c = (bits & 4) > 0, d = (bits & 8) > 0;
            String p = is[bits & 1], q = is[bits >> 1 & 1], r = is[bits >> 2 & 1], s = is[bits >> 3];
            x = Valleys.home(1, 1000, 50);
            cond(x, p + " or " + q + " and " + r + " or " + s, a || b && c || d);
            cond(x, p + " and " + q + " or " + r + " and " + s, a && b || c && d);
            cond(x, "(" + p + " or " + q + ") and (" + r + " or " + s + ")", (a || b) && (c || d));
            cond(x, "not " + p + " and " + q + " or not (" + r + " and not not " + s + ")", !a && b || !(c && d));
            cond(x, "not (" + p + " or not (" + q + " and (" + r + " or (" + s + "))))", !(a || !(b && (c || d))));
            cond(x, "not not " + p + " and not not not " + q, a && !b);
            cond(x, p + " or " + q + " or " + r + " or " + s, a || b || c || d);
            cond(x, p + " and " + q + " and " + r + " and " + s, a && b && c && d);
        }
    }

    private static void p18_longConds() {
        T.sentence(18, "ONE: { not } ( FACT SIGN N | \"(\" COND \")\" )");
        LongStrike x = Valleys.home(1, 1000, 50);
        cond(x, "not ".repeat(68) + "pit=0", true);
        cond(x, "not ".repeat(69) + "pit=0", false);
        cond(x, "pit=1" + " or pit=1".repeat(29) + " or pit=0", true);
        cond(x, "pit=1" + " or pit=1".repeat(30), false);
        cond(x, "pit=0" + " and pit=0".repeat(26) + " and pit=1", false);
        cond(x, "pit=0" + " and pit=0".repeat(27), true);
        cond(x, "(pit=0 and (pit=0 and (pit=0 and (pit=0 and pit=1))))", false);
        cond(x, "(pit=1 or (pit=1 or (pit=1 or (pit=1 or pit=0))))", true);
    }

    private static void p18_bad() {
        T.sentence(18, "BAD: there is none such, another what; NONE: no LINE does.");
        int[][] wrong = {{-1, 0}, {4, 0}, {MIN, 0}, {MAX, 0}, {0, -1}, {0, 3}, {0, MIN}, {0, MAX}};
        for (int[] w : wrong) T.refused(Promises.told("why", w), Valleys.SOME, x -> x.why(w[0], w[1]), BAD);
        T.refused("NONE", Valleys.SOME, x -> x.why(1, 1), NONE);
        LongStrike y = Valleys.home(1, 1000, 50);
        T.due("BAD ahead of NONE", y.why(0, 3), BAD);
        T.due("BAD ahead of NONE", y.why(1, 0), BAD);
    }
}
