/** The edges of the terms' first section that texts have. */
public final class EdgeTextTest extends Edges {
    private static final String REST = ";eats 1;tells 1;";

    public static void main(String[] args) {
        of("terms", "A TEXT is read from THE TAPE (160 bytes at most).", EdgeTextTest::tape);
        of("terms", "TOKENS, each as long as can be: WORDS (as many letters a .. z as stand there),", EdgeTextTest::words);
        of("terms", "NUMBERS (as many digits as stand there; more than 4 are too long),", EdgeTextTest::numbers);
        of("terms", "SIGNS ( ) ; + - * < = ;", EdgeTextTest::signs);
        of("terms", "blanks (32, 10) may stand between.", EdgeTextTest::blanks);
        of("terms", "TEXT: dares E ; eats E ; tells E ;", EdgeTextTest::parts);
        of("terms", "E: AND { or AND }. AND: NOT { and NOT }.", EdgeTextTest::orsAndAnds);
        of("terms", "NOT: not NOT, or SUM, perhaps < or = and a SUM.", EdgeTextTest::comparisons);
        of("terms", "SUM: TERM { + or - TERM }. TERM: ONE { * ONE }.", EdgeTextTest::sums);
        of("terms", "ONE: a NUMBER, a NAME, - ONE, ( E ).", EdgeTextTest::ones);
        of("terms", "NAMES: shy bored ate minute wrongs more.", EdgeTextTest::names);
        of("terms", "An E is an int (32 bits, wrapping):", EdgeTextTest::wrapping);
        of("terms", "of or, and, not, <, = 1 or 0 (what is not 0 is true).", EdgeTextTest::truths);

        of("terms", "FAULT: the place of the first byte of the first TOKEN that can't stand there", EdgeTextTest::firstFault);
        of("terms", "(the text's size, if it ends too early),", EdgeTextTest::endsTooEarly);
        of("terms", "also of a byte that begins none,", EdgeTextTest::bytesThatBeginNone);
        of("terms", "of a WORD that is neither KEY nor NAME,", EdgeTextTest::strangeWords);
        of("terms", "a NUMBER that is too long,", EdgeTextTest::longNumbers);
        of("terms", "a ( , a not, a - ahead of a ONE while 5 of these are open", EdgeTextTest::fiveOpen);
        of("terms", "(a ( till its ) , not and - till what they belong to ends).", EdgeTextTest::openTill);

        of("terms", "TEXTS are numbered from 0 on, 6 at most;", EdgeTextTest::sixTexts);
        of("terms", "TEXT 0, at first, and THE LAW: dares 99 ; eats 1 ; tells 1 ;", EdgeTextTest::firstText);
        of("terms", "(dares, eats 0 .. 99,", EdgeTextTest::daresAndEatsBounds);
        of("terms", "tells -99 .. 99,", EdgeTextTest::tellsBounds);
        of("terms", "else the bound),", EdgeTextTest::farBounds);
        of("terms", "of one of GUESTS: shy: SHY; bored: BORED; ate: ATE; minute: MINUTE; wrongs: how many ACTS are WRONG; more: MORE.",
                EdgeTextTest::namesOfOne);
        Check.end();
    }

    private static void good(String text) {
        due("text \"" + text + "\"", Check.text(bare(), text), 1);
    }

    private static void fault(String text, int place) {
        StalemateDinner d = bare();
        due("text \"" + text + "\"", Check.text(d, text), -100 - place);
        due("texts behind a fault", d.count(3), 1);
        due("bytes behind a fault", d.count(5), 0);
    }

    /** What an expression that lies within -99 .. 99 is. */
    private static void value(String expression, int want) {
        StalemateDinner d = with("dares 99;eats 1;tells " + expression + ";", one(0, 0, 0));
        due(expression, d.asks(2, 0), want);
    }

    private static void tape() {
        StalemateDinner d = taped(160);
        due(d, 160, "count", 5);
        due(d, 3, "text");
        due(d, 0, "count", 5);
        refused(() -> taped(160), FULL, "feed", 1, 32, 32, 32, 32, 32);
        refused(() -> taped(156), FULL, "feed", 5, 32, 32, 32, 32, 32);
        due(taped(156), 160, "feed", 4, 32, 32, 32, 32, 32);
        due(taped(155), 160, "feed", 5, 32, 32, 32, 32, 32);
        // The last byte counts, too: the same text without it ends too early.
        fault(textOf(160).substring(0, 159), 159);
        fault(textOf(159) + "+", 159);
    }

    private static void words() {
        good("dares shy" + REST);
        fault("daresshy" + REST, 0);
        fault("dares shybored" + REST, 6);
        fault("dares shy bored" + REST, 10);
        good("dares1" + REST);
        good("dares(1or 1)and not(1)" + REST);
        // a and z are letters, what lies beside them is none.
        fault("dares shya" + REST, 6);
        fault("dares shyz" + REST, 6);
        fault("dares shy`" + REST, 9);
        fault("dares shy{" + REST, 9);
        fault("dares shyA" + REST, 9);
        fault("dares shyZ" + REST, 9);
        fault("dares shy1" + REST, 9);
        fault("dares " + "a".repeat(154), 6);
    }

    private static void numbers() {
        good("dares 0" + REST);
        good("dares 9" + REST);
        good("dares 9999" + REST);
        good("dares 0000" + REST);
        fault("dares 10000" + REST, 6);
        fault("dares 00000" + REST, 6);
        fault("dares 99999" + REST, 6);
        fault("dares " + "9".repeat(154), 6);
        fault("dares 1 2" + REST, 8);
        fault("dares 1/" + REST, 7);
        fault("dares 1:" + REST, 7);
        value("0099", 99);
        value("9999-9901", 98);
        value("1000-0999", 1);
    }

    private static boolean isOneOf(int b, String signs) {
        return signs.indexOf(b) >= 0;
    }

    private static void signs() {
        for (int b = 0; b < 256; b++) {
            String text = "dares 1" + (char) b + "1" + REST;
            if (isOneOf(b, "+-*<=") || b >= '0' && b <= '9') {
                good(text);
            } else {
                fault(text, isOneOf(b, "; \n") ? 8 : 7);
            }
        }
    }

    private static void blanks() {
        for (int b = 0; b < 256; b++) {
            String text = "dares" + (char) b + "1" + REST;
            if (isOneOf(b, " \n-") || b >= '0' && b <= '9') {
                good(text);
            } else {
                fault(text, b >= 'a' && b <= 'z' ? 0 : b == '(' ? 7 : 5);
            }
        }
        good(" dares \n 1 \n ; \n eats \n 1 \n ; \n tells \n 1 \n ; \n ");
        good("dares 1;eats 1;tells 1;");
        good("dares(1);eats(1);tells(1);");
        fault("da res 1" + REST, 0);
        fault("dares sh y" + REST, 6);
        fault("dares 1 1" + REST, 8);
    }

    private static void parts() {
        good("dares 1;eats 2;tells 3;");
        fault("dares 1;eats 2;", 15);
        fault("dares 1;eats 2;tells 3", 22);
        fault("dares 1;eats 2;tells 3;;", 23);
        fault("dares 1;eats 2;tells 3;dares 1;", 23);
        fault("dares 1;eats 2;tells 3;1", 23);
        fault("eats 2;", 0);
        fault("tells 2;", 0);
        fault("dares 1;tells 2;", 8);
        fault("dares 1;dares 1;", 8);
        fault("dares 1;eats 2;eats 2;", 15);
        fault("dares 1 eats 2;", 8);
        fault("dares ;", 6);
        fault("dares 1;eats ;", 13);
        fault("dares 1;eats 1;tells ;", 21);
        fault("1;eats 1;tells 1;", 0);
        fault("; dares 1" + REST, 0);
        fault("", 0);
    }

    private static void orsAndAnds() {
        good("dares 1 or 1" + REST);
        good("dares 1 and 1" + REST);
        good("dares 1" + " or 1".repeat(27) + REST);
        good("dares 1" + " and 1".repeat(22) + REST);
        fault("dares or 1" + REST, 6);
        fault("dares and 1" + REST, 6);
        fault("dares 1 or" + REST, 10);
        fault("dares 1 and" + REST, 11);
        fault("dares 1 or or 1" + REST, 11);
        fault("dares 1 and and 1" + REST, 12);
        fault("dares 1 or and 1" + REST, 11);
        value("1 or 0 and 0", 1);
        value("0 and 0 or 1", 1);
        value("0" + " or 0".repeat(22) + " or 1", 1);
        value("1" + " and 1".repeat(18) + " and 0", 0);
    }

    private static void comparisons() {
        good("dares 1<2" + REST);
        good("dares 1=2" + REST);
        fault("dares 1<2<3" + REST, 9);
        fault("dares 1<2=3" + REST, 9);
        fault("dares 1=2<3" + REST, 9);
        fault("dares 1=2=3" + REST, 9);
        fault("dares <2" + REST, 6);
        fault("dares 1<" + REST, 8);
        fault("dares 1=" + REST, 8);
        good("dares 1<2 and 2=3 or 3<4" + REST);
        good("dares (1<2)<(2<3)" + REST);
        good("dares not 1<2" + REST);
        good("dares not not 1<2" + REST);
        fault("dares not 1<2<3" + REST, 13);
        fault("dares 1<not 2" + REST, 8);
        fault("dares 1 not 2" + REST, 8);
        fault("dares not" + REST, 9);
        value("1<2", 1);
        value("2<2", 0);
        value("2<1", 0);
        value("-1<0", 1);
        value("0<-1", 0);
        value("1=2", 0);
        value("2=2", 1);
        value("3=2", 0);
        value("not 1<2", 0);
        value("(not 1)<2", 1);
        value("not 2=2", 0);
    }

    private static void sums() {
        good("dares 1" + "+1".repeat(68) + REST);
        good("dares 1" + "*1".repeat(68) + REST);
        good("dares 1" + "-1".repeat(68) + REST);
        fault("dares 1+" + REST, 8);
        fault("dares 1-" + REST, 8);
        fault("dares 1*" + REST, 8);
        fault("dares +1" + REST, 6);
        fault("dares *1" + REST, 6);
        fault("dares 1++1" + REST, 8);
        fault("dares 1**1" + REST, 8);
        fault("dares 1-*1" + REST, 8);
        fault("dares 1+not 1" + REST, 8);
        fault("dares 1*not 1" + REST, 8);
        good("dares 1--1" + REST);
        good("dares 1*-1" + REST);
        value("9-2-3", 4);
        value("9-(2-3)", 10);
        value("2+3*4", 14);
        value("2*3+4", 10);
        value("1" + "+1".repeat(60), 61);
        value("70" + "-1".repeat(60), 10);
        value("3" + "*1".repeat(60), 3);
        value("5*2*-3", -30);
    }

    private static void ones() {
        good("dares 1" + REST);
        good("dares shy" + REST);
        good("dares -1" + REST);
        good("dares (1)" + REST);
        good("dares -(-shy)" + REST);
        fault("dares ()" + REST, 7);
        fault("dares (1" + REST, 8);
        fault("dares 1)" + REST, 7);
        fault("dares (1))" + REST, 9);
        fault("dares (1)(1)" + REST, 9);
        fault("dares 1(1)" + REST, 7);
        fault("dares -" + REST, 7);
        fault("dares -not 1" + REST, 7);
        fault("dares dares" + REST, 6);
        fault("dares eats" + REST, 6);
        fault("dares tells" + REST, 6);
        good("dares (not 1 or 1<2)" + REST);
        value("-5", -5);
        value("--5", 5);
        value("-(2+3)*4", -20);
        value("-2*3", -6);
        value("-2+3", 1);
    }

    private static void names() {
        for (String name : new String[] {"shy", "bored", "ate", "minute", "wrongs", "more"}) {
            good("dares " + name + REST);
            fault("dares " + name + "s" + REST, 6);
            fault("dares x" + name + REST, 6);
            fault("dares " + name.substring(0, name.length() - 1) + REST, 6);
            fault("dares " + name.substring(1) + REST, 6);
            fault("dares " + name.substring(0, name.length() - 1) + "x" + REST, 6);
            fault(name + " 1" + REST, 0);
            fault("dares 1 " + name + REST, 8);
        }
    }

    private static void wrapping() {
        // 4634*10*4634*10+9783*9 is 2147483647.
        String most = "4634*10*4634*10+9783*9";
        value(most + "<0", 0);
        value("0<" + most, 1);
        value(most + "+1<0", 1);
        value("0-(" + most + ")<0", 1);
        value("0-(" + most + ")-1<0", 1);
        value("0-(" + most + ")-2<0", 0);
        value("0-(" + most + ")-2=" + most, 1);
        value(most + "+1=0-(" + most + ")-1", 1);
        value("8192*8192*31<0", 0);
        value("8192*8192*32<0", 1);
        value("-(8192*8192*32)<0", 1);
        value("-(8192*8192*32)=8192*8192*32", 1);
        value("8192*8192*64+7", 7);
        value("8192*8192*64", 0);
        value("not 8192*8192*64", 1);
        value("8192*8192*64 or 0", 0);
        value("8192*8192*64*9999+9", 9);
        value("8192*8192*32-1-(" + most + ")", 0);
    }

    private static void truths() {
        value("not 0", 1);
        value("not 1", 0);
        value("not -1", 0);
        value("not 2", 0);
        value("0 or 0", 0);
        value("0 or -1", 1);
        value("9999 or 0", 1);
        value("2 or 2", 1);
        value("2 and 1", 1);
        value("4 and 3", 1);
        value("-1 and -1", 1);
        value("1 and 0", 0);
        value("0 and 1", 0);
        value("0 and 0", 0);
        value("(1<2)+(2=2)+(2 or 2)+(2 and 2)+(not 0)", 5);
        value("(2<1)+(2=1)+(0 or 0)+(2 and 0)+(not 2)", 0);
        value("7", 7);
        value("not not 7", 1);
    }

    private static void firstFault() {
        // Of two faults the first one; a fault's place is where the token begins, whatever is wrong with it.
        fault("dares 1 2 12345 ?" + REST, 8);
        fault("dares ? 12345" + REST, 6);
        fault("dares 12345 ?" + REST, 6);
        fault("dares xyz 12345" + REST, 6);
        fault("dares 1 ? 2" + REST, 8);
        fault("dares   )" + REST, 8);
        fault("dares\n\n)" + REST, 7);
        fault("?", 0);
        fault(" ?", 1);
        fault("dares 1;eats 1;tells 1;?", 23);
        fault("dares 1;eats 1;tells 1; 12345", 24);
        fault(" ".repeat(159) + "?", 159);
        fault(" ".repeat(155) + "dares", 160);
    }

    private static void endsTooEarly() {
        String[] tokens = {"dares", " ", "(", "shy", "+", "1", ")", "<", "-", "2", "and", " ", "not", " ", "3", ";", "eats", " ", "1", ";",
            "tells", " ", "1"};
        StringBuilder text = new StringBuilder();
        fault("", 0);
        for (String token : tokens) {
            text.append(token);
            fault(text.toString(), text.length());
            fault(text + " \n ", text.length() + 3);
        }
        good(text + ";");
        fault(" ".repeat(160), 160);
    }

    private static void bytesThatBeginNone() {
        for (int b = 0; b < 256; b++) {
            boolean begins = b >= 'a' && b <= 'z' || b >= '0' && b <= '9' || isOneOf(b, "();+-*<= \n");
            if (!begins) {
                fault((char) b + "dares 1" + REST, 0);
                fault("dares (" + (char) b + ")" + REST, 7);
                fault("dares 1" + REST + (char) b, 23);
            }
        }
    }

    private static void strangeWords() {
        for (String word : new String[] {"a", "z", "sh", "shyy", "dare", "daress", "o", "an", "no", "nots", "ander", "orr", "mor", "mores"}) {
            fault("dares " + word + REST, 6);
            fault(word + " 1" + REST, 0);
        }
        for (String word : new String[] {"nor", "xor", "an", "o", "andor", "ands"}) {
            fault("dares 1 " + word + " 1" + REST, 8);
        }
        fault("dares 1;eat 1;tells 1;", 8);
        fault("dares 1;eats 1;tell 1;", 15);
        // A KEY or a NAME where it can't stand is at fault as well.
        fault("dares 1 shy" + REST, 8);
        fault("dares and" + REST, 6);
    }

    private static void longNumbers() {
        good("dares 9999" + REST);
        fault("dares 99990" + REST, 6);
        fault("dares 1+99990" + REST, 8);
        fault("dares 1 99990" + REST, 8);
        fault("dares -99990" + REST, 7);
        fault("99990", 0);
        fault("dares 1;99990", 8);
        good("dares 9999;eats 9999;tells 9999;");
        fault("dares 1;eats 9999;tells 00009;", 24);
    }

    private static void fiveOpen() {
        good("dares (((((1)))))" + REST);
        fault("dares ((((((1))))))" + REST, 11);
        good("dares -----1" + REST);
        fault("dares ------1" + REST, 11);
        good("dares not not not not not 1" + REST);
        fault("dares not not not not not not 1" + REST, 26);
        // Each of the three behind four and behind five of each.
        String[] opens = {"(", "-", "not "};
        String[] ends = {")", "", ""};
        for (int outer = 0; outer < 3; outer++) {
            for (int inner = 0; inner < 3; inner++) {
                if (outer == 1 && inner == 2) {
                    continue;
                }
                String four = "dares " + opens[outer].repeat(4);
                good(four + opens[inner] + "1" + ends[inner] + ends[outer].repeat(4) + REST);
                String five = "dares " + opens[outer].repeat(5);
                fault(five + opens[inner] + "1" + ends[inner] + ends[outer].repeat(5) + REST, five.length());
            }
        }
        good("dares not(-(-1))" + REST);
        fault("dares not(-(--1))" + REST, 13);
        good("dares (((((1-1)))))" + REST);
        fault("dares (((((1--1)))))" + REST, 13);
        fault("dares (((((1-(1))))))" + REST, 13);
        fault("dares 1;eats ((((((1))))));tells 1;", 18);
        good("dares (((((1)))));eats (((((1)))));tells (((((1)))));");
        value("(((((7)))))", 7);
        value("-----7", -7);
        value("not not not not not 7", 0);
    }

    private static void openTill() {
        // What has ended is open no more.
        good("dares (1)+(1)+(1)+(1)+(1)+(1)" + REST);
        good("dares -1+-1+-1+-1+-1+-1" + REST);
        good("dares -1*-1*-1*-1*-1*-1" + REST);
        good("dares not 1 or not 1 or not 1 or not 1 or not 1 or not 1" + REST);
        good("dares not 1 and not 1 and not 1 and not 1 and not 1 and not 1" + REST);
        good("dares ((((1)+(1))))" + REST);
        good("dares ((((-1+-1*-1))))" + REST);
        // A ( is open till its own ).
        good("dares (((((1))))+(1))" + REST);
        fault("dares ((((1))+((1+(1)))+(((((1" + REST, 27);
        // A - is open till its ONE ends: it ends with a ( that belongs to it.
        good("dares -((((1))))" + REST);
        fault("dares -(((((1)))))" + REST, 11);
        good("dares -(1)*((((1))))+(((((1)))))" + REST);
        fault("dares -(1)*((((1))))+((((((1))))))" + REST, 26);
        good("dares --(1)-(((((1)))))" + REST);
        // A not is open till its NOT ends: beyond the < and the second SUM, up to and, or, ) and ;.
        good("dares not 1<((((1))))" + REST);
        fault("dares not 1<(((((1)))))" + REST, 16);
        fault("dares not 1+(((((1)))))" + REST, 16);
        fault("dares not 1*1=1-(((((1)))))" + REST, 20);
        good("dares not 1<1 and (((((1)))))" + REST);
        good("dares not 1<1 or (((((1)))))" + REST);
        good("dares (not 1<1)+(((((1)))))" + REST);
        good("dares not 1;eats (((((1)))));tells 1;");
        fault("dares not not 1<((((1))))" + REST, 19);
        good("dares not not 1<(((1)))" + REST);
    }

    private static void sixTexts() {
        StalemateDinner d = bare();
        for (int t = 1; t < 6; t++) {
            due("text " + t, Check.text(d, "dares " + t + REST), t);
            due(d, t + 1, "count", 3);
        }
        Check.feed(d, "dares 6" + REST);
        due(d, FULL, "text");
        due(d, 6, "count", 3);
        d.guest(0, 0, 0);
        for (int t = 0; t < 6; t++) {
            due(d, t == 0 ? 0 : t - 1, "force", t);
            due(d, t == 0 ? 99 : t, "asks", 0, 0);
        }
        refusedBeside(Edges::read, BAD, 0, 5, "force");
        refused(Edges::read, FULL, "text");
        // Each as long as the tape lets it be, and a fault as late as can be ahead of it.
        d = bare();
        for (int t = 1; t < 6; t++) {
            due("a fault behind much", Check.text(d, "dares 1" + "+1".repeat(68) + ";eats 1;tells 1;;"), -259);
            due("text " + t, Check.text(d, "dares " + t + "+1".repeat(68) + " " + REST), t);
        }
        d.guest(0, 0, 0);
        for (int t = 1; t < 6; t++) {
            d.force(t);
            due(d, 68 + t, "asks", 0, 0);
            due(d, 1, "asks", 1, 0);
            due(d, 1, "asks", 2, 0);
        }
    }

    private static void firstText() {
        StalemateDinner d = bare();
        due(d, 1, "count", 3);
        due(d, 0, "count", 4);
        d.guest(0, 1, 99);
        d.guest(0, 0, 0);
        d.guest(0, 0, 0);
        due(d, 99, "asks", 0, 0);
        due(d, 1, "asks", 1, 0);
        due(d, 1, "asks", 2, 0);
        due(d, 1, "manners", 0, 1, 0);
        due(d, 1, "manners", 0, 1, 1);
        due(d, 1, "told", 0, 9);
        due(d, 0, "force", 0);
    }

    private static void daresAndEatsBounds() {
        StalemateDinner d = with("dares ate+ate-bored;eats ate+ate-bored;tells 0;", one(0, 0, 0));
        // ATE, BORED, and what is said of 2 ATE - BORED.
        int[][] rows = {{0, 0, 0}, {0, 1, 0}, {1, 1, 1}, {49, 0, 98}, {50, 1, 99}, {50, 0, 99}, {99, 99, 99}, {99, 98, 99}, {0, 99, 0},
            {99, 0, 99}};
        for (int[] row : rows) {
            d.put(0, 3, row[0]);
            d.put(0, 2, row[1]);
            due(d, row[2], "asks", 0, 0);
            due(d, row[2], "asks", 1, 0);
        }
        // The bound is what one dares.
        d = with("dares 98+shy;eats 1;tells 0;", one(0, 0, 99));
        due(d, 0, "told", 0, 8);
        d = with("dares 0-shy;eats 1;tells 0;", one(0, 0, 0), one(0, 0, 1));
        due(d, 0, "told", 0, 8);
        due(d, 1, "told", 1, 8);
    }

    private static void tellsBounds() {
        StalemateDinner d = with("dares 0;eats 0;tells ate+ate-bored-bored;", one(0, 0, 0), one(0, 0, 0), one(0, 0, 0), one(0, 0, 0), one(0, 0, 0));
        // ATE, BORED, what is said of 2 ATE - 2 BORED, and who is so many seats on.
        int[][] rows = {{0, 0, 0, 0}, {49, 0, 98, 3}, {50, 0, 99, 4}, {99, 0, 99, 4}, {0, 49, -98, 2}, {0, 50, -99, 1}, {0, 99, -99, 1}};
        for (int[] row : rows) {
            d.put(0, 3, row[0]);
            d.put(0, 2, row[1]);
            due(d, row[2], "asks", 2, 0);
            due(d, row[3], "told", 0, 9);
        }
        value("99", 99);
        value("100", 99);
        value("-99", -99);
        value("-100", -99);
    }

    private static void farBounds() {
        StalemateDinner d = with("dares 8192*8192*32;eats 8192*8192*32;tells 8192*8192*32;", one(0, 0, 0));
        int[] least = {0, 0, -99};
        for (int part = 0; part < 3; part++) {
            due(d, least[part], "asks", part, 0);
        }
        d = with("dares 8192*8192*32-1;eats 8192*8192*32-1;tells 8192*8192*32-1;", one(0, 0, 0));
        for (int part = 0; part < 3; part++) {
            due(d, 99, "asks", part, 0);
        }
        d = with("dares 9999;eats 9999;tells 9999;", one(0, 0, 0));
        for (int part = 0; part < 3; part++) {
            due(d, 99, "asks", part, 0);
        }
        d = with("dares -9999;eats -9999;tells -9999;", one(0, 0, 0));
        for (int part = 0; part < 3; part++) {
            due(d, least[part], "asks", part, 0);
        }
    }

    private static void namesOfOne() {
        // Of the second of two, who is otherwise than the first in all.
        StalemateDinner d = bare();
        d.guest(9, 1023, 99);
        d.guest(0, 0, 0);
        d.put(0, 2, 99);
        d.put(0, 3, 99);
        String[] names = {"shy", "bored", "ate", "wrongs*9", "more*11"};
        int[] of = {99, 99, 99, 90, 99};
        for (int i = 0; i < 5; i++) {
            due("a law of " + names[i], Check.text(d, "dares 1;eats 1;tells " + names[i] + ";"), i + 1);
            d.force(i + 1);
            due(d, of[i], "asks", 2, 0);
            due(d, 0, "asks", 2, 1);
        }
        d = with("dares minute;eats minute-900;tells 0-minute+910;", one(0, 0, 0));
        int[][] minutes = {{0, 0, 0, 99}, {1, 1, 0, 99}, {98, 98, 0, 99}, {99, 99, 0, 99}, {901, 99, 1, 9}, {998, 99, 98, -88},
            {999, 99, 99, -89}};
        for (int[] row : minutes) {
            d.clock(row[0]);
            for (int part = 0; part < 3; part++) {
                due(d, row[1 + part], "asks", part, 0);
            }
        }
        // Of one who acts, WRONG is more by each act.
        d = with("dares 99;eats wrongs+1;tells 0;", one(0, 511, 0));
        due(d, 10, "asks", 1, 0);
        due(d, 9, "act", 0);
        due(d, 11, "asks", 1, 0);
        due(d, 10, "told", 0, 3);
        d.put(0, 0, 0);
        due(d, 1, "asks", 1, 0);
    }
}
