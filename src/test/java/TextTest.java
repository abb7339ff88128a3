/** Promises 4 to 7: the tape and the texts. */
public final class TextTest {
    private static final String END = ";eats 1;tells 1;";

    public static void main(String[] args) {
        feed();
        texts();
        faults();
        openOnes();
        values();
        bounds();
        asks();
        force();
        Check.end();
    }

    // Promise 4
    private static void feed() {
        StalemateDinner d = new StalemateDinner();
        Check.due("feed none", d.feed(0, 1, 1, 1, 1, 1), -2);
        Check.due("feed six", d.feed(6, 1, 1, 1, 1, 1), -2);
        for (int place = 0; place < 5; place++) {
            for (int v : new int[] {-1, 256}) {
                int[] b = {32, 32, 32, 32, 32};
                b[place] = v;
                Check.due("feed " + v + " at " + place, d.feed(1, b[0], b[1], b[2], b[3], b[4]), -2);
            }
        }
        Check.due("nothing came", d.count(5), 0);
        Check.due("feed 0 and 255", d.feed(2, 0, 255, 0, 0, 0), 2);
        for (int i = 1; i < 32; i++) {
            Check.due("feed five", d.feed(5, 32, 32, 32, 32, 32), 2 + 5 * i);
        }
        Check.due("no room for all", d.feed(4, 32, 32, 32, 32, 32), -4);
        Check.due("none came", d.count(5), 157);
        Check.due("bad ahead of full", d.feed(4, 32, 32, 32, 32, 256), -2);
        Check.due("just room", d.feed(3, 32, 32, 32, 32, 32), 160);
        Check.due("no room", d.feed(1, 32, 32, 32, 32, 32), -4);

        // Only the first n come, in their order.
        d = new StalemateDinner();
        d.guest(0, 0, 42);
        d.feed(5, 'd', 'a', 'r', 'e', 's');
        d.feed(4, ' ', 's', 'h', 'y', 'x');
        d.feed(3, ';', 'e', 'a', 'x', 'x');
        d.feed(2, 't', 's', 'x', 'x', 'x');
        d.feed(1, '3', 'x', 'x', 'x', 'x');
        Check.feed(d, ";tells 4;");
        Check.due("a text fed in pieces", d.text(), 1);
        d.force(1);
        Check.due("its dares", d.asks(0, 0), 42);
        Check.due("its eats", d.asks(1, 0), 3);
        Check.due("its tells", d.asks(2, 0), 4);
    }

    // Promise 5
    private static void texts() {
        StalemateDinner d = new StalemateDinner();
        for (int t = 1; t < 6; t++) {
            Check.due("text " + t, Check.text(d, "dares " + t + ";eats 1;tells 1;"), t);
            Check.due("the tape is empty", d.count(5), 0);
            if (t < 5) {
                Check.due("a fault", Check.text(d, "dares dares"), -106);
                Check.due("the tape is empty by a fault", d.count(5), 0);
            }
            Check.due("how many texts", d.count(3), t + 1);
        }
        Check.feed(d, "?");
        Check.due("full ahead of the fault", d.text(), -4);
        Check.due("the tape stays", d.count(5), 1);
        Check.due("still six", d.count(3), 6);
        d.guest(0, 0, 0);
        for (int t = 0; t < 6; t++) {
            d.force(t);
            Check.due("each text is its own", d.asks(0, 0), t == 0 ? 99 : t);
        }
    }

    private static void fault(String text, int place) {
        StalemateDinner d = new StalemateDinner();
        Check.due("text \"" + text + "\"", Check.text(d, text), -100 - place);
        Check.due("no text came", d.count(3), 1);
    }

    private static void good(String text) {
        StalemateDinner d = new StalemateDinner();
        Check.due("text \"" + text + "\"", Check.text(d, text), 1);
    }

    // Promise 5: the fault
    private static void faults() {
        good("dares 1;eats 2;tells 3;");
        good("  dares\n1 ;\n\neats 2;tells 3; \n");
        good("dares(1);eats(2);tells(3);");
        good("dares1;eats2;tells3;");
        good("dares 0001;eats 9999;tells 1or 1and 1;");
        fault("", 0);
        fault("   ", 3);
        fault("dares", 5);
        fault("dares ", 6);
        fault("dares 1", 7);
        fault("dares 1;", 8);
        fault("dares 1;eats 2;tells 3", 22);
        fault("dares 1;eats 2;tells 3  ", 24);
        fault("dares 1;eats 2;tells 3;;", 23);
        fault("dares 1;eats 2;tells 3; dares 1;", 24);
        fault("eats 1;", 0);
        fault("dares 1;tells 1;", 8);
        fault("dares 1;eats 1;eats 1;", 15);
        fault("dares;", 5);
        fault("dares 1 1;", 8);
        fault("dares 12345;", 6);
        fault("dares 00001;", 6);
        fault("dares 5shy;", 7);
        fault("dares shy5;", 9);
        fault("dares shybored;", 6);
        fault("dares sh;", 6);
        fault("dares thy;", 6);
        fault("dares shyz;", 6);
        fault("dares shya;", 6);
        fault("tares 1;", 0);
        fault("daress 1;", 0);
        fault("Dares 1;", 0);
        fault("dares A;", 6);
        fault("dares 1{;", 7);
        fault("dares `;", 6);
        fault("dares 1/2;", 7);
        fault("dares 1:2;", 7);
        fault("dares 1>2;", 7);
        fault("dares\t1;", 5);
        fault("dares\r1;", 5);
        fault("dares" + (char) 0 + "1;", 5);
        fault("dares" + (char) 255 + "1;", 5);
        fault("dares dares;", 6);
        fault("dares eats;", 6);
        fault("dares or 1;", 6);
        fault("dares 1 or;", 10);
        fault("dares 1 and or;", 12);
        fault("dares 1 and not or;", 16);
        fault("dares 1 and not", 15);
        fault("dares 1 not 1;", 8);
        fault("dares 1+not 1;", 8);
        fault("dares 1*not 1;", 8);
        fault("dares 1<not 1;", 8);
        fault("dares -not 1;", 7);
        fault("dares 1<2<3;", 9);
        fault("dares 1<2=3;", 9);
        fault("dares 1=2<3;", 9);
        fault("dares 1==3;", 8);
        fault("dares 1<;", 8);
        fault("dares <1;", 6);
        fault("dares *1;", 6);
        fault("dares +1;", 6);
        fault("dares 1+*1;", 8);
        fault("dares 1++1;", 8);
        fault("dares 1+;", 8);
        fault("dares 1*;", 8);
        fault("dares -;", 7);
        fault("dares ();", 7);
        fault("dares (1;", 8);
        fault("dares 1);", 7);
        fault("dares (1)(2);", 9);
        fault("dares 1(2);", 7);
        good("dares 1+-1;eats 1--1;tells 1*-1;");
        good("dares (1<2)<3;eats not not 1;tells not (not 1)+1;");
        good("dares 1<2 and 2<3 or not 1=2 and 1;eats 1;tells 1;");
    }

    // Promise 5: at most five of ( not - are open
    private static void openOnes() {
        good("dares (((((1)))))" + END);
        fault("dares ((((((1))))))" + END, 11);
        good("dares -----1" + END);
        fault("dares ------1" + END, 11);
        good("dares not not not not not 1" + END);
        fault("dares not not not not not not 1" + END, 26);
        good("dares not(-(-1))" + END);
        fault("dares not(-(-(1)))" + END, 13);
        fault("dares not(-(--1))" + END, 13);
        fault("dares not((((not 1))))" + END, 13);
        // What has ended is open no more.
        good("dares -1*-1*-1*-1*-1*-1*-1" + END);
        good("dares (1)*(1)*(1)*(1)*(1)*(1)*(1)" + END);
        good("dares not 1 and not 1 and not 1 or not 1 or not 1 or not 1" + END);
        good("dares ((((not 1 and (1) and -1 and not 1))))" + END);
        good("dares ((((-1+-1-(1)))))" + END);
        fault("dares ((((-1+-1-(-1)))))" + END, 17);
        good("dares -(-(-1)+-(-1))" + END);
        fault("dares -(-(-1)+-(-(1)))" + END, 17);
        // A not is open till its comparison ends.
        good("dares not 1<((((1))))" + END);
        fault("dares not 1<(((((1)))))" + END, 16);
        fault("dares not 1<((((-1))))" + END, 16);
        // A ( that can't stand there has its own place, too, and a minus between two is none ahead of one.
        good("dares (((((1-1)))))" + END);
        fault("dares (((((1-(1))))))" + END, 13);
        fault("dares (((((--1)))))" + END, 11);
    }

    private static void value(String expression, int want) {
        value(new StalemateDinner(), expression, want);
    }

    /** The value by way of what it tells, which may be below 0. */
    private static void value(StalemateDinner d, String expression, int want) {
        if (d.count(0) == 0) {
            d.guest(0, 0, 0);
        }
        Check.law(d, "dares 1;eats 1;tells " + expression + ";");
        Check.due(expression, d.asks(2, 0), want);
    }

    // Promise 7: how an expression is told
    private static void values() {
        value("2+3*4", 14);
        value("2*3+4", 10);
        value("(2+3)*4", 20);
        value("2-3-4", -5);
        value("2-(3-4)", 3);
        value("-2*3", -6);
        value("-2+3", 1);
        value("--2", 2);
        value("2*-3", -6);
        value("0-0", 0);
        value("0012", 12);
        value("not 0", 1);
        value("not 5", 0);
        value("not -5", 0);
        value("not not 5", 1);
        value("not 1<0", 1);
        value("(not 1)<1", 1);
        value("not 0 and 0", 0);
        value("not 1 or 1", 1);
        value("1 or 0 and 0", 1);
        value("(1 or 0) and 0", 0);
        value("3 and 4", 1);
        value("3 and 0", 0);
        value("0 or 0", 0);
        value("0 or 7", 1);
        value("-1 or 0", 1);
        value("1<2", 1);
        value("2<2", 0);
        value("3<2", 0);
        value("2=2", 1);
        value("2=3", 0);
        value("1+1=2", 1);
        value("1+1<2*2", 1);
        value("1<2 and 2<3", 1);
        value("(5)", 5);
        value("9999*9999*9999<0", 9999 * 9999 * 9999 < 0 ? 1 : 0);
        value("9999*9999*22<0", 9999 * 9999 * 22 < 0 ? 1 : 0);
        value("8192*8192*64+7", 7);
        value("8192*8192*32<0", 1);
        value("-(8192*8192*32)<0", 1);
        // As much waits to be joined as ever can.
        String level = "0or 1and 0<0+1*";
        String deep = level + "(" + level + "(" + level + "(" + level + "(" + level + "(";
        value(deep + level + "9)))))", 1);
        value(deep + level + "0)))))", 0);

        StalemateDinner d = new StalemateDinner();
        d.guest(7, 0b1011, 11);
        d.put(0, 2, 22);
        d.put(0, 3, 33);
        d.clock(44);
        value(d, "shy", 11);
        value(d, "bored", 22);
        value(d, "ate", 33);
        value(d, "minute", 44);
        value(d, "wrongs*10+more", 37);
    }

    // Promise 7: the bounds
    private static void bounds() {
        StalemateDinner d = new StalemateDinner();
        d.guest(0, 0, 0);
        Check.law(d, "dares 100;eats 100;tells 100;");
        Check.due("dares at most", d.asks(0, 0), 99);
        Check.due("eats at most", d.asks(1, 0), 99);
        Check.due("tells at most", d.asks(2, 0), 99);
        Check.law(d, "dares -1;eats -1;tells -100;");
        Check.due("dares at least", d.asks(0, 0), 0);
        Check.due("eats at least", d.asks(1, 0), 0);
        Check.due("tells at least", d.asks(2, 0), -99);
        Check.law(d, "dares 99;eats 98;tells -99;");
        Check.due("dares 99", d.asks(0, 0), 99);
        Check.due("eats 98", d.asks(1, 0), 98);
        Check.due("tells -99", d.asks(2, 0), -99);
        Check.law(d, "dares minute;eats minute;tells -minute;");
        d.clock(999);
        Check.due("dares late", d.asks(0, 0), 99);
        Check.due("eats late", d.asks(1, 0), 99);
        Check.due("tells late", d.asks(2, 0), -99);
    }

    // Promise 7
    private static void asks() {
        StalemateDinner d = new StalemateDinner();
        Check.due("asks: nobody", d.asks(0, 0), -1000);
        d.guest(50, 0, 0);
        Check.due("asks: the first text's dares", d.asks(0, 0), 99);
        Check.due("asks: the first text's eats, of a widow too", d.asks(1, 0), 1);
        Check.due("asks: the first text's tells", d.asks(2, 0), 1);
        Check.due("asks: part -1", d.asks(-1, 0), -1000);
        Check.due("asks: part 3", d.asks(3, 0), -1000);
        Check.due("asks: guest -1", d.asks(0, -1), -1000);
        Check.due("asks: guest 1", d.asks(0, 1), -1000);
        d.guest(35, 0, 17);
        Check.law(d, "dares shy;eats more;tells shy-more;");
        Check.due("asks of another one", d.asks(0, 1), 17);
        Check.due("asks what the text says, not the kind", d.asks(1, 1), 5);
        Check.due("asks what the text says, not the kind", d.asks(2, 1), 12);
    }

    // Promise 6
    private static void force() {
        StalemateDinner d = new StalemateDinner();
        Check.due("force(1)", d.force(1), -2);
        Check.due("force(-1)", d.force(-1), -2);
        Check.due("force(0)", d.force(0), 0);
        Check.text(d, "dares 1;eats 2;tells 3;");
        Check.text(d, "dares 4;eats 5;tells 6;");
        Check.due("force(2)", d.force(2), 0);
        Check.due("force(1)", d.force(1), 2);
        Check.due("force(3)", d.force(3), -2);
        Check.due("the law", d.count(4), 1);
    }
}
