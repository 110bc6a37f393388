/** Promises 2 feed, 3 back, 4 read, 5 place: the tape, and the faults of its text. */
public final class TapeTest {
    public static void main(String[] args) {
        feed();
        back();
        byteOrder();
        read();
        place();
        tokens();
        syntax();
        roomForTokens();
        roomForRules();
        roomForOpen();
        wrongAmounts();
        firstByPlace();
        readsAnew();
        Check.finish();
    }

    private static void feed() {
        GuideDesk desk = new GuideDesk();
        for (int i = 1; i <= 100; i++) {
            Check.due("feed " + i, 20 * i, desk.feed(0, 0, 0, 0, 0));
        }
        Check.due("feed beyond 2000", -1, desk.feed(0, 0, 0, 0, 0));
        Check.due("nothing came", 2000, desk.count(9));
        Check.due("back 19", 1981, desk.back(19));
        Check.due("feed to 2001", -1, desk.feed(0, 0, 0, 0, 0));
        Check.due("back 1", 1980, desk.back(1));
        Check.due("feed to 2000", 2000, desk.feed(0, 0, 0, 0, 0));
    }

    private static void back() {
        GuideDesk desk = new GuideDesk();
        Check.due("back 0 of none", 0, desk.back(0));
        Check.due("back 1 of none", -1, desk.back(1));
        desk.feed(1, 2, 3, 4, 5);
        Check.due("back -1", -1, desk.back(-1));
        Check.due("back least", -1, desk.back(Integer.MIN_VALUE));
        Check.due("back 21", -1, desk.back(21));
        Check.due("back greatest", -1, desk.back(Integer.MAX_VALUE));
        Check.due("nothing went", 20, desk.count(9));
        Check.due("back 0", 20, desk.back(0));
        Check.due("back 7", 13, desk.back(7));
        Check.due("back 13", 0, desk.back(13));
    }

    private static void byteOrder() {
        GuideDesk desk = new GuideDesk();
        // "never if live;      " by its bytes
        Check.due("feed", 20, desk.feed(0x6e657665, 0x72206966, 0x206c6976, 0x653b2020, 0x20202020));
        Check.due("read", 0, desk.read());
        Check.due("rules", 1, desk.count(3));
        // The last n bytes go: what stays is the head of the text.
        Check.type(desk, Check.bytes("never if live;x"));
        desk.back(1);
        Check.due("read without the last", 0, desk.read());
        // A later feed comes behind what is there.
        Check.type(desk, Check.bytes("never if "));
        Check.type(desk, Check.bytes("first;never if live;"));
        Check.due("read of two feeds", 0, desk.read());
        Check.due("rules of two feeds", 2, desk.count(3));
    }

    private static void read() {
        GuideDesk desk = new GuideDesk();
        Check.due("read of nothing", 0, desk.read());
        Check.due("a good text", 0, Check.read(desk, "wish 1 if live; never if first;"));
        Check.due("rules", 2, desk.count(3));
        Check.due("the tape is empty", 0, desk.count(9));
        Check.due("a faulty text", 1, Check.read(desk, "wish 1 if live; x"));
        Check.due("the tape is empty, too", 0, desk.count(9));
        Check.due("changes nothing", 2, desk.count(3));
        Check.due("a wrong text", 5, Check.read(desk, "wish 0 if live;"));
        Check.due("changes nothing, too", 2, desk.count(3));
        Check.due("blanks alone", 0, Check.read(desk, " \t\n\r "));
        Check.due("no rules", 0, desk.count(3));
    }

    private static void place() {
        GuideDesk desk = new GuideDesk();
        Check.due("without a read", -1, desk.place());
        Check.read(desk, "  x");
        Check.due("of a fault", 2, desk.place());
        Check.type(desk, Check.bytes("never if live;"));
        Check.due("before the next read", 2, desk.place());
        desk.read();
        Check.due("without a fault", -1, desk.place());
    }

    private static void tokens() {
        Check.fault("wish5if live;never if title==1and first;", 0, -1);
        Check.fault("wish\t5\nif\rlive ;", 0, -1);
        Check.fault("wish 5 if 1<2;wish 5 if 1<=2;wish 5 if 1!=2;wish 5 if 1==2;", 0, -1);
        Check.fault("wish 5 if 1 < = 2;", 1, 14);
        Check.fault("wish 5 if 1 = 2;", 1, 12);
        Check.fault("wish 5 if 1 ! 2;", 1, 12);
        Check.fault("wish 5 if 1 === 2;", 1, 14);
        Check.fault("wish 5 if 1 <== 2;", 1, 14);
        Check.fault("wish 5 if 1 > 2;", 1, 12);
        Check.fault("wish 5 if 9999 == 1;", 0, -1);
        Check.fault("wish 5 if 10000 == 1;", 1, 10);
        Check.fault("wish 5 if 00000 == 1;", 1, 10);
        Check.fault("wish 00005 if live;", 1, 5);
        Check.fault("wish 0005 if live;", 0, -1);
        Check.fault("wish 5 if episode == 1;", 0, -1);
        Check.fault("wish 5 if titles == 1;", 1, 10);
        Check.fault("wish 5 if titl == 1;", 1, 10);
        Check.fault("wish 5 if episodeepisode == 1;", 1, 10);
        Check.fault("wishwish 5 if live;", 1, 0);
        Check.fault("fish 5 if live;", 1, 0);
        Check.fault("never if livez;", 1, 9);
        Check.fault("never if liveand first;", 1, 9);
        Check.fault("Wish 5 if live;", 1, 0);
        Check.fault("wish 5 if live.", 1, 14);
        Check.fault("wish 5 if live\u000b;", 1, 14);
        Check.fault("wish 5 if live\u0000;", 1, 14);
        Check.fault("wish 5 if live\u00a0;", 1, 14);
        Check.fault("\u00f7", 1, 0);
    }

    private static void syntax() {
        Check.fault("if", 1, 0);
        Check.fault(";", 1, 0);
        Check.fault("wish", 1, 4);
        Check.fault("wish  ", 1, 6);
        Check.fault("wish if", 1, 5);
        Check.fault("wish 5 5", 1, 7);
        Check.fault("wish 5 if", 1, 9);
        Check.fault("wish 5 if ;", 1, 10);
        Check.fault("wish 5 if live", 1, 14);
        Check.fault("wish 5 if live first;", 1, 15);
        Check.fault("wish 5 if live and;", 1, 18);
        Check.fault("wish 5 if live or;", 1, 17);
        Check.fault("wish 5 if live + 1;", 1, 15);
        Check.fault("wish 5 if live == 1;", 1, 15);
        Check.fault("wish 5 if (live);", 1, 11);
        Check.fault("wish 5 if 1;", 1, 11);
        Check.fault("wish 5 if 1 and live;", 1, 12);
        Check.fault("wish 5 if 1 + live;", 1, 14);
        Check.fault("wish 5 if 1 == live;", 1, 15);
        Check.fault("wish 5 if 1 == 2 == 3;", 1, 17);
        Check.fault("wish 5 if 1 == 2 < 3;", 1, 17);
        Check.fault("wish 5 if 1 == 2 3;", 1, 17);
        Check.fault("wish 5 if (1 == 2);", 1, 13);
        Check.fault("wish 5 if (1;", 1, 12);
        Check.fault("wish 5 if 1) == 2;", 1, 11);
        Check.fault("wish 5 if (1)) == 2;", 1, 13);
        Check.fault("wish 5 if () == 2;", 1, 11);
        Check.fault("wish 5 if - 1 == 2;", 1, 10);
        Check.fault("wish 5 if 1 + + 1 == 2;", 1, 14);
        Check.fault("wish 5 if 1 == (2;", 1, 17);
        Check.fault("wish 5 if 1 == (2 and live);", 1, 18);
        Check.fault("wish 5 if 1 == 2) ;", 1, 16);
        Check.fault("never 5 if live;", 1, 6);
        Check.fault("never if live;;", 1, 14);
        Check.fault("never if live; live", 1, 15);
        Check.fault("never if not live;", 1, 9);
        Check.fault("never if (1 + 2) * 3 - 4 == (5) and live or first and 1 != 2;", 0, -1);
        Check.fault("never if 1 == 2 and live and 1 < 2 or first or 3 <= 4 and first;", 0, -1);
    }

    private static void roomForTokens() {
        // 3 + 2 * 198 + 1 = 400 tokens
        String most = "never if live" + Check.repeat(" or live", 198) + ";";
        String text = most.replaceFirst("live or live;$", "live or 1==1;");
        int at = most.length();
        Check.fault(most, 0, -1);
        Check.fault(most + " ", 0, -1);
        Check.fault(most + " never if live;", 2, at + 1);
        Check.fault(most + " wish 5", 2, at + 1);
        Check.fault(most + " live", 1, at + 1);
        Check.fault(most + " =", 1, at + 1);
        Check.fault(text, 2, text.length() - 2);
        String open = most.substring(0, most.length() - 1);
        Check.fault(open, 1, open.length());
        Check.fault(open + " or live;", 2, open.length() + 4);
        Check.fault(open + " or or", 1, open.length() + 4);
    }

    private static void roomForRules() {
        String most = Check.repeat("never if live;", 20);
        Check.fault(most, 0, -1);
        Check.fault(most + "  never if live;", 2, most.length() + 2);
        Check.fault(most + "wish", 2, most.length());
        Check.fault(most + "live", 1, most.length());
        Check.fault(most + "12345", 1, most.length());
        GuideDesk desk = new GuideDesk();
        Check.read(desk, most);
        Check.due("twenty rules", 20, desk.count(3));
    }

    private static void roomForOpen() {
        Check.fault("never if ((((((1)))))) == 1;", 0, -1);
        Check.fault("never if (((((((1))))))) == 1;", 2, 15);
        Check.fault("never if 1 == (((((( (1", 2, 21);
        Check.fault("never if ((((((1)))))) == ((((((1))))));", 0, -1);
        Check.fault("never if (((((( 1 (", 1, 18);
        Check.fault("never if ((((((1)+(2))))) + (1)) == 1;", 0, -1);
        Check.fault("never if " + Check.repeat("(1)+", 50) + "1 == 1;", 0, -1);
    }

    private static void wrongAmounts() {
        Check.fault("wish 0 if live;", 5, 5);
        Check.fault("wish 0000 if live;", 5, 5);
        Check.fault("wish 1 if live;", 0, -1);
        Check.fault("wish 1000 if live;", 0, -1);
        Check.fault("wish 1001 if live;", 5, 5);
        Check.fault("wish 9999 if live;", 5, 5);
        Check.fault("wish 1 if live; wish 0 if live; wish 1001 if live;", 5, 21);
        Check.fault("wish 1 if 0 == 1001;", 0, -1);
    }

    private static void firstByPlace() {
        // A wrong amount counts only where there is no other fault.
        Check.fault("wish 0 if live", 1, 14);
        Check.fault("wish 0 if (((((((1", 2, 16);
        Check.fault("never if (((((((1 x", 2, 15);
        Check.fault("never if x (((((((1", 1, 9);
    }

    /** What a faulty text left behind does not matter to the next one. */
    private static void readsAnew() {
        String[] faulty = {"wish", "wish 0 if live;", "wish 5 if", "wish 5 if (((1 + 2 * 3", "wish 5 if 1 == 2 + ",
            "wish 5 if live and 1 == 2 or 1 < ", "never if live" + Check.repeat(" or live", 199) + ";",
            Check.repeat("never if live;", 21), "never if (((((((1", "wish 5 if 1 ==", "wish 5 if 1 == 1 and live x"};
        for (String text : faulty) {
            GuideDesk desk = new GuideDesk();
            desk.source(1);
            desk.notice(0, 0, 0, 5, 1, 1, false);
            Check.due("a fault", true, Check.read(desk, text) != 0);
            Check.due("a read after it", 0, Check.read(desk, "never if live" + Check.repeat(" or live", 198) + ";"));
            Check.due("its place", -1, desk.place());
            Check.due("a fault", true, Check.read(desk, text) != 0);
            Check.due("a read after it", 0, Check.read(desk, "wish 7 if ((((((1)))))) + 1 == 2; wish 8 if live;"));
            Check.due("its weight", 7, desk.showing(0, 1, 6));
            Check.due("its first rule", 1, desk.holds(0, 0, 1));
            Check.due("its second rule", 0, desk.holds(1, 0, 1));
            Check.due("a wrong operand", 1, Check.read(desk, "never if 1;"));
            Check.due("the wrong operand's place", 10, desk.place());
        }
    }
}
