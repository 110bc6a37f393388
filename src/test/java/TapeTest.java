/** Promises 2 feed, 3 back, 4 read, 5 place: the tape, and the faults of its text. */
public final class TapeTest {
    public static void main(String[] args) {
        feed();
        feedRefused();
        byteOrder();
        back();
        backRefused();
        read();
        readLeavesTheTapeEmpty();
        emptyTexts();
        fullTape();
        place();
        everyByte();
        blanks();
        words();
        ints();
        signs();
        syntax();
        textsEnd();
        roomForTokens();
        roomForRules();
        roomForOpen();
        allRoomTaken();
        wrongAmounts();
        wrongOnlyWithoutOthers();
        firstByPlace();
        faultsChangeNothing();
        readsAnew();
        Check.finish();
    }

    /** A tape with so many bytes, blanks all of them. */
    private static GuideDesk blank(int size) {
        GuideDesk desk = new GuideDesk();
        Check.type(desk, Check.bytes(" ".repeat(size)));
        return desk;
    }

    private static void feed() {
        Check.promise(2, "Twenty bytes .. come behind the tape: how many it has");
        GuideDesk desk = new GuideDesk();
        for (int i = 1; i <= 100; i++) {
            Check.due("feed " + i, 20 * i, desk.feed(0, 0, 0, 0, 0));
        }
        Check.due("it is full", 2000, desk.count(9));
        Check.due("of 1 byte", 21, blank(1).feed(0, 0, 0, 0, 0));
        Check.due("of 1979 bytes", 1999, blank(1979).feed(0, 0, 0, 0, 0));
        Check.due("of 1980 bytes", 2000, blank(1980).feed(0, 0, 0, 0, 0));
    }

    private static void feedRefused() {
        Check.promise(2, "NONE, and nothing comes, if it would have more than 2,000");
        int[] sizes = {1981, 1990, 1999, 2000};
        for (int size : sizes) {
            GuideDesk desk = blank(size);
            Check.due("of " + size + " bytes", -1, desk.feed(-1, -1, -1, -1, -1));
            Check.due("nothing came", size, desk.count(9));
            Check.due("the text is as it was", 0, desk.read());
        }
        GuideDesk desk = blank(2000);
        desk.feed(0, 0, 0, 0, 0);
        Check.due("back 19", 1981, desk.back(19));
        Check.due("still too much", -1, desk.feed(0, 0, 0, 0, 0));
        Check.due("back 1", 1980, desk.back(1));
        Check.due("just enough", 2000, desk.feed(0x20202020, 0x20202020, 0x20202020, 0x20202020, 0x20202020));
        Check.due("the text", 0, desk.read());
    }

    private static void byteOrder() {
        Check.promise(2, "Twenty bytes, the highest of a first, come behind the tape");
        GuideDesk desk = new GuideDesk();
        // "never if live;      " by its bytes
        Check.due("feed", 20, desk.feed(0x6e657665, 0x72206966, 0x206c6976, 0x653b2020, 0x20202020));
        Check.due("read", 0, desk.read());
        Check.due("rules", 1, desk.count(3));
        // Blanks but for one byte, which is no blank: its place is told.
        for (int i = 0; i < 20; i++) {
            int[] words = {0x20202020, 0x20202020, 0x20202020, 0x20202020, 0x20202020};
            words[i / 4] |= 0xff << 24 - i % 4 * 8;
            desk.feed(0x20202020, 0x20202020, 0x20202020, 0x20202020, 0x20202020);
            desk.feed(words[0], words[1], words[2], words[3], words[4]);
            Check.due("byte " + i, 1, desk.read());
            Check.due("place of byte " + i, 20 + i, desk.place());
        }
        Check.type(desk, Check.bytes("never if "));
        Check.type(desk, Check.bytes("first;never if live;"));
        Check.due("read of two feeds", 0, desk.read());
        Check.due("rules of two feeds", 2, desk.count(3));
    }

    private static void back() {
        Check.promise(3, "The last n bytes of the tape go: how many it has");
        GuideDesk desk = new GuideDesk();
        Check.due("back 0 of none", 0, desk.back(0));
        desk.feed(1, 2, 3, 4, 5);
        Check.due("back 0", 20, desk.back(0));
        Check.due("back 1", 19, desk.back(1));
        Check.due("back 6", 13, desk.back(6));
        Check.due("back 13, all", 0, desk.back(13));
        Check.due("of a full tape", 0, blank(2000).back(2000));
        Check.type(desk, Check.bytes("never if live;x"));
        desk.back(1);
        Check.due("the last one goes", 0, desk.read());
        Check.due("what is there stays", 1, desk.count(3));
        // What came and went is not there when the tape grows again.
        Check.type(desk, Check.bytes("never if live; never if live; never"));
        desk.back(5);
        Check.due("behind what stays", 0, desk.read());
        Check.due("two rules", 2, desk.count(3));
    }

    private static void backRefused() {
        Check.promise(3, "NONE, and nothing goes, if it has not so many, or n is below 0");
        Check.due("back 1 of none", -1, new GuideDesk().back(1));
        Check.due("back -1 of none", -1, new GuideDesk().back(-1));
        int[] wrong = {-1, -39, 40, 2001, Check.LEAST, Check.GREATEST};
        for (int n : wrong) {
            Refusal.due("back " + n, -1, desk -> desk.back(n));
        }
        Check.due("back 2001 of 2000", -1, blank(2000).back(2001));
    }

    private static void read() {
        Check.promise(4, "The tape .. is read: 0, or the number of its FAULT");
        GuideDesk desk = new GuideDesk();
        Check.due("a good text", 0, Check.read(desk, "wish 1 if live; never if first;"));
        Check.due("rules", 2, desk.count(3));
        Check.due("syntax", 1, Check.read(desk, "wish 1 if live; x"));
        Check.due("room", 2, Check.read(desk, "never if live;".repeat(21)));
        Check.due("wrong", 5, Check.read(desk, "wish 0 if live;"));
    }

    private static void readLeavesTheTapeEmpty() {
        Check.promise(4, "The tape, which is empty then");
        String[] texts = {"never if live;", "x", "wish 0 if live;", "never if (((((((1"};
        for (String text : texts) {
            GuideDesk desk = new GuideDesk();
            Check.read(desk, text);
            Check.due("bytes behind " + text, 0, desk.count(9));
            Check.due("back 1 behind " + text, -1, desk.back(1));
            Check.due("another read behind " + text, 0, desk.read());
            Check.due("it has no rules", 0, desk.count(3));
            Check.due("nor a place", -1, desk.place());
            Check.due("a feed", 20, desk.feed(0, 0, 0, 0, 0));
        }
    }

    private static void emptyTexts() {
        Check.promise(4, "text: {RULE}");
        GuideDesk desk = new GuideDesk();
        Check.due("nothing", 0, desk.read());
        Check.due("its place", -1, desk.place());
        Check.read(desk, "never if live;");
        Check.due("blanks alone", 0, Check.read(desk, " \t\n\r "));
        Check.due("no rules", 0, desk.count(3));
        Check.read(desk, "never if live;");
        Check.due("nothing in place of the one ahead", 0, desk.read());
        Check.due("no rules", 0, desk.count(3));
        Check.due("one byte", 1, Check.read(desk, ";"));
    }

    private static void fullTape() {
        Check.promise(4, "a text of at most 2,000 bytes");
        String blanks = " ".repeat(1986);
        Check.fault(blanks + "never if live;", 0, -1);
        Check.fault("never if live" + blanks + ";", 0, -1);
        Check.fault(blanks + "never if livex", 1, 1995);
        Check.fault(blanks + "never if live ", 1, 2000);
        Check.fault(blanks + " never if liv", 1, 1996);
        Check.fault(" ".repeat(1999) + "x", 1, 1999);
        Check.fault(" ".repeat(1999) + "<", 1, 1999);
        Check.fault(" ".repeat(1999) + "=", 1, 1999);
        Check.fault(" ".repeat(1996) + "wish", 1, 2000);
        Check.fault(" ".repeat(1994) + "wish 0", 1, 2000);
        Check.fault("a".repeat(2000), 1, 0);
        Check.fault("never if live;" + "9".repeat(1986), 1, 14);
        Check.fault("wish " + "9".repeat(1995), 1, 5);
    }

    private static void place() {
        Check.promise(5, "The byte of the latest read()'s FAULT; NONE without");
        GuideDesk desk = new GuideDesk();
        Check.due("without a read", -1, desk.place());
        Check.type(desk, Check.bytes("x"));
        Check.due("still without a read", -1, desk.place());
        desk.read();
        Check.due("of the first byte", 0, desk.place());
        Check.read(desk, "  x");
        Check.due("of the latest", 2, desk.place());
        Check.type(desk, Check.bytes("never if live;"));
        desk.back(0);
        Check.due("before the next read", 2, desk.place());
        desk.read();
        Check.due("without a fault", -1, desk.place());
        Check.read(desk, "wish 2 if live; wish 1001 if live;");
        Check.due("of a wrong one", 21, desk.place());
        desk.read();
        Check.due("of an empty text", -1, desk.place());
    }

    private static void everyByte() {
        Check.promise(4, "TOKENS .. all else, is no TOKEN");
        for (int b = 0; b < 256; b++) {
            String text = "never if live" + (char) b + ";";
            if (b == 9 || b == 10 || b == 13 || b == 32) {
                Check.fault(text, 0, -1);
            } else if (b >= 'a' && b <= 'z') {
                Check.fault(text, 1, 9);
            } else {
                Check.fault(text, 1, b == ';' ? 14 : 13);
            }
        }
        for (int b = 0; b < 256; b++) {
            String text = "never if 1 " + (char) b + " 2 == 3;";
            boolean fits = b == '+' || b == '-' || b == '*' || b == 9 || b == 10 || b == 13 || b == 32;
            // A blank leaves two ints side by side; a < is a comparison, and another one is too many.
            boolean blank = fits && b <= 32;
            Check.fault(text, fits && !blank ? 0 : 1, blank ? 13 : b == '<' ? 15 : fits ? -1 : 11);
        }
    }

    private static void blanks() {
        Check.promise(4, "with blanks (9, 10, 13, 32) between or not");
        Check.fault("wish5if live;never if title==1and first;", 0, -1);
        Check.fault("wish5if(1)<=2*3and 1!=2or first;", 0, -1);
        Check.fault("wish\t5\nif\rlive ;", 0, -1);
        Check.fault("\n\n never \t\r\n if  live\n;\n", 0, -1);
        Check.fault("never if live\u000b;", 1, 13);
        Check.fault("never if live\f;", 1, 13);
        Check.fault("never if live\u0000;", 1, 13);
        Check.fault("never if live\u00a0;", 1, 13);
        // A blank parts what would be one token.
        Check.fault("ne ver if live;", 1, 0);
        Check.fault("never if 1 < = 2;", 1, 13);
        Check.fault("never if 1 = = 2;", 1, 11);
        Check.fault("never if 1 ! = 2;", 1, 11);
        Check.fault("never if 1 2 == 3;", 1, 11);
    }

    private static void words() {
        Check.promise(4, "WORDS (letters a .. z, 8 at most) .. A longer one .. is no TOKEN");
        Check.fault("wish 5 if episode == 1;", 0, -1);
        Check.fault("wish 5 if titles == 1;", 1, 10);
        Check.fault("wish 5 if titl == 1;", 1, 10);
        Check.fault("wish 5 if episodes == 1;", 1, 10);
        Check.fault("wish 5 if episodess == 1;", 1, 10);
        Check.fault("wish 5 if episodeepisode == 1;", 1, 10);
        Check.fault("wish 5 if livelivelive;", 1, 10);
        Check.fault("wishwish 5 if live;", 1, 0);
        Check.fault("fish 5 if live;", 1, 0);
        Check.fault("never if livez;", 1, 9);
        Check.fault("never if liveand first;", 1, 9);
        Check.fault("never iflive;", 1, 6);
        Check.fault("Wish 5 if live;", 1, 0);
        Check.fault("never if liVe;", 1, 9);
        Check.fault("never if live_;", 1, 13);
        Check.fault("never if live`;", 1, 13);
        Check.fault("never if live{;", 1, 13);
    }

    private static void ints() {
        Check.promise(4, "INTS (1 to 4 digits) .. A longer one .. is no TOKEN");
        Check.fault("wish 5 if 0 == 9999;", 0, -1);
        Check.fault("wish 5 if 0000 == 0009;", 0, -1);
        Check.fault("wish 5 if 10000 == 1;", 1, 10);
        Check.fault("wish 5 if 00000 == 1;", 1, 10);
        Check.fault("wish 5 if 1 == 00001;", 1, 15);
        Check.fault("wish 5 if 4294967297 == 1;", 1, 10);
        Check.fault("wish 00005 if live;", 1, 5);
        Check.fault("wish 10000 if live;", 1, 5);
        Check.fault("wish 0005 if live;", 0, -1);
        Check.fault("wish -5 if live;", 1, 5);
        Check.fault("never if 1/ == 1;", 1, 10);
        Check.fault("never if 1: == 1;", 1, 10);
    }

    private static void signs() {
        Check.promise(4, "TOKENS, the longest that can be .. SIGNS ; + - * == != < <= ( )");
        Check.fault("never if 1<2;never if 1<=2;never if 1!=2;never if 1==2;never if(1)+2-3*4<5;", 0, -1);
        Check.fault("never if 1 = 2;", 1, 11);
        Check.fault("never if 1 ! 2;", 1, 11);
        Check.fault("never if 1 === 2;", 1, 13);
        Check.fault("never if 1 !== 2;", 1, 13);
        Check.fault("never if 1 <== 2;", 1, 13);
        Check.fault("never if 1 <<= 2;", 1, 12);
        Check.fault("never if 1 =< 2;", 1, 11);
        Check.fault("never if 1 > 2;", 1, 11);
        Check.fault("never if 1 >= 2;", 1, 11);
        Check.fault("never if 1 <> 2;", 1, 12);
        Check.fault("never if 1 / 2 == 3;", 1, 11);
        Check.fault("never if 1 += 2;", 1, 12);
    }

    private static void syntax() {
        Check.promise(4, "1 SYNTAX: a TOKEN, or what is none, with which no text goes on");
        Check.fault("if", 1, 0);
        Check.fault(";", 1, 0);
        Check.fault("5", 1, 0);
        Check.fault("live", 1, 0);
        Check.fault("wish if", 1, 5);
        Check.fault("wish (5) if live;", 1, 5);
        Check.fault("wish title if live;", 1, 5);
        Check.fault("wish 5 live;", 1, 7);
        Check.fault("wish 5 5", 1, 7);
        Check.fault("wish 5 if ;", 1, 10);
        Check.fault("wish 5 if if", 1, 10);
        Check.fault("wish 5 if and", 1, 10);
        Check.fault("wish 5 if live first;", 1, 15);
        Check.fault("wish 5 if live if", 1, 15);
        Check.fault("wish 5 if live wish", 1, 15);
        Check.fault("wish 5 if live and;", 1, 18);
        Check.fault("wish 5 if live or;", 1, 17);
        Check.fault("wish 5 if live or or live;", 1, 18);
        Check.fault("wish 5 if live + 1;", 1, 15);
        Check.fault("wish 5 if live == 1;", 1, 15);
        Check.fault("wish 5 if first <= 1;", 1, 16);
        Check.fault("wish 5 if (live);", 1, 11);
        Check.fault("wish 5 if 1;", 1, 11);
        Check.fault("wish 5 if title;", 1, 15);
        Check.fault("wish 5 if 1 and live;", 1, 12);
        Check.fault("wish 5 if 1 + live;", 1, 14);
        Check.fault("wish 5 if 1 == live;", 1, 15);
        Check.fault("wish 5 if 1 == first;", 1, 15);
        Check.fault("wish 5 if 1 == ;", 1, 15);
        Check.fault("wish 5 if 1 == 2 == 3;", 1, 17);
        Check.fault("wish 5 if 1 == 2 < 3;", 1, 17);
        Check.fault("wish 5 if 1 == 2 3;", 1, 17);
        Check.fault("wish 5 if 1 == 2 live;", 1, 17);
        Check.fault("wish 5 if 1 == 2 + 3 == 5;", 1, 21);
        Check.fault("wish 5 if (1 == 2);", 1, 13);
        Check.fault("wish 5 if 1 == (2 == 3);", 1, 18);
        Check.fault("wish 5 if (1;", 1, 12);
        Check.fault("wish 5 if 1) == 2;", 1, 11);
        Check.fault("wish 5 if (1)) == 2;", 1, 13);
        Check.fault("wish 5 if () == 2;", 1, 11);
        Check.fault("wish 5 if (1)(2) == 2;", 1, 13);
        Check.fault("wish 5 if 1(2) == 2;", 1, 11);
        Check.fault("wish 5 if - 1 == 2;", 1, 10);
        Check.fault("wish 5 if 1 + + 1 == 2;", 1, 14);
        Check.fault("wish 5 if 1 * - 1 == 2;", 1, 14);
        Check.fault("wish 5 if 1 == (2;", 1, 17);
        Check.fault("wish 5 if 1 == (2 and live);", 1, 18);
        Check.fault("wish 5 if 1 == 2) ;", 1, 16);
        Check.fault("wish 5 if live and 1 == 2 and 3;", 1, 31);
        Check.fault("never 5 if live;", 1, 6);
        Check.fault("never live;", 1, 6);
        Check.fault("never if live;;", 1, 14);
        Check.fault("never if live; live", 1, 15);
        Check.fault("never if live; or live;", 1, 15);
        Check.fault("never if not live;", 1, 9);
        Check.fault("never if (1 + 2) * 3 - 4 == (5) and live or first and 1 != 2;", 0, -1);
        Check.fault("never if 1 == 2 and live and 1 < 2 or first or 3 <= 4 and first;", 0, -1);
    }

    private static void textsEnd() {
        Check.promise(4, "the text's end: its length");
        String whole = "wish 5 if ( title + 1 ) * 2 == 3 and live or first < ";
        Check.fault(whole, 1, whole.indexOf("<"));
        String[] parts = {"wish", "5", "if", "(", "title", "+", "1", ")", "*", "2", "==", "3", "and", "live", "or", "first"};
        String text = "";
        for (String part : parts) {
            text = text + part;
            Check.fault(text, 1, text.length());
            text = text + " ";
            Check.fault(text, 1, text.length());
            Check.fault(text + "\n\t ", 1, text.length() + 3);
            Check.fault("never if live;" + text, 1, text.length() + 14);
        }
        Check.fault(text + ";", 0, -1);
        Check.fault("never", 1, 5);
        Check.fault("never if 1 <", 1, 12);
        // What is no token is told at its first byte, also at the end.
        Check.fault("never if 1 =", 1, 11);
        Check.fault("never if 1 !", 1, 11);
        Check.fault("never if li", 1, 9);
        Check.fault("wish 12345", 1, 5);
    }

    private static void roomForTokens() {
        Check.promise(4, "2 ROOM: a 401st TOKEN");
        // 3 + 2 * 198 + 1 = 400 tokens
        String most = "never if live" + " or live".repeat(198) + ";";
        String text = most.replaceFirst("live or live;$", "live or 1==1;");
        int at = most.length();
        Check.fault(most, 0, -1);
        Check.fault(most + " ", 0, -1);
        Check.fault(most + " never if live;", 2, at + 1);
        Check.fault(most + "never", 2, at);
        Check.fault(most + " wish 5", 2, at + 1);
        Check.fault(text, 2, text.length() - 2);
        String open = most.substring(0, most.length() - 1);
        Check.fault(open + " or live;", 2, open.length() + 4);
        Check.fault(open + " or (1) == 1;", 2, open.length() + 4);
        Check.fault(open + " or 1 == 1;", 2, open.length() + 4);
        // 3 + 2 * 197 + 2 + 1 = 400 tokens
        String sum = "never if 1" + "+1".repeat(197) + "<2;";
        Check.fault(sum, 0, -1);
        Check.fault(sum + "never", 2, sum.length());
        Check.fault("never if 1" + "+1".repeat(198) + "<2;", 2, 10 + 2 * 198 + 1);
        Check.fault("wish 9 if 1" + "+1".repeat(197) + "<2;", 2, 11 + 2 * 197 + 2);
        Check.promise(4, "of one place the least");
        Check.fault(most + " live", 1, at + 1);
        Check.fault(most + " =", 1, at + 1);
        Check.fault(most + " wishwishwish", 1, at + 1);
        Check.fault(most + ";", 1, at);
        Check.fault(open, 1, open.length());
        Check.fault(open + " or or", 1, open.length() + 4);
        Check.fault(open + " or ", 1, open.length() + 4);
        Check.fault(open + " or 12345", 1, open.length() + 4);
    }

    private static void roomForRules() {
        Check.promise(4, "2 ROOM: .. a 21st RULE (at its first TOKEN)");
        String most = "never if live;".repeat(20);
        Check.fault(most, 0, -1);
        Check.fault(most + "\n", 0, -1);
        Check.fault(most + "  never if live;", 2, most.length() + 2);
        Check.fault(most + "wish", 2, most.length());
        Check.fault(most + "wish 0 if live;", 2, most.length());
        Check.fault(most + "never never", 2, most.length());
        Check.promise(4, "of one place the least");
        Check.fault(most + "live", 1, most.length());
        Check.fault(most + "12345", 1, most.length());
        Check.fault(most + "#", 1, most.length());
        Check.promise(4, "2 ROOM: .. a 21st RULE (at its first TOKEN)");
        GuideDesk desk = new GuideDesk();
        Check.read(desk, "wish 3 if live;".repeat(20));
        Check.due("twenty rules", 20, desk.count(3));
        Check.due("one too many", 2, Check.read(desk, "never if live;".repeat(21)));
        Check.due("the twenty stay", 20, desk.count(3));
    }

    private static void roomForOpen() {
        Check.promise(4, "2 ROOM: .. a 7th ( within one another (at it)");
        Check.fault("never if ((((((1)))))) == 1;", 0, -1);
        Check.fault("never if (((((((1))))))) == 1;", 2, 15);
        Check.fault("never if 1 == (((((( (1", 2, 21);
        Check.fault("never if ((((((1)))))) == ((((((1))))));", 0, -1);
        Check.fault("never if ((((((1)))))) == (((((((1))))));", 2, 32);
        Check.fault("never if ((((((1)+(2))))) + (1)) == 1;", 0, -1);
        Check.fault("never if ((((((1)*((2))))))) == 1;", 2, 19);
        Check.fault("never if 1+(1+(1+(1+(1+(1+(1+(1", 2, 29);
        Check.fault("never if " + "(1)+".repeat(50) + "1 == 1;", 0, -1);
        Check.fault("never if ((((((1)))))) == 1 and ((((((1)))))) < 2; never if ((((((1)))))) == 1;", 0, -1);
        Check.promise(4, "of one place the least");
        Check.fault("never if (((((( 1 (", 1, 18);
        Check.fault("never if ((((((live", 1, 15);
        Check.fault("never if ((((((", 1, 15);
        Check.fault("never if (((((( ", 1, 16);
    }

    private static void allRoomTaken() {
        Check.promise(4, "2 ROOM: a 401st TOKEN; a 21st RULE ..; a 7th ( within one another");
        // Twenty tokens a rule, twenty rules.
        String rule = "wish 9 if((((((1))))))<1;";
        String text = rule.repeat(20);
        Check.fault(text, 0, -1);
        Check.fault(text + "never", 2, text.length());
        Check.fault(text + "if", 1, text.length());
        GuideDesk desk = new GuideDesk();
        desk.source(1);
        desk.notice(0, 0, 0, 5, 1, 1, false);
        Check.read(desk, rule.repeat(19) + "wish 8 if((((((1))))))<2;");
        Check.due("rules", 20, desk.count(3));
        Check.due("the last but one", 0, desk.holds(18, 0, 1));
        Check.due("the last", 1, desk.holds(19, 0, 1));
        Check.due("its weight", 8, desk.showing(0, 1, 6));
    }

    private static void wrongAmounts() {
        Check.promise(4, "5 WRONG: at the INT behind wish: 0, or above 1000");
        Check.fault("wish 0 if live;", 5, 5);
        Check.fault("wish 0000 if live;", 5, 5);
        Check.fault("wish 1 if live;", 0, -1);
        Check.fault("wish 0001 if live;", 0, -1);
        Check.fault("wish 999 if live;", 0, -1);
        Check.fault("wish 1000 if live;", 0, -1);
        Check.fault("wish 1001 if live;", 5, 5);
        Check.fault("wish 9999 if live;", 5, 5);
        Check.fault("  wish\n\n1001 if live;", 5, 8);
        Check.fault("wish 1 if live; wish 0 if live; wish 1001 if live;", 5, 21);
        Check.fault("wish 1 if live; wish 1001 if live; wish 0 if live;", 5, 21);
        Check.fault("never if live; wish 0 if live;", 5, 20);
        // Any other int may be so.
        Check.fault("wish 1 if 0 == 1001;", 0, -1);
        Check.fault("never if 0 == 1001;", 0, -1);
    }

    private static void wrongOnlyWithoutOthers() {
        Check.promise(4, "If there is none, likewise: 5 WRONG");
        Check.fault("wish 0 if live", 1, 14);
        Check.fault("wish 0", 1, 6);
        Check.fault("wish 1001 x", 1, 10);
        Check.fault("wish 0 if live; x", 1, 16);
        Check.fault("wish 0 if (((((((1", 2, 16);
        String rules = "wish 0 if live;".repeat(20);
        Check.fault(rules, 5, 5);
        Check.fault(rules + "wish 0 if live;", 2, rules.length());
        Check.fault("wish 1001 if live" + " or live".repeat(198) + ";", 2, 17 + 8 * 198);
    }

    private static void firstByPlace() {
        Check.promise(4, "FAULTS, the first by its place");
        Check.fault("never if (((((((1 x", 2, 15);
        Check.fault("never if x (((((((1", 1, 9);
        Check.fault("x y z", 1, 0);
        String rules = "never if live;".repeat(20);
        Check.fault(rules + "never if (((((((1", 2, rules.length());
        Check.fault(rules + "x" + "never if live;", 1, rules.length());
        Check.fault("never if (((((((1" + "+1".repeat(400), 2, 15);
        Check.fault("never if 1" + "+1".repeat(400) + "x", 2, 10 + 397);
    }

    private static void faultsChangeNothing() {
        Check.promise(4, "A text with a FAULT changes nothing; else it is in place of the one ahead");
        String[] faulty = {"x", "wish 9 if first", "wish 9 if first; wish", "wish 9 if first; wish 0 if live;",
            "wish 9 if first;".repeat(21), "wish 9 if first; never if (((((((1",
            "wish 9 if first" + " or first".repeat(198) + ";"};
        for (String text : faulty) {
            GuideDesk desk = new GuideDesk();
            desk.source(1);
            desk.notice(0, 0, 0, 5, 1, 1, true);
            Check.read(desk, "never if title == 2; wish 3 if live;");
            desk.plan(1);
            Check.due("a fault", true, Check.read(desk, text) != 0);
            Check.due("rules", 2, desk.count(3));
            Check.due("rule 0", 0, desk.holds(0, 0, 1));
            Check.due("rule 1", 1, desk.holds(1, 0, 1));
            Check.due("the weight", 3, desk.showing(0, 1, 6));
            Check.due("the plan at hand", 1, desk.count(6));
            Check.due("the next plan", 3, desk.plan(1));
            Check.due("a good text", 0, Check.read(desk, "wish 4 if live;"));
            Check.due("its rules", 1, desk.count(3));
            Check.due("its weight", 4, desk.showing(0, 1, 6));
            Check.due("no rule 1", -1, desk.holds(1, 0, 1));
        }
    }

    /** What a faulty text left behind does not matter to the next one. */
    private static void readsAnew() {
        Check.promise(4, "A text with a FAULT changes nothing");
        String[] faulty = {"wish", "wish 0 if live;", "wish 5 if", "wish 5 if (((1 + 2 * 3", "wish 5 if 1 == 2 + ",
            "wish 5 if live and 1 == 2 or 1 < ", "never if live" + " or live".repeat(199) + ";",
            "never if live;".repeat(21), "never if (((((((1", "wish 5 if 1 ==", "wish 5 if 1 == 1 and live x"};
        for (String text : faulty) {
            GuideDesk desk = new GuideDesk();
            desk.source(1);
            desk.notice(0, 0, 0, 5, 1, 1, false);
            Check.due("a fault", true, Check.read(desk, text) != 0);
            Check.due("a read after it", 0, Check.read(desk, "never if live" + " or live".repeat(198) + ";"));
            Check.due("its place", -1, desk.place());
            Check.due("a fault", true, Check.read(desk, text) != 0);
            Check.due("a read after it", 0, Check.read(desk, "wish 7 if ((((((1)))))) + 1 == 2; wish 8 if live;"));
            Check.due("its weight", 7, desk.showing(0, 1, 6));
            Check.due("its first rule", 1, desk.holds(0, 0, 1));
            Check.due("its second rule", 0, desk.holds(1, 0, 1));
            Check.due("a wrong operand", 1, Check.read(desk, "never if 1;"));
            Check.due("the wrong operand's place", 10, desk.place());
        }
    }
}
