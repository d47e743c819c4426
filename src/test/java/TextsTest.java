/** Promises 1 to 6: a new object, the TAPE, texts and their first wrong byte. */
public final class TextsTest {
    public static void main(String[] args) {
        newObject();
        feed();
        end();
        town();
        townFaults();
        townBounds();
        townRoom();
        townStaysWhole();
        lease();
        leaseFaults();
        leaseDepth();
        fault();
        Due.close();
    }

    private static void newObject() {
        PlateTown x = new PlateTown();
        for (int what = 0; what <= 9; what++) {
            Due.is("new count " + what, 0, x.count(what));
        }
        Due.is("NONE", -1, PlateTown.NONE);
        Due.is("new angle 0", 0, x.angle(0));
        Due.is("new angle 1", 3, x.angle(1));
        Due.is("new stop", 99, x.stop());
        Due.is("new houses", 0, x.houses(0, 0) + x.houses(0, 1) + x.houses(0, 2));
        Due.is("new level", -4, x.level(0, 0));
        Due.is("new rope", 0, x.rope(5, 0));
        Due.is("new fault", -1, x.fault());
        Due.is("SEA 48, up to a DIRECTION's end", -4, Due.town("start 6").level(4, 0));
        Due.is("SEA 48, beyond it", -8, Due.town("start 7").level(8, 0));
        Due.is("GUSTS 72, up to a DIRECTION's end", 0b01, Due.town("start 6;house 1 1;house 2 1").houses(0, 1));
        Due.is("GUSTS 72, beyond it", 0b11, Due.town("start 7;house 1 1;house 2 1").houses(0, 1));
        Due.is("new undo", -1, x.undo());
        Due.is("new back", false, x.back());
        Due.is("new end 0", true, x.end(0));
        Due.is("new end 1", false, x.end(1));
    }

    private static void feed() {
        PlateTown x = new PlateTown();
        // "rate" "  00" "9   " and blanks: the highest byte of each number comes first
        Due.is("feed", 20, x.feed(0x72617465, 0x20203030, 0x39202020, 0x20202020, 0x20202020));
        Due.is("town of a fed text", 1, x.town());
        Due.is("rate as fed", 9, x.angle(1));
        for (int i = 1; i <= 20; i++) {
            Due.is("feed " + i, 20 * i, x.feed(0, 0, 0, 0, 0));
        }
        Due.is("feed beyond 400", -1, x.feed(0x20202020, 0, 0, 0, 0));
        Due.is("400 bytes", true, x.end(400));
        Due.is("end 381", true, x.end(381));
        Due.is("feed to 401", -1, x.feed(0, 0, 0, 0, 0));
        Due.is("end 380", true, x.end(380));
        Due.is("feed to 400", 400, x.feed(0, 0, 0, 0, 0));
        Due.illegal("town of zero bytes", x::town);
        Due.is("bytes of value 0 are no blanks", 0, x.fault());
        x.feed(0x20202020, 0x2020E920, 0, 0, 0);
        x.end(8);
        Due.illegal("town with a byte above 127", x::town);
        Due.is("fault at byte 233", 6, x.fault());
        x.feed(-1, -1, -1, -1, -1);
        Due.illegal("town of bytes 255", x::town);
        Due.is("fault at byte 255", 0, x.fault());
    }

    private static void end() {
        PlateTown x = new PlateTown();
        Due.type(x, "rate 12");
        Due.is("end -1", false, x.end(-1));
        Due.is("end 8", false, x.end(8));
        Due.is("end MIN", false, x.end(Integer.MIN_VALUE));
        Due.is("end MAX", false, x.end(Integer.MAX_VALUE));
        Due.is("end 7", true, x.end(7));
        Due.is("end 6", true, x.end(6));
        Due.is("feed behind the end", 26, x.feed(0x20202020, 0x20202020, 0x20202020, 0x20202020, 0x20202020));
        Due.is("town", 1, x.town());
        Due.is("rate 1", 1, x.angle(1));
        Due.is("the TAPE is used up", false, x.end(1));
        Due.is("end 0 of an empty one", true, x.end(0));
        Due.type(x, "rate 7");
        x.end(0);
        Due.is("an empty text", 2, x.town());
        Due.is("rate stays", 1, x.angle(1));
    }

    private static void town() {
        PlateTown x = new PlateTown();
        Due.is("blanks alone", 1, Due.tell(x, "   "));
        Due.is("town", 2, Due.tell(x, " house 5 7;house 80 30 ; window 1 7 29;window 0 0 0;window 1 3 4 "));
        Due.is("houses", 2, x.count(0));
        Due.is("windows", 3, x.count(1));
        Due.is("cell of 1", 80, x.look(1, 0));
        Due.is("height of 1", 30, x.look(1, 1));
        Due.is("windows of 1", 2, x.look(1, 2));
        Due.is("windows of 0", 1, x.look(0, 2));
        Due.is("one behind another", 3, Due.tell(x, "start 95;rate 20;house 0 1"));
        Due.is("start", 95, x.angle(0));
        Due.is("rate and START go round", 19, x.angle(1));
        Due.is("no blanks", 4, Due.tell(x, "start0;rate1;calm0 0 1;wind2 98 20;bar95"));
        Due.is("calm", 0, x.angle(1));
        Due.is("rate", 1, x.angle(2));
        Due.is("wind", 22, x.angle(3));
        Due.is("bar", 95, x.angle(99));
        Due.is("wind tells anew", 5, Due.tell(x, "wind 0 0 4"));
        Due.is("wind is not added", 5, x.angle(1));
        Due.is("numbers with noughts ahead", 6, Due.tell(x, "start 007;rate 00"));
        Due.is("start 7", 7, x.angle(0));
    }

    private static void townFaults() {
        PlateTown x = new PlateTown();
        Due.wrongTown(x, "house 81 5", 6);
        Due.wrongTown(x, "house 5 31", 8);
        Due.wrongTown(x, "house 5 0", 8);
        Due.wrongTown(x, "house 5", 7);
        Due.wrongTown(x, "house 5  ", 9);
        Due.wrongTown(x, "house", 5);
        Due.wrongTown(x, "house x 5", 6);
        Due.wrongTown(x, "house 5 5;house 5 6", 16);
        Due.wrongTown(x, "house 5 5 5", 10);
        Due.wrongTown(x, "house 55", 8);
        Due.wrongTown(x, "houses 5 5", 0);
        Due.wrongTown(x, "House 5 5", 0);
        Due.wrongTown(x, "hous 5 5", 0);
        Due.wrongTown(x, "pay 5", 0);
        Due.wrongTown(x, "5 house", 0);
        Due.wrongTown(x, "ratez 1", 0);
        Due.wrongTown(x, "arate 1", 0);
        Due.wrongTown(x, "rate house", 5);
        Due.wrongTown(x, "house 5 5;window", 16);
        Due.wrongTown(x, "house 5 5;window 0", 18);
        Due.wrongTown(x, "house 5 5;window 0 0", 20);
        for (String word : new String[] {"house", "window", "start", "rate", "bar", "sea", "gusts", "wind", "calm"}) {
            Due.wrongTown(x, word, word.length());
            Due.wrongTown(x, word + ";", word.length());
        }
        Due.wrongTown(x, "wind 5", 6);
        Due.wrongTown(x, "calm 5 6", 8);
        Due.wrongTown(x, "calm 5 6;", 8);
        Due.wrongTown(x, "window 0 0 0", 7);
        Due.wrongTown(x, "window 0 0 0;house 5 5", 7);
        Due.wrongTown(x, "house 5 5;window 1 0 0", 17);
        Due.wrongTown(x, "house 5 5;window 0 8 0", 19);
        Due.wrongTown(x, "house 5 5;window 0 7 30", 21);
        Due.wrongTown(x, "start 96", 6);
        Due.wrongTown(x, "bar 96", 4);
        Due.wrongTown(x, "sea 96", 4);
        Due.wrongTown(x, "gusts 96", 6);
        Due.wrongTown(x, "rate 21", 5);
        Due.wrongTown(x, "rate -1", 5);
        Due.wrongTown(x, "rate 0001", 5);
        Due.wrongTown(x, "rate 99999999999999999999", 5);
        Due.wrongTown(x, "rate 1 2", 7);
        Due.wrongTown(x, "rate 1x", 6);
        Due.wrongTown(x, "wind 5 4 1", 7);
        Due.wrongTown(x, "wind 100 100 1", 5);
        Due.wrongTown(x, "calm 0 100 1", 7);
        Due.wrongTown(x, "wind 0 99 21", 10);
        Due.wrongTown(x, "calm 0 99 21", 10);
        Due.wrongTown(x, "wind 0 99", 9);
        Due.wrongTown(x, ";", 0);
        Due.wrongTown(x, " ;", 1);
        Due.wrongTown(x, "rate 1;", 7);
        Due.wrongTown(x, "rate 1;  ", 9);
        Due.wrongTown(x, "rate 1;;rate 2", 7);
        Due.wrongTown(x, "rate 1,rate 2", 6);
        Due.wrongTown(x, "rate\t1", 4);
        Due.is("no text was right", 0, x.count(3));
    }

    private static void townBounds() {
        PlateTown x = new PlateTown();
        Due.is("all at their bounds", 1, Due.tell(x, "house 80 30;house 0 1;window 1 7 29;window 0 0 0;start 95;rate 20;"
                + "bar 95;sea 95;gusts 95;wind 0 99 20;calm 99 99 20;calm 0 0 0"));
        Due.is("windows", 2, x.count(1));
    }

    private static void townRoom() {
        PlateTown x = new PlateTown();
        String ten = "house 0 1;house 1 1;house 2 1;house 3 1;house 4 1;house 5 1;house 6 1;house 7 1;house 8 1;house 9 1";
        Due.wrongTown(x, ten + "; house 10 1", ten.length() + 2);
        Due.is("of a wrong text nothing stays", 0, x.count(0));
        Due.tell(x, ten);
        Due.is("ten houses", 10, x.count(0));
        Due.wrongTown(x, "rate 1; house 11 1", 8);
        Due.wrongTown(x, "house", 0);
        String window = "window 9 0 0";
        String twelve = window + (";" + window).repeat(11);
        Due.tell(x, twelve);
        Due.wrongTown(x, twelve, 8 * (window.length() + 1));
        Due.is("windows stay", 12, x.count(1));
        Due.tell(x, window + (";" + window).repeat(7));
        Due.is("twenty windows", 20, x.count(1));
        Due.wrongTown(x, " window 0 0 0", 1);
        String rates = "rate 1" + ";rate 2".repeat(11);
        Due.is("twelve lines", 4, Due.tell(x, rates));
        Due.wrongTown(x, rates + " ; rate 3", rates.length() + 3);
        Due.wrongTown(x, rates + ";", rates.length() + 1);
        Due.wrongTown(x, rates + ";9", rates.length() + 1);
        for (int i = 5; i <= 12; i++) {
            Due.is("text " + i, i, Due.tell(x, i == 12 ? "rate 7" : ""));
        }
        Due.wrongTown(x, "rate 99", 5);
        Due.type(x, "rate 3");
        Due.full("a 13th text", x::town);
        Due.is("the 13th text was right", -1, x.fault());
        Due.is("texts", 12, x.count(3));
        Due.is("rate of the 12th", 7, x.angle(1));
        Due.is("the TAPE is used up", false, x.end(1));
    }

    private static void townStaysWhole() {
        PlateTown x = Due.town("house 40 5;rate 2");
        Due.wrongTown(x, "house 41 5;window 0 0 0;start 5;rate 9;bar 4;sea 0;gusts 0;wind 0 99 9;x", 71);
        Due.is("houses", 1, x.count(0));
        Due.is("windows", 0, x.count(1));
        Due.is("texts", 1, x.count(3));
        Due.is("start", 0, x.angle(0));
        Due.is("rate, bar and wind", 6, x.angle(3));
        Due.is("sea", -4, x.level(0, 0));
        Due.outside("family of a house that did not stay", () -> x.wants(1, 0, 0));
    }

    private static void lease() {
        PlateTown x = new PlateTown();
        Due.is("an empty lease", 0, Due.lease(x, ""));
        Due.is("lease", 1, Due.lease(x, "pay 999*year if 0<999;less 0;void if not noon;void"));
        Due.is("blanks", 2, Due.lease(x, "  pay  1  *  light  if  (  noon  or  frost  and  windy  )  "));
        Due.is("no blanks", 3, Due.lease(x, "pay1*turn if(level+height+3<year+light)or not(noon)and windy"));
        Due.is("fault of a right one", -1, x.fault());
        String voids = "void" + ";void".repeat(11);
        Due.wrongLease(x, voids + ";void", voids.length() + 1);
        Due.is("twelve lines", 4, Due.lease(x, voids));
        Due.is("leases", 5, x.count(2));
        Due.is("the 6th", 5, Due.lease(x, "pay 1"));
        Due.wrongLease(x, "pay", 3);
        Due.type(x, "pay 1");
        Due.full("a 7th lease", x::lease);
        Due.is("fault of the 7th", -1, x.fault());
        Due.is("leases at last", 6, x.count(2));
        Due.is("the TAPE is used up", false, x.end(1));
    }

    private static void leaseFaults() {
        PlateTown x = new PlateTown();
        Due.wrongLease(x, "pays 1", 0);
        Due.wrongLease(x, "house 5 5", 0);
        Due.wrongLease(x, "if noon", 0);
        Due.wrongLease(x, "pay", 3);
        Due.wrongLease(x, "pay light", 4);
        Due.wrongLease(x, "pay * light", 4);
        Due.wrongLease(x, "pay 1000", 4);
        Due.wrongLease(x, "less 1000", 5);
        Due.wrongLease(x, "pay 1 *", 7);
        Due.wrongLease(x, "pay 1*3", 6);
        Due.wrongLease(x, "pay 1*noon", 6);
        Due.wrongLease(x, "pay 1*light light", 12);
        Due.wrongLease(x, "pay 1*light*2", 11);
        Due.wrongLease(x, "pay 1 + 1", 6);
        Due.wrongLease(x, "pay 1 if", 8);
        Due.wrongLease(x, "pay 1 if light", 14);
        Due.wrongLease(x, "pay 1 if light and noon", 15);
        Due.wrongLease(x, "pay 1 if noon noon", 14);
        Due.wrongLease(x, "pay 1 if noon and", 17);
        Due.wrongLease(x, "pay 1 if noon or;", 16);
        Due.wrongLease(x, "pay 1 if 2*light<3", 10);
        Due.wrongLease(x, "pay 1 if (light)<3", 15);
        Due.wrongLease(x, "pay 1 if 1<2<3", 12);
        Due.wrongLease(x, "pay 1 if 1<", 11);
        Due.wrongLease(x, "pay 1 if 1=1", 10);
        Due.wrongLease(x, "pay 1 if 1+<1", 11);
        Due.wrongLease(x, "pay 1 if 1000<1", 9);
        Due.wrongLease(x, "pay 1 if noon)", 13);
        Due.wrongLease(x, "pay 1 if (noon", 14);
        Due.wrongLease(x, "pay 1 if ()", 10);
        Due.wrongLease(x, "pay 1 if nooon", 9);
        Due.wrongLease(x, "pay 1 ifnoon", 6);
        Due.wrongLease(x, "pay 1 if noon+1<2", 13);
        Due.wrongLease(x, "void noon", 5);
        Due.wrongLease(x, "void 1", 5);
        Due.wrongLease(x, "void;", 5);
        Due.wrongLease(x, "void if noon<2", 12);
        Due.wrongLease(x, "void if", 7);
        Due.wrongLease(x, "void if not", 11);
        Due.wrongLease(x, "void if not;", 11);
        Due.wrongLease(x, "void if (", 9);
        Due.wrongLease(x, "void if go", 8);
        Due.wrongLease(x, "void if level", 13);
        Due.wrongLease(x, "void if level+", 14);
        Due.wrongLease(x, "void if 1<noon", 10);
        Due.wrongLease(x, "pay house", 4);
        Due.wrongLease(x, "void if house<1", 8);
        Due.wrongLease(x, "less", 4);
        Due.is("no lease was right", 0, x.count(2));
    }

    private static void leaseDepth() {
        PlateTown x = new PlateTown();
        Due.is("six (", 0, Due.lease(x, "void if ((((((noon))))))"));
        Due.wrongLease(x, "void if (((((((noon)))))))", 14);
        Due.is("six not", 1, Due.lease(x, "void if not not not not not not noon"));
        Due.wrongLease(x, "void if not not not not not not not noon", 32);
        Due.is("six of both", 2, Due.lease(x, "void if not(not(not(noon)))"));
        Due.wrongLease(x, "void if not(not(not(not noon)))", 20);
        Due.wrongLease(x, "void if not(not(not((noon))))", 20);
        Due.is("one behind another", 3,
                Due.lease(x, "void if ((((((noon)))))) and ((((((noon)))))) or not(((((noon)))))"));
        Due.is("not ends with its atom", 4,
                Due.lease(x, "void if not noon and not noon and not noon and not noon or not noon or not noon or not noon"));
    }

    private static void fault() {
        PlateTown x = new PlateTown();
        Due.wrongTown(x, "rate 1;house 99 1", 13);
        Due.is("fault stays", 13, x.fault());
        Due.lease(x, "void");
        Due.is("fault of the latest text", -1, x.fault());
        Due.wrongLease(x, "void;pay", 8);
        Due.is("walk", 40, Due.walk(x, "", 40, 0));
        Due.is("fault of a walk", -1, x.fault());
        Due.wrongWalk(x, "go 1 up", 5);
        x.image();
        Due.tell(x, "rate 1");
        Due.is("back", true, x.back());
        Due.is("fault is not in THE IMAGE", -1, x.fault());
        Due.wrongTown(x, "rate", 4);
    }
}
