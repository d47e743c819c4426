/** The edges that the Terms and promise 5 name for texts of LEASES. */
public final class EdgeLeaseTextTest {
    private static final String[] FACTS = {"year", "light", "height", "turn", "level"};
    private static final String TWELVE_LINES = "pay 1" + ";pay 1".repeat(11);

    public static void main(String[] args) {
        room();
        lines();
        amounts();
        conditions();
        sums();
        depth();
        wrongBytes();
        Due.close();
    }

    /** In a town of one HOUSE, HEIGHT 5, NOON and no FROST, WINDY, by ANGLE 0. */
    private static PlateTown town() {
        return Due.town("rate 0;house 40 5;window 0 4 0");
    }

    private static int rent(String text) {
        PlateTown x = town();
        return x.rent(Due.lease(x, text), 0, 3);
    }

    private static void right(String text) {
        PlateTown x = town();
        Due.is("lease '" + text + "'", 0, Due.lease(x, text));
        Due.is("fault of lease '" + text + "'", -1, x.fault());
    }

    private static void wrong(String text, int fault) {
        Due.wrongLease(town(), text, fault);
    }

    // ---- promise 5 ----

    private static void room() {
        Due.edge("LEASES: at most 6, numbered from 0 on", EdgeLeaseTextTest::sixLeases);
        Due.edge("lease: UnsupportedOperationException: there are 6", EdgeLeaseTextTest::seventhLease);
        Due.edge("lease: IllegalArgumentException ahead of it: the text is wrong", EdgeLeaseTextTest::wrongSeventh);
        Due.edge("lease: uses the TAPE up", EdgeLeaseTextTest::usesTape);
        Due.edge("Of a wrong text nothing stays: the next LEASE has its number", EdgeLeaseTextTest::nothingStays);
    }

    private static void sixLeases() {
        PlateTown x = town();
        for (int i = 0; i < 6; i++) {
            Due.is("count ahead of " + i, i, x.count(2));
            Due.is("lease " + i, i, Due.lease(x, "pay " + (10 + i)));
        }
        Due.is("count", 6, x.count(2));
        for (int i = 0; i < 6; i++) {
            Due.is("rent by " + i, 10 + i, x.rent(i, 0, 0));
        }
    }

    private static PlateTown townOfSix() {
        PlateTown x = town();
        for (int i = 0; i < 6; i++) {
            Due.lease(x, "pay " + i);
        }
        return x;
    }

    private static void seventhLease() {
        PlateTown x = townOfSix();
        Due.keeps(x, "a 7th lease", () -> {
            Due.type(x, "pay 9");
            Due.full("a 7th lease", x::lease);
        });
        Due.full("an empty 7th lease", x::lease);
        Due.outside("rent by a 7th", () -> x.rent(6, 0, 0));
        Due.is("rent by the 6th", 5, x.rent(5, 0, 0));
    }

    private static void wrongSeventh() {
        PlateTown x = townOfSix();
        Due.keeps(x, "a wrong 7th", () -> Due.wrongLease(x, "pay", 3));
    }

    private static void usesTape() {
        PlateTown x = townOfSix();
        Due.is("behind a lease", false, x.end(1));
        Due.type(x, "pay 9");
        Due.full("a 7th lease", x::lease);
        Due.is("behind a full one", false, x.end(1));
        Due.wrongLease(x, "pay", 3);
        Due.is("behind a wrong one", false, x.end(1));
    }

    private static void nothingStays() {
        PlateTown x = town();
        Due.keeps(x, "wrong leases", () -> {
            Due.wrongLease(x, "pay 7;void;x", 11);
            Due.wrongLease(x, "pay 1;", 6);
        });
        Due.is("the first", 0, Due.lease(x, "pay 5"));
        Due.is("rent", 5, x.rent(0, 0, 0));
        Due.wrongLease(x, "void;x", 5);
        Due.is("rent by the first as it was", 5, x.rent(0, 0, 0));
    }

    // ---- LINES ----

    private static void lines() {
        Due.edge("LEASES: LINE { ; LINE }, at most 12", EdgeLeaseTextTest::twelveLines);
        Due.edge("of a 13th LINE the first word", EdgeLeaseTextTest::thirteenthLine);
        Due.edge("A text that is empty, or blanks alone, has no LINE", () -> {
            Due.is("rent by an empty one", 0, rent(""));
            Due.is("rent by a blank", 0, rent(" "));
            Due.is("rent by 400 blanks", 0, rent(" ".repeat(400)));
        });
        Due.edge("a text of 400 bytes is read to its last byte", EdgeLeaseTextTest::longest);
        Due.edge("between all there may be blanks, also ahead and behind", EdgeLeaseTextTest::blanks);
        Due.edge("Words are as long as a to z go on", EdgeLeaseTextTest::wordEnds);
    }

    private static void twelveLines() {
        Due.is("twelve", 12, rent(TWELVE_LINES));
        Due.is("twelve of blanks", 12, rent("  " + TWELVE_LINES.replace(";", " ; ") + "  "));
        Due.is("eleven", 11, rent(TWELVE_LINES.substring(6)));
    }

    private static void thirteenthLine() {
        int length = TWELVE_LINES.length();
        wrong(TWELVE_LINES + ";pay 1", length + 1);
        wrong(TWELVE_LINES + " ; void", length + 3);
        wrong(TWELVE_LINES + ";pay 1000", length + 1);
        wrong(TWELVE_LINES + ";x", length + 1);
        wrong(TWELVE_LINES + ";", length + 1);
    }

    private static void longest() {
        String ones = "pay 1 if 1" + "+1".repeat(192) + "<194";
        Due.is("398 bytes", 398, ones.length());
        Due.is("193 is below 194", 1, rent(ones + "  "));
        wrong(ones + " x", 399);
        wrong("pay 1 if 1" + "+1".repeat(195), 400);
        String nots = "void if " + "not noon and ".repeat(30);
        Due.is("398 bytes of not", 398, nots.length());
        wrong(nots + " ", 399);
    }

    private static void blanks() {
        Due.is("many", 18, rent("   pay   3   *   light   if   (   noon   and   1   +   1   >   1   )  ;  less  9  "));
        Due.is("none", 18, rent("pay3*light if(noon and 1+1>1);less9"));
    }

    private static void wordEnds() {
        right("pay1if 1<2");
        right("pay 1*year if 1<2");
        wrong("pay 1*yearif 1<2", 6);
        wrong("pay 1 if notnoon", 9);
        wrong("pay 1 ifnoon", 6);
        wrong("pay 1 if noonand noon", 9);
        wrong("Pay 1", 0);
        wrong("pay 1 if Noon", 9);
        wrong("voidd", 0);
        wrong("voi", 0);
    }

    // ---- N ----

    private static void amounts() {
        Due.edge("N here: 0 to 999, of pay", () -> {
            Due.is("0", 0, rent("pay 0"));
            Due.is("999", 999, rent("pay 999"));
            Due.is("three digits", 7, rent("pay 007"));
            wrong("pay 1000", 4);
            wrong("pay 0000", 4);
        });
        Due.edge("N here: 0 to 999, of less", () -> {
            Due.is("0", 5, rent("pay 5;less 0"));
            Due.is("999", 0, rent("pay 999;less 999"));
            wrong("less 1000", 5);
            wrong("less 0001", 5);
        });
        Due.edge("N here: 0 to 999, of a PART", () -> {
            right("void if 0<999");
            wrong("void if 1000<1", 8);
            wrong("void if 1<1000", 10);
            wrong("void if 0000<1", 8);
        });
        Due.edge("pay N, less N: one N, and it must come", () -> {
            wrong("pay", 3);
            wrong("pay year", 4);
            wrong("pay if noon", 4);
            wrong("pay 1 1", 6);
            wrong("less ;", 5);
        });
        Due.edge("* FACT: one FACT, and no other word", EdgeLeaseTextTest::factors);
        Due.edge("void: no N and no FACT", () -> {
            wrong("void 1", 5);
            wrong("void*year", 4);
            wrong("void year", 5);
        });
    }

    private static void factors() {
        for (String fact : FACTS) {
            right("pay 1*" + fact);
            right("less 1*" + fact);
            wrong("pay 1*" + fact + "*" + fact, 6 + fact.length());
            wrong("pay 1*" + fact + "+1", 6 + fact.length());
            wrong("pay " + fact, 4);
        }
        for (String word : new String[] {"noon", "frost", "windy", "if", "not", "wind", "pay", "rate", "1", "(", "*", ";"}) {
            wrong("pay 1*" + word, 6);
            wrong("less 1*" + word, 7);
        }
        wrong("pay 1*", 6);
        wrong("pay*year", 3);
        wrong("pay 1+1", 5);
    }

    // ---- C, ALL, ATOM ----

    private static void conditions() {
        Due.edge("if C: it must come, of one if alone", () -> {
            wrong("pay 1 if", 8);
            wrong("pay 1 if;", 8);
            wrong("pay 1 if if noon", 9);
            wrong("pay 1 if noon if noon", 14);
            wrong("pay 1 noon", 6);
            wrong("if noon", 0);
        });
        Due.edge("{ or ALL }: none, one, more, and it must come", () -> {
            Due.is("none", 0, rent("pay 1 if frost"));
            Due.is("one", 1, rent("pay 1 if frost or noon"));
            Due.is("more", 1, rent("pay 1 if frost or frost or noon or frost"));
            wrong("pay 1 if noon or", 16);
            wrong("pay 1 if noon or or noon", 17);
            wrong("pay 1 if or noon", 9);
            wrong("pay 1 if noon or and noon", 17);
        });
        Due.edge("{ and ATOM }: none, one, more, and it must come", () -> {
            Due.is("one", 1, rent("pay 1 if noon and windy"));
            Due.is("more", 0, rent("pay 1 if noon and windy and frost and noon"));
            wrong("pay 1 if noon and", 17);
            wrong("pay 1 if noon and and noon", 18);
            wrong("pay 1 if and noon", 9);
            wrong("pay 1 if noon noon", 14);
            wrong("pay 1 if noon, noon", 13);
        });
        Due.edge("ALL binds ahead of or", () -> {
            Due.is("noon or frost and frost", 1, rent("pay 1 if noon or frost and frost"));
            Due.is("frost and frost or noon", 1, rent("pay 1 if frost and frost or noon"));
            Due.is("(noon or frost) and frost", 0, rent("pay 1 if (noon or frost) and frost"));
        });
        Due.edge("not ATOM: of the next ATOM alone", () -> {
            Due.is("not frost and noon", 1, rent("pay 1 if not frost and noon"));
            Due.is("not noon or noon", 1, rent("pay 1 if not noon or noon"));
            Due.is("not (noon or noon)", 0, rent("pay 1 if not (noon or noon)"));
            Due.is("not 1<2", 0, rent("pay 1 if not 1<2"));
            wrong("pay 1 if not", 12);
            wrong("pay 1 if not and noon", 13);
        });
        Due.edge("( C ): it must not be empty, and be closed once", () -> {
            wrong("pay 1 if ()", 10);
            wrong("pay 1 if (noon", 14);
            wrong("pay 1 if (noon;pay 1", 14);
            wrong("pay 1 if noon)", 13);
            wrong("pay 1 if (noon))", 15);
            wrong("pay 1 if (noon noon)", 15);
        });
        Due.edge("ATOM: no other word", () -> {
            for (String word : new String[] {"go", "wind", "window", "house", "north", "if", "pay", "void", "or", "x", "noo"}) {
                wrong("void if " + word, 8);
                wrong("void if not " + word, 12);
                wrong("void if noon and " + word, 17);
            }
        });
        Due.edge("noon, frost, windy: no SUM", () -> {
            for (String sight : new String[] {"noon", "frost", "windy"}) {
                right("void if " + sight);
                wrong("void if " + sight + "<1", 8 + sight.length());
                wrong("void if " + sight + "+1<1", 8 + sight.length());
                wrong("void if 1<" + sight, 10);
                wrong("void if 1+" + sight + "<1", 10);
            }
        });
    }

    // ---- SUM ----

    private static void sums() {
        Due.edge("SUM < SUM: below, not equal", () -> compare('<', 1, 0, 0));
        Due.edge("SUM > SUM: above, not equal", () -> compare('>', 0, 0, 1));
        Due.edge("SUM < SUM: both must come, and one sign alone", EdgeLeaseTextTest::comparisons);
        Due.edge("SUM: PART { + PART }: one, more, and it must come", EdgeLeaseTextTest::parts);
        Due.edge("PART: FACT: each of them, and no other word", () -> {
            for (String fact : FACTS) {
                right("void if " + fact + "<" + fact);
                right("void if 1+" + fact + ">" + fact + "+1");
            }
            wrong("void if wind<1", 8);
            wrong("void if x<1", 8);
            wrong("void if 1<x", 10);
        });
    }

    private static void compare(char sign, int below, int equal, int above) {
        Due.is("4 5", below, rent("pay 1 if 4" + sign + "5"));
        Due.is("5 5", equal, rent("pay 1 if 5" + sign + "5"));
        Due.is("6 5", above, rent("pay 1 if 6" + sign + "5"));
        Due.is("HEIGHT 5 and 4", above, rent("pay 1 if height" + sign + "4"));
        Due.is("HEIGHT 5 and 5", equal, rent("pay 1 if height" + sign + "5"));
        Due.is("HEIGHT 5 and 6", below, rent("pay 1 if height" + sign + "6"));
    }

    private static void comparisons() {
        wrong("void if 1", 9);
        wrong("void if 1;", 9);
        wrong("void if 1 and noon", 10);
        wrong("void if <1", 8);
        wrong("void if 1<", 10);
        wrong("void if 1<;", 10);
        wrong("void if 1<2<3", 11);
        wrong("void if 1>2<3", 11);
        wrong("void if 1<<2", 10);
        wrong("void if 1<>2", 10);
        wrong("void if 1=1", 9);
        wrong("void if (1)<2", 10);
        wrong("void if 1<(2)", 10);
    }

    private static void parts() {
        Due.is("one", 1, rent("pay 1 if 3<4"));
        Due.is("two", 1, rent("pay 1 if 2+3>4"));
        Due.is("four", 1, rent("pay 1 if 9<1+2+3+4"));
        Due.is("four, not below 10", 0, rent("pay 1 if 10<1+2+3+4"));
        wrong("void if 1+<2", 10);
        wrong("void if 1+", 10);
        wrong("void if +1<2", 8);
        wrong("void if 1++1<2", 10);
        wrong("void if 1 1<2", 10);
        wrong("void if 1-1<2", 9);
        wrong("void if 1*year<2", 9);
    }

    // ---- ( and not ----

    private static void depth() {
        Due.edge("( within one another at most 6 deep", () -> {
            Due.is("six", 1, rent("pay 1 if ((((((noon))))))"));
            wrong("pay 1 if (((((((noon)))))))", 15);
            wrong("pay 1 if (((((((", 15);
            wrong("pay 1 if ((((((", 15);
            wrong("pay 1 if ((((((((((((((((((((((((((((((((((((((((", 15);
        });
        Due.edge("not within one another at most 6 deep", () -> {
            Due.is("six", 1, rent("pay 1 if not not not not not not noon"));
            Due.is("five", 0, rent("pay 1 if not not not not not noon"));
            wrong("pay 1 if " + "not ".repeat(7) + "noon", 33);
            wrong("pay 1 if " + "not ".repeat(90) + "noon", 33);
        });
        Due.edge("( and not within one another at most 6 deep", () -> {
            Due.is("six", 0, rent("pay 1 if not(not(not(noon)))"));
            Due.is("six of the other order", 0, rent("pay 1 if (not(not(not noon)))"));
            wrong("pay 1 if not(not(not(not noon)))", 21);
            wrong("pay 1 if (not(not(not(noon))))", 21);
            wrong("pay 1 if not not not((((noon))))", 23);
        });
        Due.edge("6 deep: only those within one another count", EdgeLeaseTextTest::notWithin);
        Due.edge("6 deep: of each LINE anew", () -> {
            Due.is("two LINES of six", 2, rent("pay 1 if ((((((noon))))));pay 1 if ((((((noon))))))"));
            wrong("pay 1 if ((((((noon))))));pay 1 if (((((((noon)))))))", 41);
        });
    }

    private static void notWithin() {
        Due.is("one behind another", 1, rent("pay 1 if ((((((noon)))))) and ((((((noon)))))) or ((((((noon))))))"));
        Due.is("not ends with its ATOM", 1, rent("pay 1 if not frost" + " and not frost".repeat(9)));
        Due.is("not ends with its ATOM, of or", 1, rent("pay 1 if not noon" + " or not frost".repeat(9)));
        Due.is("not ends at the bottom", 0, rent("pay 1 if (((((not noon and not noon)))))"));
        wrong("pay 1 if (((((not noon and not not noon)))))", 31);
        Due.is("6 deep in the second ATOM", 1, rent("pay 1 if (noon and (((((noon))))))"));
        wrong("pay 1 if (noon and ((((((noon)))))))", 24);
        Due.is("6 deep behind or", 1, rent("pay 1 if (frost or (((((noon))))))"));
        wrong("pay 1 if (frost or ((((((noon)))))))", 24);
    }

    // ---- the first wrong byte ----

    private static void wrongBytes() {
        Due.edge("the first wrong byte: a word that is none, or of another kind of text", () -> {
            for (String word : new String[] {"house", "rate", "go", "north", "noon", "year", "x", "pays"}) {
                wrong(word + " 1", 0);
                wrong("pay 1; " + word, 7);
            }
        });
        Due.edge("the first wrong byte: of two wrong things the first", () -> {
            wrong("pay 1000;x", 4);
            wrong("pay 1 x 1000", 6);
            wrong("pay x;pay 1000", 4);
        });
        Due.edge("the text's length, if more must come", () -> {
            for (String text : new String[] {"pay", "less", "pay 1*", "pay 1 if", "void if", "void if not", "void if (",
                "void if (noon", "void if noon and", "void if noon or", "void if 1", "void if year", "void if 1+",
                "void if 1<", "void if 1<2+", "void;", "void if not ("}) {
                wrong(text, text.length());
                wrong(text + "   ", text.length() + 3);
            }
        });
        Due.edge("the first wrong byte: any that is no sign of a LEASE", () -> {
            for (int sign : new int[] {0, 9, 31, 33, 47, 58, 61, 64, 91, 96, 123, 127, 128, 160, 233, 255}) {
                wrong((char) sign + "pay 1", 0);
                wrong("pay 1" + (char) sign, 5);
                wrong("pay 1 if noon " + (char) sign, 14);
            }
        });
    }
}
