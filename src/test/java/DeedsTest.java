/** Promises 15 to 20: rent, let, due, promise, broken and twice. */
public final class DeedsTest {
    public static void main(String[] args) {
        facts();
        lines();
        conditions();
        rentRefused();
        let();
        due();
        promise();
        broken();
        twice();
        Due.close();
    }

    private static int rent(PlateTown x, String text, int house, int year) {
        x.image();
        int lease = Due.lease(x, text);
        int rent = x.rent(lease, house, year);
        x.back();
        return rent;
    }

    private static void facts() {
        PlateTown x = Due.town("rate 1;start 1;house 40 5;house 8 6;house 76 7;window 0 4 0;window 0 2 0;window 1 0 0");
        Due.is("year", 7 * 3, rent(x, "pay 3*year", 0, 7));
        Due.is("light of all windows", (9 + 5) * 2, rent(x, "pay 2*light", 0, 0));
        Due.is("height", 6, rent(x, "pay 1*height", 1, 0));
        Due.is("turn", 11, rent(x, "pay 1 * turn", 1, 10));
        Due.is("level is LEVEL and 8", 8, rent(x, "pay 1*level", 0, 0));
        Due.is("level of the high edge", 12, rent(x, "pay 1*level", 2, 0));
        Due.tell(x, "sea 0");
        Due.is("level of the low edge", 4, rent(x, "pay 1*level", 2, 0));
        Due.is("noon", 1, rent(x, "pay 1 if noon", 0, 0));
        Due.is("no noon", 0, rent(x, "pay 1 if noon", 1, 0));
        Due.is("frost", 1, rent(x, "pay 1 if frost", 1, 0));
        Due.is("no frost", 0, rent(x, "pay 1 if frost", 0, 0));
        Due.is("windy", 1, rent(x, "pay 1 if windy", 1, 0));
        Due.tell(x, "house 7 9");
        Due.is("not windy", 0, rent(x, "pay 1 if windy", 1, 0));
    }

    private static void lines() {
        PlateTown x = Due.town("rate 0;house 40 5");
        Due.is("no LINE", 0, rent(x, " ", 0, 0));
        Due.is("pay", 999, rent(x, "pay 999", 0, 0));
        Due.is("all pay together", 60, rent(x, "pay 10;pay 20;pay 30", 0, 0));
        Due.is("less", 7, rent(x, "less 3;pay 10", 0, 0));
        Due.is("0 at least", 0, rent(x, "pay 10;less 11", 0, 0));
        Due.is("less is not cut on its way", 5, rent(x, "less 100;pay 50;pay 55", 0, 0));
        Due.is("void", 0, rent(x, "pay 10;void;pay 10", 0, 0));
        Due.is("void that does not hold", 10, rent(x, "pay 10;void if 1<1", 0, 0));
        Due.is("lines that hold alone", 12, rent(x, "pay 10 if 1<2;pay 100 if 2<1;less 1 if 2<1;pay 2", 0, 0));
        Due.is("some void line", 0, rent(x, "void if 2<1;pay 1;void if 1<2", 0, 0));
    }

    private static boolean holds(PlateTown x, String condition) {
        return rent(x, "pay 1 if " + condition, 0, 3) == 1;
    }

    private static void conditions() {
        PlateTown x = Due.town("rate 2;house 40 5;window 0 4 0");
        Due.is("1<2", true, holds(x, "1<2"));
        Due.is("2<2", false, holds(x, "2<2"));
        Due.is("2>1", true, holds(x, "2>1"));
        Due.is("2>2", false, holds(x, "2>2"));
        Due.is("sum on the left", true, holds(x, "1+2+3>5"));
        Due.is("sum on the right", true, holds(x, "5<height+1"));
        Due.is("sum of facts", true, holds(x, "year+light+height+turn+level>3+8+5+6+7"));
        Due.is("sum of facts and no more", false, holds(x, "year+light+height+turn+level>3+9+5+6+8"));
        Due.is("and", false, holds(x, "noon and frost"));
        Due.is("and of both", true, holds(x, "noon and windy"));
        Due.is("or", true, holds(x, "frost or noon"));
        Due.is("or of none", false, holds(x, "frost or frost"));
        Due.is("not", false, holds(x, "not noon"));
        Due.is("not not", true, holds(x, "not not noon"));
        Due.is("and binds closer than or", true, holds(x, "noon or frost and frost"));
        Due.is("( bind first", false, holds(x, "(noon or frost) and frost"));
        Due.is("not binds closest", true, holds(x, "not noon or noon"));
        Due.is("not of all", false, holds(x, "not(noon or noon)"));
        Due.is("not of a comparison", true, holds(x, "not 2<1"));
        Due.is("many ors", true, holds(x, "frost or frost or 1>2 or windy"));
        Due.is("many ands", false, holds(x, "noon and windy and 1<2 and frost"));
        String longest = "pay 7 if 1" + "+1".repeat(190);
        Due.is("400 bytes, 191 together", 7, rent(x, longest + "<192" + " ".repeat(6), 0, 0));
        Due.is("not below 191", 0, rent(x, longest + "<191", 0, 0));
        Due.is("six deep", true, holds(x, "(((((noon and not frost)))))"));
    }

    private static void rentRefused() {
        PlateTown x = Due.town("rate 0;house 40 5");
        Due.outside("rent without a lease", () -> x.rent(0, 0, 0));
        Due.lease(x, "pay 5");
        Due.is("rent", 5, x.rent(0, 0, 99));
        Due.outside("rent lease 1", () -> x.rent(1, 0, 0));
        Due.outside("rent lease -1", () -> x.rent(-1, 0, 0));
        Due.outside("rent house 1", () -> x.rent(0, 1, 0));
        Due.outside("rent house -1", () -> x.rent(0, -1, 0));
        Due.outside("rent year 100", () -> x.rent(0, 0, 100));
        Due.outside("rent year -1", () -> x.rent(0, 0, -1));
    }

    private static void let() {
        PlateTown x = Due.town("rate 0;house 40 5");
        Due.outside("let without a lease", () -> x.let(0, 0, 0, 0));
        Due.lease(x, "pay 5");
        Due.illegal("let 5 to 4", () -> x.let(0, 0, 5, 4));
        Due.outside("let lease 1", () -> x.let(1, 0, 5, 4));
        Due.outside("let house 1", () -> x.let(0, 1, 5, 4));
        Due.outside("let house -1", () -> x.let(0, -1, 0, 0));
        Due.outside("let from -1", () -> x.let(0, 0, -1, 4));
        Due.outside("let to 100", () -> x.let(0, 0, 5, 100));
        Due.outside("let from 100 to 5", () -> x.let(0, 0, 100, 5));
        for (int i = 0; i < 16; i++) {
            Due.is("let " + i, i, x.let(0, 0, i, 99));
        }
        Due.is("lets", 16, x.count(4));
        Due.full("a 17th let", () -> x.let(0, 0, 0, 0));
        Due.illegal("a 17th let 5 to 4", () -> x.let(0, 0, 5, 4));
        Due.outside("a 17th let of no house", () -> x.let(0, 1, 5, 4));
        Due.is("lets at last", 16, x.count(4));
    }

    private static void due() {
        PlateTown x = Due.town("rate 0;house 40 5;house 0 7");
        Due.lease(x, "pay 1*year");
        Due.lease(x, "pay 2*height if year>50");
        Due.outside("due without a let", () -> x.due(0));
        x.let(0, 0, 0, 9);
        x.let(0, 1, 7, 7);
        x.let(1, 1, 49, 52);
        x.let(1, 0, 0, 99);
        Due.is("due of ten years", 45, x.due(0));
        Due.is("due of one year", 7, x.due(1));
        Due.is("due of some years", 2 * 7 * 2, x.due(2));
        Due.is("due of all years", 49 * 5 * 2, x.due(3));
        x.build(1, 1);
        Due.is("due as the town is now", 2 * 8 * 2, x.due(2));
        Due.outside("due 4", () -> x.due(4));
        Due.outside("due -1", () -> x.due(-1));
    }

    private static void promise() {
        PlateTown x = Due.town("rate 0;house 40 5;window 0 4 0");
        Due.illegal("promise 5 to 4", () -> x.promise(0, 5, 4));
        Due.outside("promise window 1", () -> x.promise(1, 5, 4));
        Due.outside("promise window -1", () -> x.promise(-1, 0, 0));
        Due.outside("promise from -1", () -> x.promise(0, -1, 4));
        Due.outside("promise to 100", () -> x.promise(0, 5, 100));
        for (int i = 0; i < 16; i++) {
            Due.is("promise " + i, i, x.promise(0, i, i));
        }
        Due.full("a 17th promise", () -> x.promise(0, 0, 0));
        Due.illegal("a 17th promise 5 to 4", () -> x.promise(0, 5, 4));
        Due.outside("a 17th promise of no window", () -> x.promise(1, 5, 4));
        Due.is("promises", 16, x.count(5));
    }

    private static void broken() {
        // ANGLE 3 times the YEAR: LIT at noon for ANGLES 79 to 18
        PlateTown x = Due.town("house 40 5;window 0 4 0");
        Due.outside("broken without a promise", () -> x.broken(0));
        x.promise(0, 0, 99);
        x.promise(0, 0, 6);
        x.promise(0, 0, 7);
        x.promise(0, 20, 30);
        x.promise(0, 27, 38);
        Due.is("broken", 7, x.broken(0));
        Due.is("kept", -1, x.broken(1));
        Due.is("broken in the last year", 7, x.broken(2));
        Due.is("broken in the first year", 20, x.broken(3));
        Due.is("kept later", -1, x.broken(4));
        Due.tell(x, "house 31 8");
        Due.is("broken by a house: years 27 to 30 have the sun beside it", 31, x.broken(4));
        Due.outside("broken 5", () -> x.broken(5));
        Due.outside("broken -1", () -> x.broken(-1));
    }

    private static void twice() {
        PlateTown x = Due.town("house 40 5;house 41 5;window 0 4 0;window 0 2 0;window 1 0 0");
        Due.is("none", 0, x.twice());
        x.promise(0, 10, 20);
        Due.is("one", 0, x.twice());
        x.promise(1, 21, 30);
        Due.is("no year in common", 0, x.twice());
        x.promise(2, 0, 99);
        Due.is("another house", 0, x.twice());
        x.promise(1, 20, 20);
        Due.is("the last year in common", 1, x.twice());
        x.promise(0, 0, 10);
        Due.is("the first year in common", 2, x.twice());
        x.promise(0, 0, 99);
        Due.is("one window twice", 6, x.twice());
        x.promise(0, 0, 99);
        Due.is("the same twice", 11, x.twice());
        PlateTown two = Due.town("house 40 5;window 0 4 0");
        two.promise(0, 0, 1);
        two.promise(0, 1, 2);
        Due.is("the first two", 1, two.twice());
    }
}
