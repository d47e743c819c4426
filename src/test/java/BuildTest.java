/** Promises 28 to 32: build, undo, lost, takes and gable. */
public final class BuildTest {
    public static void main(String[] args) {
        build();
        undo();
        undoForgets();
        lost();
        anglesStay();
        takes();
        gable();
        Due.close();
    }

    private static void build() {
        PlateTown x = Due.town("rate 3;house 40 1;house 0 30");
        Due.is("build", 10, x.build(0, 9));
        Due.is("height", 10, x.look(0, 1));
        Due.is("LOAD", 1, x.count(9));
        Due.is("the turn slows", 2, x.angle(1));
        Due.illegal("build 0", () -> x.build(0, 0));
        Due.illegal("build -1", () -> x.build(0, -1));
        Due.illegal("build to 31", () -> x.build(0, 21));
        Due.illegal("build on 30", () -> x.build(1, 1));
        Due.illegal("build MAX", () -> x.build(0, Integer.MAX_VALUE));
        Due.is("build to 30", 30, x.build(0, 20));
        Due.outside("build house 2", () -> x.build(2, 1));
        Due.outside("build house -1", () -> x.build(-1, 0));
        Due.is("buildings", 2, x.count(8));
        Due.tell(x, "house 1 1");
        Due.illegal("build 30", () -> x.build(2, 30));
        Due.is("build 29", 30, x.build(2, 29));
    }

    private static void undo() {
        PlateTown x = Due.town("house 40 1;house 0 2");
        Due.is("nothing to undo", -1, x.undo());
        x.build(0, 3);
        x.build(1, 4);
        x.build(0, 5);
        Due.is("undo", 0, x.undo());
        Due.is("height of 0", 4, x.look(0, 1));
        Due.is("undo the one before", 1, x.undo());
        Due.is("height of 1", 2, x.look(1, 1));
        Due.is("one is left", 1, x.count(8));
        x.build(1, 7);
        Due.is("undo the new one", 1, x.undo());
        Due.is("undo the first", 0, x.undo());
        Due.is("height as at first", 1, x.look(0, 1));
        Due.is("none is left", -1, x.undo());
        Due.is("heights stay", 3, x.look(0, 1) + x.look(1, 1));
    }

    private static void undoForgets() {
        PlateTown x = Due.town("house 40 1;house 0 1");
        x.build(0, 10);
        for (int i = 0; i < 19; i++) {
            x.build(1, 1);
        }
        Due.is("twenty", 20, x.count(8));
        x.build(0, 2);
        Due.is("twenty still", 20, x.count(8));
        Due.is("undo the latest", 0, x.undo());
        for (int i = 0; i < 19; i++) {
            Due.is("undo", 1, x.undo());
        }
        Due.is("the first is forgotten", -1, x.undo());
        Due.is("and stands", 11, x.look(0, 1));
        Due.is("the others do not", 1, x.look(1, 1));
    }

    /** At noon HIGH is 7, an hour beside it 6: so a HOUSE next to the WINDOW takes hours from 7 and 8 on. */
    private static void lost() {
        PlateTown x = Due.town("rate 0;house 40 1;house 31 1;house 1 30;window 0 4 0;window 0 4 1");
        Due.is("lost 5", 0, x.lost(1, 5, 0, 0, 9));
        Due.is("lost 6", 20, x.lost(1, 6, 0, 0, 9));
        Due.is("lost 7", 3, x.lost(1, 7, 0, 99, 99));
        Due.is("lost for a higher window", 2, x.lost(1, 7, 1, 0, 0));
        Due.is("lost by its own house", 0, x.lost(0, 29, 0, 0, 99));
        Due.is("nothing is built", 9, x.light(0, 0, 0));
        Due.is("nothing to undo", 0, x.count(8));
        Due.illegal("lost 0", () -> x.lost(1, 0, 0, 0, 0));
        Due.illegal("lost 30", () -> x.lost(1, 30, 0, 0, 0));
        Due.illegal("lost on 30", () -> x.lost(2, 1, 0, 0, 0));
        Due.illegal("lost 1 to 0", () -> x.lost(1, 1, 0, 1, 0));
        Due.outside("lost house 3", () -> x.lost(3, 0, 0, 1, 0));
        Due.outside("lost house -1", () -> x.lost(-1, 1, 0, 0, 0));
        Due.outside("lost window 2", () -> x.lost(1, 0, 2, 1, 0));
        Due.outside("lost window -1", () -> x.lost(1, 1, -1, 0, 0));
        Due.outside("lost from -1", () -> x.lost(1, 0, 0, -1, 0));
        Due.outside("lost to 100", () -> x.lost(1, 0, 0, 0, 100));
        x.build(1, 7);
        Due.is("what is shaded is not lost again", 0, x.lost(1, 1, 0, 0, 9));
    }

    private static void anglesStay() {
        PlateTown x = Due.town("rate 1;house 40 10;house 80 29;window 0 4 0");
        int before = x.light(0, 0, 99);
        Due.is("lost", 0, x.lost(1, 1, 0, 0, 99));
        Due.is("takes", 0, x.takes(1, 1, 0, 99));
        x.build(1, 1);
        Due.is("as the plate stands then", 900, x.light(0, 0, 99));
        Due.is("as it turned", true, before < 900);
    }

    private static void takes() {
        PlateTown x = Due.town("rate 0;house 40 1;house 31 1;house 1 30;"
                + "window 0 4 0;window 0 2 0;window 0 4 1;window 1 4 0;window 0 3 0");
        Due.is("takes none", 0, x.takes(1, 5, 0, 0));
        Due.is("takes some", 0b10001, x.takes(1, 6, 0, 0));
        Due.is("takes more", 0b10101, x.takes(1, 7, 0, 0));
        PlateTown east = Due.town("rate 0;house 40 1;house 41 1;window 0 2 0");
        Due.is("loses one hour", 1, east.lost(1, 1, 0, 5, 5));
        Due.is("takes one hour", 1, east.takes(1, 1, 5, 5));
        Due.illegal("takes 0", () -> x.takes(1, 0, 0, 0));
        Due.illegal("takes 30", () -> x.takes(1, 30, 0, 0));
        Due.illegal("takes on 30", () -> x.takes(2, 1, 0, 0));
        Due.illegal("takes 1 to 0", () -> x.takes(1, 1, 1, 0));
        Due.outside("takes house 3", () -> x.takes(3, 0, 1, 0));
        Due.outside("takes house -1", () -> x.takes(-1, 1, 0, 0));
        Due.outside("takes from -1", () -> x.takes(1, 0, -1, 0));
        Due.outside("takes to 100", () -> x.takes(1, 0, 0, 100));
        x.rope(5, 20);
        Due.tell(x, "wind 5 5 20");
        Due.is("when the plate is turned away", 0, x.takes(1, 29, 6, 9));
        Due.is("but some year before", 0b10101, x.takes(1, 29, 5, 9));
    }

    private static void gable() {
        PlateTown x = Due.town("rate 0;house 40 1;house 31 1;house 80 30;house 22 2;window 0 4 0;window 0 4 9;"
                + "window 0 4 29;window 0 4 11");
        Due.is("gable", 5, x.gable(1, 0, 0, 9));
        Due.is("gable for UP 9", 14, x.gable(1, 1, 0, 9));
        Due.is("gable for UP 11", 16, x.gable(1, 3, 0, 9));
        Due.is("gable for UP 29", 29, x.gable(1, 2, 0, 9));
        Due.is("gable of its own house", 29, x.gable(0, 0, 0, 9));
        Due.is("gable on 30", 0, x.gable(2, 0, 0, 9));
        Due.is("gable two off", 10, x.gable(3, 0, 0, 9));
        x.build(1, 5);
        Due.is("gable of the rest", 0, x.gable(1, 0, 0, 0));
        x.build(1, 2);
        Due.is("nothing is left to lose", 22, x.gable(1, 0, 0, 0));
        Due.illegal("gable 1 to 0", () -> x.gable(0, 0, 1, 0));
        Due.outside("gable house 4", () -> x.gable(4, 0, 1, 0));
        Due.outside("gable house -1", () -> x.gable(-1, 0, 0, 0));
        Due.outside("gable window 4", () -> x.gable(0, 4, 1, 0));
        Due.outside("gable window -1", () -> x.gable(0, -1, 0, 0));
        Due.outside("gable from -1", () -> x.gable(0, 0, -1, 0));
        Due.outside("gable to 100", () -> x.gable(0, 0, 0, 100));
    }
}
