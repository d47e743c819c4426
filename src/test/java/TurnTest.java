/** Promises 7 to 10: look, angle, stop and rope. */
public final class TurnTest {
    public static void main(String[] args) {
        look();
        angle();
        bar();
        stop();
        rope();
        Due.close();
    }

    private static void look() {
        PlateTown x = Due.town("house 7 3;house 12 4;window 1 0 0;window 0 1 1;window 1 2 2");
        Due.is("cell", 12, x.look(1, 0));
        Due.is("height", 4, x.look(1, 1));
        Due.is("windows", 2, x.look(1, 2));
        Due.is("family", 1, x.look(1, 3));
        x.build(1, 6);
        Due.is("height when built", 10, x.look(1, 1));
        Due.another("look what 4", () -> x.look(0, 4));
        Due.another("look what -1", () -> x.look(0, -1));
        Due.outside("look house 2", () -> x.look(2, 0));
        Due.outside("look house -1", () -> x.look(-1, 0));
        Due.outside("look house ahead of what", () -> x.look(2, 9));
    }

    private static void angle() {
        PlateTown x = new PlateTown();
        Due.is("angle 31", 93, x.angle(31));
        Due.is("angle 32", 0, x.angle(32));
        Due.outside("angle -1", () -> x.angle(-1));
        Due.outside("angle 100", () -> x.angle(100));
        Due.tell(x, "start 90;rate 20");
        Due.is("start", 90, x.angle(0));
        Due.is("20 more", 14, x.angle(1));
        Due.tell(x, "wind 1 1 20;calm 2 2 20;calm 3 3 19");
        Due.is("wind", 54, x.angle(2));
        Due.is("calm", 54, x.angle(3));
        Due.is("calm 19", 55, x.angle(4));
        x.rope(1, 9);
        Due.is("48 at most", 14 + 48, x.angle(2));
        x.rope(1, 8);
        Due.is("48", 14 + 48, x.angle(2));
        x.rope(1, 7);
        Due.is("47", 14 + 47, x.angle(2));
        x.rope(1, 0);
        Due.tell(x, "start 0;rate 2;calm 0 99 0;house 0 30;house 1 9");
        Due.is("39 are no LOAD", 2, x.angle(1));
        x.build(1, 1);
        Due.is("40 are 1", 1, x.angle(1));
        Due.tell(x, "house 2 30;house 3 30;house 4 30");
        Due.is("LOAD", 3, x.count(9));
        Due.is("0 at least", 0, x.angle(99));
        x.rope(5, 2);
        Due.is("ropes help", 1, x.angle(6));
    }

    private static void bar() {
        PlateTown x = Due.town("rate 10;bar 30");
        Due.is("ahead of it", 20, x.angle(2));
        Due.is("exactly at it", 30, x.angle(3));
        Due.is("it stands there", 30, x.angle(4));
        Due.tell(x, "bar 29");
        Due.is("stopped short", 29, x.angle(3));
        Due.tell(x, "bar 31");
        Due.is("one short of it", 30, x.angle(3));
        Due.is("then at it", 31, x.angle(4));
        Due.tell(x, "start 90;bar 2");
        Due.is("around", 2, x.angle(2));
        Due.tell(x, "start 3;rate 20");
        Due.is("just behind it", 83, x.angle(4));
        Due.is("all around to it", 2, x.angle(5));
        Due.tell(x, "start 0;rate 0;bar 0");
        Due.is("stands at 0", 0, x.angle(50));
    }

    private static void stop() {
        PlateTown x = new PlateTown();
        Due.is("never", 99, x.stop());
        Due.tell(x, "rate 0");
        Due.is("at once", 0, x.stop());
        x.rope(98, 1);
        Due.is("last", 99, x.stop());
        x.rope(98, 0);
        x.rope(97, 1);
        Due.is("98", 98, x.stop());
        x.rope(99, 5);
        Due.is("ropes of 99 turn nothing", 98, x.stop());
        Due.tell(x, "rate 3;bar 90");
        Due.is("bar", 30, x.stop());
        Due.tell(x, "calm 0 99 3;wind 4 4 0;wind 9 9 0");
        Due.is("rests between do not count", 98, x.stop());
        x.rope(97, 0);
        Due.is("rests between", 10, x.stop());
    }

    private static void rope() {
        PlateTown x = new PlateTown();
        Due.is("rope", 0, x.rope(3, 20));
        Due.is("rope again", 20, x.rope(3, 1));
        Due.is("angle", 9, x.angle(3));
        Due.is("angle of the next", 13, x.angle(4));
        Due.illegal("rope 21", () -> x.rope(3, 21));
        Due.illegal("rope -1", () -> x.rope(3, -1));
        Due.outside("rope year 100", () -> x.rope(100, 1));
        Due.outside("rope year -1", () -> x.rope(-1, 21));
        Due.is("rope as it was", 1, x.rope(3, 0));
        Due.is("rope year 99", 0, x.rope(99, 4));
        Due.is("rope year 99 again", 4, x.rope(99, 4));
    }
}
