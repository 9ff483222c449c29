import java.math.BigInteger;

/** What comes out: promises 20 to 22. */
final class EdgesOfOut {
    private static final int NONE = Shop.NONE, OUTSIDE = Shop.OUTSIDE;
    private static final int LEAST = Integer.MIN_VALUE, MOST = Integer.MAX_VALUE;
    private static final String EMPTY_ROW = "............\n";

    private interface Board {
        int at(int x, int y, int z);
    }

    private EdgesOfOut() {
    }

    private static void is(int got, int want) {
        Edges.is(got, want);
    }

    static void all() {
        Edges.sentence("Promise 20", "THE OUT becomes the cross-cut along x with y (axis = 0), along y with x (1) as told (0 .. 11):",
            EdgesOfOut::sectionOfEachBorder);
        Edges.sentence("Promise 20", "from height 19 down to 0 twelve bytes (a .. g, a point for empty CUBES that are OPEN, - for others) and a byte 10: how many bytes.",
            EdgesOfOut::sectionEmptyFullAndClosed);
        Edges.sentence("Promise 20", "OUTSIDE.", EdgesOfOut::sectionOutside);
        Edges.sentence("Promise 21", "Byte i of THE OUT;", EdgesOfOut::outOfEachByte);
        Edges.sentence("Promise 21", "NONE: there is none such.", EdgesOfOut::outBeyond);
        Edges.sentence("Promise 22", "A digest of THE BOARD: d is 7; for each CUBE, by numbers, d becomes 31 d and what it is", EdgesOfOut::digestByNumbers);
        Edges.sentence("Promise 22", "(wrapping).", EdgesOfOut::digestWraps);
    }

    /** Prints a cross-cut and looks at the whole of it; rows are told from height 0 up, the others are empty and open. */
    private static void page(Shop x, int axis, int where, String... rows) {
        is(x.section(axis, where), 260);
        for (int i = 0; i < 260; i++) {
            int z = 19 - i / 13;
            is(x.out(i), z < rows.length ? rows[z].charAt(i % 13) : EMPTY_ROW.charAt(i % 13));
        }
    }

    private static Shop corners() {
        Shop x = new Shop();
        x.only(0, 0, 5);
        x.only(1, 11, 71);
        x.only(2, 132, 60);
        x.only(3, 143, 138);
        x.done("mask 0; lay b 1; mask 1; lay c 2; mask 2; lay d 1; mask 3; lay e 2;", 8);
        return x;
    }

    private static final String FLOOR = "aaaaaaaaaaaa\n";

    private static void sectionOfEachBorder() {
        page(corners(), 0, 0, FLOOR, "b....b.....c\n", "...........c\n");
        page(corners(), 0, 11, FLOOR, "d.....e....e\n", "......e....e\n");
        page(corners(), 1, 0, FLOOR, "b....d.....d\n", EMPTY_ROW);
        page(corners(), 1, 11, FLOOR, "c....c.....e\n", "c....c.....e\n");
        page(corners(), 0, 1, FLOOR);
        page(corners(), 1, 5, FLOOR, "b...........\n");
        Shop x = corners();
        for (int where = 0; where < 12; where++) {
            is(x.section(0, where), 260);
            is(x.out(18 * 13), where == 0 ? 'b' : where == 5 || where == 11 ? 'd' : '.');
            is(x.section(1, where), 260);
            is(x.out(18 * 13), where == 0 || where == 5 ? 'b' : where == 11 ? 'c' : '.');
        }
    }

    private static void sectionEmptyFullAndClosed() {
        Shop x = new Shop();
        x.done("flat 0;", 1);
        page(x, 0, 5);
        Shop y = new Shop();
        y.done("cut a 1; lay a 1; lay b 2; lay c 3; lay d 3; lay e 4; lay f 5; lay g 2;", 8);
        String all = "abbcccdddeeeefffffgg";
        String[] rows = new String[20];
        for (int z = 0; z < 20; z++) {
            rows[z] = ("" + all.charAt(z)).repeat(12) + "\n";
        }
        page(y, 1, 11, rows);
        // a pipe of y = 0 under a roof: open, and closed
        Shop z = new Shop();
        z.rect(0, 0, 0, 11, 0, true);
        z.only(1, 0);
        z.done("lay b 1; mask 0; cut b 1; lay d 1; bare; lay c 1; mask 1; cut c 1; bare; etch d 3;", 10);
        page(z, 0, 0, FLOOR, "...ddddddddd\n", ".ccccccccccc\n");
        Shop closed = new Shop();
        closed.rect(0, 0, 0, 11, 0, true);
        closed.only(1, 0);
        closed.done("lay b 1; mask 0; cut b 1; lay d 1; bare; lay c 1; mask 1; cut c 1; bare; etch d 3; mask 1; lay g 1;", 12);
        page(closed, 0, 0, FLOOR, "g--ddddddddd\n", ".ccccccccccc\n");
        // height 19 is a border, too
        Shop high = new Shop();
        high.only(0, 3);
        high.done("flat 0; lay b 19; lay c 1; mask 0; cut c 1;", 5);
        is(high.section(0, 0), 260);
        is(high.out(2), 'c');
        is(high.out(3), '.');
        is(high.out(16), 'b');
    }

    private static void sectionOutside() {
        Shop x = new Shop();
        for (int no : new int[] {-1, 12, LEAST, MOST}) {
            is(x.section(0, no), OUTSIDE);
            is(x.section(1, no), OUTSIDE);
        }
        for (int no : new int[] {-1, 2, LEAST, MOST}) {
            is(x.section(no, 0), OUTSIDE);
            is(x.section(no, 11), OUTSIDE);
        }
        is(x.out(0), NONE);
        is(x.section(1, 11), 260);
        is(x.out(0), '.');
        x.done("lay b 20;", 1);
        is(x.section(2, 11), OUTSIDE);
        is(x.section(1, 12), OUTSIDE);
        is(x.out(0), '.');
        is(x.out(259), 10);
    }

    private static void outOfEachByte() {
        Shop x = new Shop();
        x.section(0, 0);
        for (int i = 0; i < 260; i++) {
            is(x.out(i), i % 13 == 12 ? 10 : i < 19 * 13 ? '.' : 'a');
        }
        // it stays until the next cross-cut, and that takes its place
        x.done("lay g 20;", 1);
        is(x.out(0), '.');
        x.undo();
        is(x.out(246), 10);
        x.done("lay g 20;", 1);
        is(x.out(0), '.');
        is(x.section(1, 0), 260);
        is(x.out(0), 'g');
        is(x.out(246), 10);
        is(x.out(247), 'a');
        is(x.out(260), NONE);
    }

    private static void outBeyond() {
        Shop x = new Shop();
        for (int i : new int[] {0, 1, 259, 260, -1, LEAST, MOST}) {
            is(x.out(i), NONE);
        }
        is(x.section(0, 12), OUTSIDE);
        is(x.out(0), NONE);
        is(x.section(0, 11), 260);
        is(x.out(0), '.');
        is(x.out(259), 10);
        for (int i : new int[] {-1, 260, 261, 512, LEAST, MOST}) {
            is(x.out(i), NONE);
        }
    }

    /** The digest with numbers of any length, cut to 32 bits in the end. */
    private static int digestOf(Board board) {
        BigInteger d = BigInteger.valueOf(7);
        for (int cube = 0; cube < 2880; cube++) {
            d = d.multiply(BigInteger.valueOf(31)).add(BigInteger.valueOf(board.at(cube % 12, cube / 12 % 12, cube / 144)));
        }
        return d.intValue();
    }

    private static void digestByNumbers() {
        for (int place : new int[] {0, 1, 12, 131, 142, 143}) {
            Shop x = new Shop();
            x.only(0, place);
            x.done("mask 0; lay b 1;", 2);
            is(x.digest(), digestOf((i, j, z) -> z == 0 ? 1 : z == 1 && 12 * j + i == place ? 2 : 0));
            x.done("flat 0; mask 0; lay c 20; cut c 7;", 4);
            is(x.digest(), digestOf((i, j, z) -> z < 13 && 12 * j + i == place ? 3 : 0));
        }
        // boards that have the same cubes at other places have other digests
        Shop x = new Shop();
        x.rect(0, 0, 0, 5, 11, true);
        x.rect(1, 6, 0, 11, 11, true);
        x.done("mask 0; lay b 1; mask 1; lay c 1;", 4);
        is(x.digest(), digestOf((i, j, z) -> z == 0 ? 1 : z == 1 ? i < 6 ? 2 : 3 : 0));
        x.done("flat 1; mask 1; lay b 1; mask 0; lay c 1;", 5);
        is(x.digest(), digestOf((i, j, z) -> z == 0 ? 1 : z == 1 ? i < 6 ? 3 : 2 : 0));
    }

    private static void digestWraps() {
        Shop x = new Shop();
        is(x.digest(), digestOf((i, j, z) -> z == 0 ? 1 : 0));
        x.done("flat 0;", 1);
        is(x.digest(), digestOf((i, j, z) -> 0));
        x.done("lay g 20;", 1);
        is(x.digest(), digestOf((i, j, z) -> 7));
        is(x.digest(), digestOf((i, j, z) -> 7));
        // of eight boards that differ in the highest cube alone some are above, some below nothing
        int above = 0;
        x.only(0, 143);
        for (int stuff = 1; stuff <= 7; stuff++) {
            x.done("mask 0; cut abcdefg 1; lay " + (char) ('a' + stuff - 1) + " 1;", 3);
            int last = stuff;
            is(x.digest(), digestOf((i, j, z) -> i == 11 && j == 11 && z == 19 ? last : 7));
        }
        for (int high = 0; high < 20; high++) {
            int up = high;
            x.done("flat " + high + ";", 1);
            above += x.digest() > 0 ? 1 : 0;
            is(x.digest(), digestOf((i, j, z) -> z < up ? 7 : 0));
            x.undo();
        }
        Due.due("some of twenty digests are above nothing, some below", above > 0 && above < 20 ? 1 : 0, 1);
    }
}
