/** What each step does at its edges: Terms 2. */
final class EdgesOfSteps {
    private static final int NONE = Shop.NONE;
    private static final int FAIL_WANT = 1, FAIL_WHOLE = 2;

    private EdgesOfSteps() {
    }

    private static void is(int got, int want) {
        Edges.is(got, want);
    }

    static void all() {
        Edges.sentence("Terms 2", "STEPS. What is told of PLACES is so for those of THE MASK alone;", EdgesOfSteps::placesOfTheMaskAlone);
        Edges.sentence("Terms 2", "the other STEPS are for the whole BOARD.", EdgesOfSteps::othersForTheWholeBoard);
        Edges.sentence("Terms 2", "lay s n: at each PLACE n CUBES from right above the TOP on become s, as far as there are any.", EdgesOfSteps::lay);
        Edges.sentence("Terms 2", "cut T n: at each PLACE, n times: if the CUBE at the TOP is of a STUFF of T, it is empty then.", EdgesOfSteps::cut);
        Edges.sentence("Terms 2", "dope s t n T: at each PLACE, from the TOP down: n CUBES at most are gone through, "
            + "as long as they are s or of a STUFF of T; those that are s become t.", EdgesOfSteps::dope);
        Edges.sentence("Terms 2", "coat s n: n times: all OPEN CUBES that are BESIDE one that is not empty become s, at once.", EdgesOfSteps::coat);
        Edges.sentence("Terms 2", "etch T n: n times: all CUBES of a STUFF of T that are BESIDE an OPEN one, or have height 19, become empty, at once.",
            EdgesOfSteps::etch);
        Edges.sentence("Terms 2", "turn s t n: n times: all CUBES that are s, and BESIDE an OPEN one or of height 19, become t, at once;", EdgesOfSteps::turn);
        Edges.sentence("Terms 2", "but from the second time on instead those s that are BESIDE a t that came by this STEP.", EdgesOfSteps::turnAgain);
        Edges.sentence("Terms 2", "fill s h: all OPEN CUBES below height h become s.", EdgesOfSteps::fill);
        Edges.sentence("Terms 2", "flat h: all CUBES from height h on become empty.", EdgesOfSteps::flat);
        Edges.sentence("Terms 2", "drop: all that FLOATS becomes empty.", EdgesOfSteps::drop);
        Edges.sentence("Terms 2", "mask k: THE MASK is MASK k.", EdgesOfSteps::mask);
        Edges.sentence("Terms 2", "bare: THE MASK is all PLACES.", EdgesOfSteps::bare);
        Edges.sentence("Terms 2", "want s r n: s is a STUFF, r one of = < >: the number of CUBES of s is equal to n, less, more; else the program FAILS here.",
            EdgesOfSteps::want);
        Edges.sentence("Terms 2", "whole: nothing FLOATS; else it FAILS.", EdgesOfSteps::whole);
        Edges.sentence("Terms 2", "repeat n { program }: n times.", EdgesOfSteps::repeat);
    }

    // ---- whom they are for

    private static void placesOfTheMaskAlone() {
        Shop x = new Shop();
        x.only(1, 0, 77, 143);
        x.turned(2);
        x.done("mask 1; lay b 2; lay c 1;", 3);
        is(x.volume(2), 6);
        is(x.volume(3), 3);
        is(x.at(143, 3), 3);
        is(x.at(142, 1), 0);
        x.done("lay c 1; mask 1; dope c d 1 b;", 3);
        is(x.volume(4), 3);
        is(x.volume(3), 144);
        x.done("mask 1; cut dc 9;", 2);
        is(x.volume(4), 0);
        is(x.volume(3), 141);
        // an empty mask, a full one
        int before = x.digest();
        x.done("mask 0; lay b 1; cut abc 20; dope b c 20 a;", 4);
        is(x.digest(), before);
        x.done("mask 2; lay e 1;", 2);
        is(x.volume(5), 144);
        x.done("mask 2; dope e f 1 a; cut f 1;", 3);
        is(x.volume(5) + x.volume(6), 0);
    }

    private static void othersForTheWholeBoard() {
        Shop x = new Shop();
        x.only(1, 0);
        x.done("mask 0; coat b 1;", 2);
        is(x.volume(2), 144);
        x.done("mask 0; turn b c 1;", 2);
        is(x.volume(3), 144);
        x.done("mask 0; etch c 1;", 2);
        is(x.volume(3), 0);
        x.done("mask 0; fill d 2;", 2);
        is(x.volume(4), 144);
        x.done("mask 0; flat 1;", 2);
        is(x.volume(4), 0);
        x.done("mask 0; want a > 14; whole;", 3);
        x.fails("mask 0; want a = 0;", FAIL_WANT, 8);
        x.fails("mask 1; lay b 1; lay c 1; mask 0; etch b 1; whole;", FAIL_WHOLE, 44);
        x.done("mask 1; lay b 1; lay c 1; mask 0; etch b 1; drop;", 6);
        is(x.volume(10), 144);
    }

    // ---- those that are for places

    private static void lay() {
        Shop x = new Shop();
        x.done("lay b 17;", 1);
        is(x.top(0), 17);
        x.done("lay c 1;", 1);
        is(x.top(143), 18);
        x.done("lay d 2;", 1);
        is(x.volume(4), 144);
        is(x.at(0, 19), 4);
        x.done("lay e 1; lay e 20;", 2);
        is(x.volume(5), 0);
        is(x.volume(10), 2880);
        x.done("flat 0; lay f 20;", 2);
        is(x.volume(6), 2880);
        x.done("flat 0; lay f 19;", 2);
        is(x.at(0, 18), 6);
        is(x.at(0, 19), 0);
        x.done("flat 1; lay g 20;", 2);
        is(x.volume(7), 19 * 144);
        is(x.volume(6), 144);
        // right above the top: what is empty below it stays so
        Shop y = new Shop();
        y.only(0, 0);
        y.done("mask 0; lay b 1; lay c 1; etch b 1; lay d 1;", 5);
        is(y.at(0, 1), 0);
        is(y.at(0, 3), 4);
        is(y.at(0, 4), 0);
        y.done("mask 0; lay e 20;", 2);
        is(y.at(0, 1), 0);
        is(y.volume(5), 16);
        y.done("mask 0; cut cde 20; cut a 1; lay f 1;", 4);
        is(y.at(0, 0), 6);
    }

    private static void cut() {
        Shop x = new Shop();
        x.done("flat 0; lay b 20; cut b 19;", 3);
        is(x.top(0), 0);
        is(x.volume(2), 144);
        x.done("cut b 1;", 1);
        is(x.top(0), NONE);
        x.done("cut abcdefg 20;", 1);
        is(x.top(143), NONE);
        x.done("lay b 3; cut b 1;", 2);
        is(x.top(0), 1);
        x.done("cut acdefg 20;", 1);
        is(x.top(0), 1);
        x.done("cut abcdefg 20;", 1);
        is(x.volume(10), 0);
        // it stops above what is not of the set
        x.done("lay b 1; lay c 1; lay b 1; cut b 20;", 4);
        is(x.top(0), 1);
        x.done("cut bc 1;", 1);
        is(x.top(0), 0);
        x.done("lay c 1; lay b 1; lay c 1; cut cb 2;", 4);
        is(x.top(0), 1);
        is(x.at(0, 1), 3);
        x.done("flat 0; lay g 20; cut g 20;", 3);
        is(x.volume(10), 0);
        // what is empty below the top is no time of it
        Shop y = new Shop();
        y.only(0, 0);
        y.done("mask 0; lay b 1; lay c 2; lay b 1; etch c 1;", 5);
        is(y.top(0), 4);
        y.done("mask 0; cut b 1;", 2);
        is(y.top(0), 1);
        y.undo();
        y.done("mask 0; cut b 2;", 2);
        is(y.top(0), 0);
        y.undo();
        y.done("mask 0; cut ab 3;", 2);
        is(y.top(0), NONE);
    }

    private static void dope() {
        Shop x = new Shop();
        x.done("flat 0; lay b 20; dope b c 19 a;", 3);
        is(x.volume(2), 144);
        is(x.at(0, 0), 2);
        is(x.at(0, 1), 3);
        x.done("dope c b 20 a;", 1);
        is(x.volume(2), 2880);
        x.done("dope b c 20 b;", 1);
        is(x.volume(3), 2880);
        x.done("dope c d 1 c;", 1);
        is(x.volume(4), 144);
        is(x.at(0, 19), 4);
        // the top is neither s nor of the set
        x.done("dope c e 20 ab;", 1);
        is(x.volume(5), 0);
        x.done("dope c e 1 d;", 1);
        is(x.volume(5), 0);
        x.done("dope c e 2 d;", 1);
        is(x.volume(5), 144);
        is(x.at(0, 18), 5);
        x.done("dope d g 1 a;", 1);
        is(x.at(0, 19), 7);
        int before = x.digest();
        x.done("dope g g 20 abcdef;", 1);
        is(x.digest(), before);
        // those of the set count, too
        x.done("flat 0; lay b 1; lay c 18; lay d 1; dope b e 19 cd;", 5);
        is(x.volume(5), 0);
        x.done("dope b e 20 cd;", 1);
        is(x.volume(5), 144);
        is(x.at(0, 0), 5);
        x.done("flat 0; dope a b 20 abcdefg;", 2);
        is(x.volume(10), 0);
        x.done("lay a 1; dope a b 20 c;", 2);
        is(x.volume(2), 144);
        // an empty one ends it
        Shop y = new Shop();
        y.only(0, 0);
        y.done("mask 0; lay b 1; lay c 1; lay b 1; etch c 1; dope b d 20 abcdefg;", 6);
        is(y.at(0, 3), 4);
        is(y.at(0, 1), 2);
    }

    // ---- those that are for the board

    /** How many cubes other than it are at most so far from a cube, in steps from beside to beside, with heights from low on. */
    private static int near(int place, int z, int far, int low, int high) {
        int count = 0;
        for (int cube = 144 * low; cube < 144 * (high + 1); cube++) {
            int distance = Math.abs(cube % 12 - place % 12) + Math.abs(cube / 12 % 12 - place / 12) + Math.abs(cube / 144 - z);
            count += distance > 0 && distance <= far ? 1 : 0;
        }
        return count;
    }

    private static void coat() {
        for (int place : new int[] {0, 5, 11, 60, 65, 71, 132, 138, 143}) {
            Shop x = new Shop();
            x.only(1, place);
            x.done("flat 0; mask 1; lay a 1;", 3);
            for (int n : new int[] {1, 2, 3, 11, 19, 20}) {
                x.done("coat b " + n + ";", 1);
                is(x.volume(2), near(place, 0, n, 0, 19));
                is(x.volume(1), 1);
                x.undo();
            }
            // from the highest cube of a tower
            x.done("mask 1; lay a 19; coat b 1;", 3);
            is(x.volume(2), 20 * (near(place, 0, 1, 0, 0)));
        }
        Shop x = new Shop();
        x.done("coat b 18;", 1);
        is(x.volume(2), 18 * 144);
        x.done("coat c 20;", 1);
        is(x.volume(3), 144);
        x.done("coat d 20;", 1);
        is(x.volume(4), 0);
        x.done("flat 0; coat b 20;", 2);
        is(x.volume(10), 0);
        coatCloses();
    }

    /** A chamber of 3 by 3 by 3 under a roof with one hole: the first coat closes the hole, and the second does not come in. */
    private static void coatCloses() {
        Shop x = new Shop();
        x.rect(0, 4, 4, 6, 6, true);
        x.rect(1, 4, 4, 6, 6, true);
        x.turned(1);
        x.only(2, 65);
        x.done("mask 0; lay d 3; mask 1; lay b 3; bare; lay c 1; mask 2; cut c 1; etch d 20;", 9);
        is(x.volume(4), 0);
        is(x.volume(11), 0);
        x.done("coat e 1;", 1);
        is(x.at(65, 4), 5);
        is(x.at(65, 1), 5);
        is(x.at(65, 2), 0);
        is(x.at(65, 3), 0);
        is(x.volume(11), 2);
        x.undo();
        x.done("coat e 2;", 1);
        is(x.volume(11), 2);
        is(x.at(65, 3), 0);
        x.done("coat f 20;", 1);
        is(x.volume(11), 2);
    }

    private static void etch() {
        Shop x = new Shop();
        x.done("flat 0; lay b 20; etch b 1;", 3);
        is(x.volume(2), 19 * 144);
        is(x.top(0), 18);
        x.done("etch b 18;", 1);
        is(x.volume(2), 144);
        x.done("etch acdefg 20;", 1);
        is(x.volume(2), 144);
        x.done("etch b 1;", 1);
        is(x.volume(10), 0);
        x.done("etch abcdefg 20;", 1);
        is(x.volume(10), 0);
        // a cube of height 19 is not beside an open one, but below it all are closed
        x.done("lay b 19; lay c 1; etch b 20;", 3);
        is(x.volume(2), 19 * 144);
        x.done("etch c 20;", 1);
        is(x.volume(3), 0);
        is(x.volume(2), 19 * 144);
        x.done("lay c 1; etch bc 20;", 2);
        is(x.volume(10), 0);
        // neither the board's sides nor what is below height 0 is open
        x.done("lay b 5; lay c 1; etch b 20;", 3);
        is(x.volume(2), 5 * 144);
        for (int place : new int[] {0, 11, 65, 132, 143}) {
            Shop y = new Shop();
            y.only(0, place);
            y.done("flat 0; lay b 4; lay c 1; mask 0; cut c 1;", 5);
            for (int n : new int[] {1, 2, 5, 20}) {
                y.done("etch b " + n + ";", 1);
                is(y.volume(2), 4 * 144 - 1 - near(place, 3, n - 1, 0, 3));
                y.undo();
            }
        }
        etchFromACave();
    }

    /** A cave does not etch what is beside it; what is on its other side, and open, does. */
    private static void etchFromACave() {
        Shop x = new Shop();
        x.only(0, 13, 14);
        x.only(1, 14);
        x.allBut(2, 13, 14);
        x.done("mask 0; lay d 1; mask 2; lay b 1; bare; lay c 1; mask 1; cut cd 2; etch d 1; lay b 1; lay c 1;", 11);
        is(x.volume(11), 1);
        int before = x.digest();
        x.done("etch b 20; turn b d 20; fill e 20;", 3);
        is(x.at(13, 1), 0);
        is(x.volume(2), 143);
        x.undo();
        is(x.digest(), before);
        x.done("etch c 1; coat f 1;", 2);
        is(x.at(13, 1), 6);
    }

    private static void turn() {
        Shop x = new Shop();
        x.done("flat 0; lay b 20; turn b c 1;", 3);
        is(x.volume(3), 144);
        is(x.at(0, 19), 3);
        x.done("turn b d 20;", 1);
        is(x.volume(4), 0);
        x.done("flat 19; turn b d 1;", 2);
        is(x.volume(4), 144);
        is(x.at(143, 18), 4);
        int before = x.digest();
        x.done("turn d d 20; turn e f 20;", 2);
        is(x.digest(), before);
        x.done("flat 0; turn a b 20;", 2);
        is(x.volume(10), 0);
        // all sides of a tower that stands in the open, but not what is within
        Shop y = new Shop();
        y.rect(0, 4, 4, 6, 6, true);
        y.done("mask 0; lay b 3; turn b c 1;", 3);
        is(y.volume(2), 2);
        is(y.at(65, 2), 2);
        is(y.at(65, 3), 3);
        is(y.at(52, 1), 3);
    }

    private static void turnAgain() {
        Shop x = new Shop();
        x.done("flat 0; lay b 20; turn b c 19;", 3);
        is(x.volume(2), 144);
        is(x.at(0, 0), 2);
        x.undo();
        x.done("flat 0; lay b 20; turn b c 20;", 3);
        is(x.volume(3), 2880);
        // a t that was there before turns none
        x.done("flat 0; lay b 2; lay c 1; turn b c 20;", 4);
        is(x.volume(2), 288);
        x.done("turn c b 1; turn b c 1;", 2);
        is(x.volume(3), 144);
        x.done("turn c b 1; turn b c 2;", 2);
        is(x.volume(3), 288);
        // from one cube under a hole in a roof: so far in so many times
        for (int place : new int[] {0, 11, 65, 132, 143}) {
            Shop y = new Shop();
            y.allBut(0, place);
            y.done("lay b 5; mask 0; lay d 1;", 3);
            for (int n : new int[] {1, 2, 3, 10, 20}) {
                y.done("turn b c " + n + ";", 1);
                is(y.volume(3), 1 + near(place, 5, n - 1, 1, 5));
                is(y.volume(1), 144);
                y.undo();
            }
            y.done("repeat 9 { turn b c 1; };", 10);
            is(y.volume(3), 1);
        }
    }

    private static void fill() {
        Shop x = new Shop();
        x.done("fill b 0; fill b 1;", 2);
        is(x.volume(2), 0);
        x.done("fill b 2;", 1);
        is(x.volume(2), 144);
        is(x.at(0, 1), 2);
        is(x.at(0, 2), 0);
        x.done("flat 0; fill b 0;", 2);
        is(x.volume(10), 0);
        x.done("fill c 1;", 1);
        is(x.volume(3), 144);
        is(x.at(143, 0), 3);
        x.done("fill d 19;", 1);
        is(x.volume(4), 18 * 144);
        is(x.at(143, 19), 0);
        x.done("fill e 20;", 1);
        is(x.volume(5), 144);
        x.done("fill f 20;", 1);
        is(x.volume(6), 0);
        // not a cave: what was etched away under a roof, but for three far ones, and then closed
        Shop y = new Shop();
        y.only(0, 0);
        y.done("cut a 1; lay b 1; lay c 1; mask 0; cut bc 2; etch b 20; lay d 2;", 7);
        is(y.volume(11), 140);
        y.done("fill e 20;", 1);
        is(y.volume(5), 18 * 144);
        is(y.volume(0), 140);
    }

    private static void flat() {
        Shop x = new Shop();
        x.done("lay b 20; flat 20;", 2);
        is(x.volume(10), 2880);
        x.done("flat 19;", 1);
        is(x.top(0), 18);
        is(x.top(143), 18);
        x.done("flat 19; flat 20;", 2);
        is(x.volume(10), 19 * 144);
        x.done("flat 1;", 1);
        is(x.volume(10), 144);
        is(x.volume(1), 144);
        x.done("flat 0;", 1);
        is(x.volume(10), 0);
        x.done("flat 0; flat 20;", 2);
        is(x.volume(0), 2880);
    }

    private static void drop() {
        Shop x = new Shop();
        x.only(0, 0);
        x.only(1, 1);
        x.done("drop;", 1);
        is(x.volume(10), 144);
        x.done("lay b 20; drop;", 2);
        is(x.volume(10), 2880);
        x.done("flat 1; mask 0; lay b 1; lay c 18; etch b 1;", 5);
        is(x.volume(9), 18);
        x.done("drop;", 1);
        is(x.volume(10), 144);
        x.undo();
        x.done("mask 1; lay d 19; drop;", 3);
        is(x.volume(10), 144 + 18 + 19);
        // nothing is of height 0: all floats
        x.done("flat 1; lay b 1; mask 0; cut ab 2; etch a 20; etch a 2; drop;", 7);
        is(x.volume(10), 0);
        x.done("drop; whole;", 2);
    }

    private static void mask() {
        Shop x = new Shop();
        for (int k = 0; k < 8; k++) {
            x.only(k, k, 100 + k);
        }
        for (int k = 0; k < 8; k++) {
            x.done("mask " + k + "; lay b 1; mask 0" + k + "; lay c 1;", 4);
            is(x.at(k, 1), 2);
            is(x.at(100 + k, 2), 3);
            is(x.volume(2), 2 * (k + 1));
            is(x.volume(3), 2 * (k + 1));
        }
        // the latest one is the mask, not what two have in common
        x.done("mask 0; mask 7; lay d 1;", 3);
        is(x.volume(4), 2);
        is(x.at(7, 3), 4);
        x.fault("mask 8;", 2, 5);
    }

    private static void bare() {
        Shop x = new Shop();
        x.only(0, 0);
        x.done("mask 0; lay b 1; bare; lay c 1;", 4);
        is(x.volume(2), 1);
        is(x.volume(3), 144);
        x.done("bare; bare; lay d 1; mask 1; bare; lay d 1;", 6);
        is(x.volume(4), 288);
    }

    private static void wantHolds(Shop x, String letter, int tens, int compared) {
        String[] signs = {"<", "=", ">"};
        for (int i = 0; i < 3; i++) {
            String text = "bare; want " + letter + " " + signs[i] + " " + tens + ";";
            if (i == compared + 1) {
                x.done(text, 2);
            } else {
                x.fails(text, FAIL_WANT, 6);
            }
        }
    }

    /** Numbers just below, at and above what is wanted. */
    static void wantTimesTen() {
        Shop x = new Shop();
        x.rect(0, 0, 0, 11, 3, true);
        x.rect(0, 0, 4, 0, 4, true);
        x.done("mask 0; lay b 1;", 2);
        is(x.volume(2), 49);
        wantHolds(x, "b", 5, -1);
        x.only(1, 5);
        x.done("mask 1; lay b 1;", 2);
        is(x.volume(2), 50);
        wantHolds(x, "b", 5, 0);
        wantHolds(x, "b", 4, 1);
        wantHolds(x, "b", 6, -1);
        x.done("mask 1; lay b 1;", 2);
        wantHolds(x, "b", 5, 1);
        // none and one
        wantHolds(x, "g", 0, 0);
        wantHolds(x, "g", 1, -1);
        x.done("mask 1; lay g 1;", 2);
        wantHolds(x, "g", 0, 1);
        wantHolds(x, "g", 1, -1);
    }

    private static void want() {
        // 990 is the most that can be wanted
        Shop x = new Shop();
        x.rect(0, 0, 0, 11, 9, true);
        x.rect(0, 0, 10, 5, 10, true);
        x.only(1, 143);
        x.only(2, 0);
        x.done("lay b 6; mask 0; lay b 1;", 3);
        is(x.volume(2), 990);
        wantHolds(x, "b", 99, 0);
        x.done("mask 1; cut b 1;", 2);
        wantHolds(x, "b", 99, -1);
        x.done("mask 1; lay b 1; mask 2; lay b 1;", 4);
        wantHolds(x, "b", 99, 1);
        x.done("lay b 20;", 1);
        wantHolds(x, "b", 99, 1);
        // each stuff by itself
        Shop y = new Shop();
        y.done("flat 0; lay a 1; lay b 2; lay c 3; lay d 4; lay e 2; lay f 5; lay g 3;", 8);
        int[] high = {1, 2, 3, 4, 2, 5, 3};
        for (int i = 0; i < 7; i++) {
            String letter = "" + (char) ('a' + i);
            y.done("want " + letter + " > " + 14 * high[i] + "; want " + letter + " < " + (15 * high[i]) + ";", 2);
            y.fails("want " + letter + " = " + 14 * high[i] + ";", FAIL_WANT, 0);
        }
        y.done("want f = 72;", 1);
        y.fails("want e = 72;", FAIL_WANT, 0);
    }

    private static void whole() {
        Shop x = new Shop();
        x.only(0, 143);
        x.done("whole;", 1);
        x.done("flat 0; whole; lay b 20; whole;", 4);
        x.fails("flat 1; bare; mask 0; lay b 1; lay c 1; etch b 1; whole;", FAIL_WHOLE, 50);
        x.done("flat 1; mask 0; lay b 1; lay c 1; etch b 1; drop; whole;", 7);
        x.fails("mask 0; lay c 1; lay d 1; etch c 1; whole; want a = 0;", FAIL_WHOLE, 36);
        x.fails("mask 0; lay c 1; lay d 1; etch c 1; want b = 0; whole;", FAIL_WANT, 36);
    }

    private static void repeat() {
        Shop x = new Shop();
        x.done("repeat 0 { lay b 1; };", 1);
        is(x.volume(2), 0);
        x.done("repeat 1 { lay b 1; };", 2);
        is(x.volume(2), 144);
        x.done("repeat 9 { lay c 1; };", 10);
        is(x.volume(3), 9 * 144);
        x.done("repeat 9 { repeat 9 { }; };", 10);
        x.done("repeat 9 { repeat 0 { lay d 1; }; };", 10);
        x.done("repeat 0 { repeat 9 { lay d 1; }; lay d 1; };", 1);
        is(x.volume(4), 0);
        x.done("repeat 3 { repeat 3 { lay d 1; }; };", 1 + 3 + 9);
        is(x.volume(4), 9 * 144);
        x.done("flat 0; repeat 2 { repeat 2 { repeat 2 { repeat 2 { lay e 1; }; }; lay f 1; }; }; lay g 1;", 2 + 1 + 2 + 4 + 4 + 8 + 16);
        is(x.volume(5), 16 * 144);
        is(x.volume(6), 4 * 144);
        is(x.at(0, 4), 6);
        is(x.volume(7), 0);
        is(x.at(0, 19), 6);
    }
}
