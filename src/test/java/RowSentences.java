/** The sentences of the promises 1 to 5, of a new object and of rows. */
final class RowSentences extends Held {
    /** Debtor d pays d in the first week: so who() tells an item of 0 to 5. */
    private static final String READER = "f99,0,8;s0,40,99;s1,40,99;s2,40,99;s3,40,99;s4,40,99;s5,40,99;";

    static void all() {
        newObject();
        findings();
        rows();
        row();
        set();
        wraps();
        copy();
        copyRefused();
        drop();
    }

    /** An item of 0 to 5; -1: it is none of these. */
    private static int item(SlateShop x, int row, int i) {
        for (int one = 0; one < 6; one++) {
            int kinds = x.who(one, row, i, 1);
            if (kinds > 0 && (kinds & 2) != 0) {
                return one;
            }
        }
        return -1;
    }

    /** The items from 0 on, as the figures of one number. */
    private static long items(SlateShop x, int row, int n) {
        long all = 0;
        for (int i = 0; i < n; i++) {
            all = all * 10 + item(x, row, i);
        }
        return all;
    }

    /** A shop that tells items; rows 0 and 1 are shorts 1 2 3 4 5, row 2 are bytes, row 3 is of no items. */
    private static SlateShop five() {
        SlateShop x = of(READER);
        x.row(2, 0, 5);
        x.row(3, 1, 0);
        for (int row = 0; row < 2; row++) {
            x.row(row, 1, 5);
            for (int i = 0; i < 5; i++) {
                x.set(row, i, i + 1);
            }
        }
        return x;
    }

    private static void newObject() {
        promise(1);
        sentence("No SHOP.");
        SlateShop x = new SlateShop();
        for (int what = 0; what <= 8; what++) {
            due("count " + what, x.count(what), 0);
        }
        due("no cash", x.shopHas(0), STATE);
        due("no debtor", x.debtor(0, 0), BAD);
        due("no image 0", x.restore(0), STATE);
        due("no image 1", x.restore(1), STATE);
        due("no act", x.undo(), STATE);
        due("no fault", x.fault(), 0);
        due("no finding", x.status(), 0);
        due("no trace", x.trace(0), NONE);
        of(STEADY, 3).image(0);
        due("no shop of another object", new SlateShop().weeks(1), STATE);
        due("no image of another object", new SlateShop().restore(0), STATE);
        term(1, "(none at first)");
        due("no shop", new SlateShop().count(1), 0);
        head("An object is used for at most 512 calls after it has been made");
        SlateShop y = of(STEADY);
        // One for each byte and one to read them are made already.
        for (int call = STEADY.length() + 2; call < 512; call++) {
            y.stop(0, call % 100);
        }
        due("the last of 512 calls", y.stop(0, 0), 511 % 100);
        due("the face: NONE", SlateShop.NONE, NONE);
        due("the face: BAD", SlateShop.BAD, BAD);
        due("the face: STATE", SlateShop.STATE, STATE);
        due("the face: FULL", SlateShop.FULL, FULL);
    }

    private static void findings() {
        promise(2);
        term(0, "Numbers go from 0 on.");
        SlateShop x = of(FIVE);
        due("row 0", x.row(0, 0, 1), 1);
        due("item 0", x.set(0, 0, 1), 1);
        due("no item 1 of one", x.set(0, 1, 1), PLACE);
        due("debtor 0", x.kind(0), 1);
        due("no debtor 5 of five", x.kind(5), BAD);
        term(0, "-1000010 less 1 NULL (a ROW that is missing), 2 PLACE (no such place of a ROW), 3 KIND (a DEBTOR that is"
            + " not that), 4 SIZE (fewer than none), 5 STORE (ROWS of two LANES).");
        x.row(1, 1, 1);
        due("1", x.set(2, 0, 0), -1000011);
        due("1 told", x.status(), 1);
        due("2", x.set(0, 1, 0), -1000012);
        due("2 told", x.status(), 2);
        due("3", x.as(0, 5), -1000013);
        due("3 told", x.status(), 3);
        due("4", x.row(2, 0, -1), -1000014);
        due("4 told", x.status(), 4);
        due("5", x.copy(0, 0, 1, 0, 1), -1000015);
        due("5 told", x.status(), 5);
        term(0, "Refusals are answers, the first of these that fits, but as told: BAD (a number is not as told; there is no"
            + " such thing), STATE (as told), FULL (as told), then FINDINGS, of several the first in time:");
        due("BAD ahead of SIZE", x.row(8, 0, -1), BAD);
        due("BAD ahead of NULL", x.copy(3, 0, 8, 0, 0), BAD);
        due("BAD ahead of FULL", of(CALM, 999).weeks(0), BAD);
        due("BAD ahead of KIND", x.as(0, 6), BAD);
        due("BAD ahead of STATE", x.cross(0, 2), BAD);
        due("BAD ahead of STATE, no image", x.restore(2), BAD);
        due("STATE ahead of BAD, as told", new SlateShop().weeks(0), STATE);
        due("NULL ahead of PLACE", x.set(3, -1, 0), NULL);
        due("NULL ahead of STORE", x.copy(3, 0, 1, 0, 0), NULL);
        due("STORE ahead of PLACE", x.copy(0, -1, 1, 0, 0), STORE);
    }

    private static void rows() {
        promise(2);
        term(1, "ROWS 0 .. 7 are missing (at first),");
        SlateShop x = new SlateShop();
        for (int row = 0; row < 8; row++) {
            due("missing " + row, x.drop(row), NULL);
            due("none is counted", x.count(0), 0);
        }
        for (int row = 0; row < 8; row++) {
            due("made " + row, x.row(row, row % 3, row), row);
            due("counted", x.count(0), row + 1);
        }
        due("made again", x.row(7, 0, 7), 7);
        due("counted once", x.count(0), 8);
        range("row", 0, 7, row -> new SlateShop().row(row, 0, 1));
        term(1, "or have a LANE (0 bytes, 1 shorts, 2 ints)");
        range("lane", 0, 2, lane -> new SlateShop().row(0, lane, 1));
        int[] ofLane = {(byte) 100000, (short) 100000, 100000};
        for (int lane = 0; lane <= 2; lane++) {
            x.row(lane, lane, 1);
            due("lane " + lane, x.set(lane, 0, 100000), ofLane[lane]);
        }
        term(1, "and 0 to 40 ITEMS, 0 at first.");
        due("0 items", x.row(0, 0, 0), 0);
        due("the first of none", x.set(0, 0, 0), PLACE);
        due("40 items", x.row(0, 0, 40), 40);
        due("the last of 40", x.set(0, 39, 1), 1);
        due("none behind the last", x.set(0, 40, 1), PLACE);
        SlateShop y = five();
        y.row(4, 2, 40);
        for (int i : new int[] {0, 12, 24, 28}) {
            due("12 of them are 0 from " + i, y.who(0, 4, i, 12) & 2, 2);
        }
        y.row(0, 1, 5);
        due("0 anew, in place of 1 2 3 4 5", items(y, 0, 5), 0);
        y.drop(1);
        y.row(1, 1, 5);
        due("0 when it is no more missing", items(y, 1, 5), 0);
        y.row(5, 1, 5);
        y.set(5, 4, 3);
        y.row(5, 1, 2);
        y.row(5, 1, 5);
        due("0 where there was no item for a while", item(y, 5, 4), 0);
    }

    private static void row() {
        promise(2);
        sentence("A ROW of a LANE with n ITEMS, in place of what is there: n.");
        SlateShop x = new SlateShop();
        due("of 40", x.row(3, 2, 40), 40);
        due("of 2 in its place", x.row(3, 0, 2), 2);
        due("of the other lane", x.set(3, 1, 256), 0);
        due("no more of it", x.set(3, 2, 0), PLACE);
        due("of 0 in its place", x.row(3, 0, 0), 0);
        due("it has 0", x.drop(3), 0);
        sentence("BAD: ROW, LANE, n above 40; SIZE.");
        bad("n", n -> new SlateShop().row(0, 0, n), 41, MOST);
        due("n 40", new SlateShop().row(0, 0, 40), 40);
        due("n 0", new SlateShop().row(0, 0, 0), 0);
        due("n -1", x.row(0, 0, -1), SIZE);
        due("n least", x.row(0, 0, LEAST), SIZE);
        due("row ahead of size", x.row(-1, 0, -1), BAD);
        due("lane ahead of size", x.row(0, 3, -1), BAD);
        due("lane below 0 ahead of size", x.row(0, -1, LEAST), BAD);
        due("still missing", x.drop(0), NULL);
        refusedRow();
    }

    private static void refusedRow() {
        term(0, "What is refused, or found, changes nothing but status().");
        Seen.stays("row 8", BAD, x -> x.row(8, 0, 3));
        Seen.stays("lane 3", BAD, x -> x.row(0, 3, 3));
        Seen.stays("41 items", BAD, x -> x.row(0, 0, 41));
        Seen.stays("-1 items", SIZE, x -> x.row(0, 0, -1));
        Seen.stays("-1 items of a missing row", SIZE, x -> x.row(5, 0, -1));
        promise(3);
        Seen.stays("item of row 8", BAD, x -> x.set(8, 0, 1));
        Seen.stays("item of a missing row", NULL, x -> x.set(5, 0, 1));
        Seen.stays("item 12 of 12", PLACE, x -> x.set(0, 12, 1));
        promise(4);
        Seen.stays("copy of row 8", BAD, x -> x.copy(8, 0, 0, 0, 1));
        Seen.stays("copy to a missing row", NULL, x -> x.copy(0, 0, 5, 0, 1));
        Seen.stays("copy to another lane", STORE, x -> x.copy(1, 0, 0, 0, 1));
        Seen.stays("copy a place too far", PLACE, x -> x.copy(0, 0, 0, 2, 11));
        promise(5);
        Seen.stays("drop of row 8", BAD, x -> x.drop(8));
        Seen.stays("drop of a missing row", NULL, x -> x.drop(5));
    }

    private static void set() {
        promise(3);
        sentence("ITEM i becomes v, its lowest bits, as many as the LANE has (read with their sign): what it is then.");
        SlateShop x = five();
        due("4", x.set(0, 2, 4), 4);
        due("it becomes so, no other one", items(x, 0, 5), 12445);
        due("of this row alone", items(x, 1, 5), 12345);
        due("what it is, not what it was", x.set(0, 2, 0), 0);
        due("its lowest 16 bits", x.set(0, 0, 65536 + 5), 5);
        due("are what it is then", item(x, 0, 0), 5);
        due("its lowest 8 bits", x.set(2, 0, 256 + 3), 3);
        due("are what it is then", item(x, 2, 0), 3);
        sentence("BAD: ROW; NULL; PLACE.");
        range("row", 0, 7, row -> {
            SlateShop y = new SlateShop();
            y.row(row, 0, 1);
            return y.set(row, 0, 0);
        });
        due("missing", x.set(7, 0, 0), NULL);
        due("missing ahead of place", x.set(7, -1, 0), NULL);
        due("the last", x.set(0, 4, 1), 1);
        for (int i : new int[] {-1, 5, 40, LEAST, MOST}) {
            due("place " + i, x.set(0, i, 0), PLACE);
        }
        due("place 0 of none", x.set(3, 0, 0), PLACE);
    }

    private static void wraps() {
        promise(3);
        term(1, "(0 bytes, 1 shorts, 2 ints)");
        SlateShop x = new SlateShop();
        for (int lane = 0; lane <= 2; lane++) {
            x.row(lane, lane, 1);
        }
        int[][] bytes = {{127, 127}, {128, -128}, {255, -1}, {256, 0}, {-128, -128}, {-129, 127}, {-256, 0},
            {MOST, -1}, {LEAST, 0}, {32767, -1}, {-32641, 127}};
        int[][] shorts = {{127, 127}, {128, 128}, {32767, 32767}, {32768, -32768}, {65535, -1}, {65536, 0},
            {-32768, -32768}, {-32769, 32767}, {-65536, 0}, {MOST, -1}, {LEAST, 0}};
        int[][] ints = {{128, 128}, {32768, 32768}, {65536, 65536}, {MOST, MOST}, {LEAST, LEAST}, {-1, -1}};
        int[][][] lanes = {bytes, shorts, ints};
        for (int lane = 0; lane <= 2; lane++) {
            for (int[] item : lanes[lane]) {
                due("lane " + lane + " of " + item[0], x.set(lane, 0, item[0]), item[1]);
            }
        }
    }

    private static void copy() {
        promise(4);
        sentence("n ITEMS of a from i on come to b from j on, as they were ahead: n.");
        SlateShop x = five();
        due("up over itself", x.copy(0, 0, 0, 1, 4), 4);
        due("as they were", items(x, 0, 5), 11234);
        due("down over itself", x.copy(0, 1, 0, 0, 4), 4);
        due("as they were", items(x, 0, 5), 12344);
        due("onto itself", x.copy(0, 0, 0, 0, 5), 5);
        due("is as it was", items(x, 0, 5), 12344);
        due("to another", x.copy(0, 3, 1, 1, 2), 2);
        due("there", items(x, 1, 5), 14445);
        due("here it stays", items(x, 0, 5), 12344);
        due("none", x.copy(0, 0, 1, 0, 0), 0);
        due("nothing comes", items(x, 1, 5), 14445);
        SlateShop y = five();
        y.row(4, 2, 40);
        y.row(5, 2, 40);
        y.set(4, 0, 5);
        y.set(4, 39, 4);
        due("all 40", y.copy(4, 0, 5, 0, 40), 40);
        due("the first", item(y, 5, 0), 5);
        due("the last", item(y, 5, 39), 4);
    }

    private static void copyRefused() {
        promise(4);
        sentence("BAD: ROWS; NULL; STORE; PLACE (i, j, n below 0, or beyond an end).");
        SlateShop x = five();
        bad("row a", a -> x.copy(a, 0, 0, 0, 0), -1, 8, LEAST, MOST);
        bad("row b", b -> x.copy(0, 0, b, 0, 0), -1, 8, LEAST, MOST);
        due("bad a ahead of a missing b", x.copy(8, 0, 7, 0, 0), BAD);
        due("bad b ahead of a missing a", x.copy(7, 0, -1, 0, 0), BAD);
        due("missing a", x.copy(7, 0, 0, 0, 0), NULL);
        due("missing b", x.copy(0, 0, 7, 0, 0), NULL);
        due("missing both", x.copy(6, 0, 7, 0, 0), NULL);
        due("missing ahead of store", x.copy(7, 0, 2, 0, 0), NULL);
        due("missing ahead of place", x.copy(0, -1, 7, 0, 0), NULL);
        due("two lanes", x.copy(0, 0, 2, 0, 1), STORE);
        due("two lanes, no items", x.copy(0, 0, 2, 0, 0), STORE);
        due("two lanes ahead of place", x.copy(0, -1, 2, 9, -1), STORE);
        due("i -1", x.copy(0, -1, 1, 0, 1), PLACE);
        due("j -1", x.copy(0, 0, 1, -1, 1), PLACE);
        due("n -1", x.copy(0, 0, 1, 0, -1), PLACE);
        due("n -1 behind an item", x.copy(0, 1, 1, 1, -1), PLACE);
        due("to the end of a", x.copy(0, 2, 1, 0, 3), 3);
        due("beyond the end of a", x.copy(0, 3, 1, 0, 3), PLACE);
        due("to the end of b", x.copy(0, 0, 1, 2, 3), 3);
        due("beyond the end of b", x.copy(0, 0, 1, 3, 3), PLACE);
        due("all and one more", x.copy(0, 0, 1, 0, 6), PLACE);
        due("none at both ends", x.copy(0, 5, 1, 5, 0), 0);
        due("none beyond a", x.copy(0, 6, 1, 0, 0), PLACE);
        due("none beyond b", x.copy(0, 0, 1, 6, 0), PLACE);
        due("none of a row of none", x.copy(3, 0, 3, 0, 0), 0);
        due("one of a row of none", x.copy(3, 0, 0, 0, 1), PLACE);
        int[][] wild = {{MOST, 0, 1}, {0, MOST, 1}, {0, 0, MOST}, {1, 1, MOST}, {MOST, MOST, MOST}, {LEAST, 0, 1},
            {0, LEAST, 1}, {0, 0, LEAST}, {LEAST, LEAST, LEAST}, {MOST, 0, LEAST}, {5, 5, MOST}};
        for (int[] w : wild) {
            due("i, j, n " + w[0] + " " + w[1] + " " + w[2], x.copy(0, w[0], 1, w[1], w[2]), PLACE);
        }
    }

    private static void drop() {
        promise(5);
        sentence("A ROW is missing from now on: how many ITEMS it had.");
        SlateShop x = new SlateShop();
        x.row(3, 1, 40);
        x.row(4, 1, 0);
        due("40", x.drop(3), 40);
        due("missing now", x.set(3, 0, 0), NULL);
        due("the other stays", x.count(0), 1);
        due("0", x.drop(4), 0);
        due("none is left", x.count(0), 0);
        due("till it is made", x.row(4, 0, 1), 1);
        sentence("BAD; NULL.");
        bad("row", row -> x.drop(row), -1, 8, LEAST, MOST);
        due("missing once more", x.drop(3), NULL);
        due("never there", x.drop(0), NULL);
        due("never there", x.drop(7), NULL);
    }
}
