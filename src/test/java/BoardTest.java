/** Promises 15 to 20: the board and the back. */
final class BoardTest {
    private BoardTest() {
    }

    static void run(Check check) {
        layer(check);
        strip(check);
        snap(check);
        isOpaque(check);
        mark(check);
        isTurnable(check);
    }

    private static void layer(Check check) {
        Deckmill mill = new Deckmill();
        check.same("15: least", mill.layer(1, 0, true), 1);
        check.same("15: greatest", mill.layer(20, 60, true), 21);
        check.refuses("15: thickness 0", mill, Check.ARGUMENT, () -> mill.layer(0, 0, false));
        check.refuses("15: thickness 21", mill, Check.ARGUMENT, () -> mill.layer(21, 0, false));
        check.refuses("15: opacity -1", mill, Check.ARGUMENT, () -> mill.layer(1, -1, false));
        check.refuses("15: opacity 61", mill, Check.ARGUMENT, () -> mill.layer(1, 61, false));
        mill.layer(2, 0, true);
        mill.layer(3, 0, true);
        check.same("15: the fifth", mill.layer(4, 39, true), 30);
        check.refuses("15: the sixth", mill, Check.STATE, () -> mill.layer(1, 1, false));
        check.refuses("15: the sixth, thickness 21", mill, Check.ARGUMENT, () -> mill.layer(21, 1, false));
        check.same("15: five stay", mill.strip(), 5);
    }

    private static void strip(Check check) {
        Deckmill mill = new Deckmill();
        check.same("16: none", mill.strip(), 0);
        mill.layer(5, 60, true);
        mill.layer(5, 60, false);
        check.same("16: two", mill.strip(), 2);
        check.same("16: no more", mill.strip(), 0);
        check.no("16: not opaque", mill.isOpaque());
        check.same("16: no snap", mill.snap(), 0);
        check.same("16: thickness from new", mill.layer(3, 60, true), 3);
        check.same("16: no snap with one that is gone", mill.snap(), 0);
        check.no("16: opacity from new", mill.isOpaque());
        mill.layer(3, 39, true);
        check.no("16: 99 from new", mill.isOpaque());
    }

    private static void snap(Check check) {
        Deckmill mill = new Deckmill();
        check.same("17: no layers", mill.snap(), 0);
        mill.layer(1, 1, false);
        check.same("17: one across", mill.snap(), 0);
        mill.layer(1, 1, true);
        check.same("17: across, along", mill.snap(), 1);
        mill.layer(1, 1, true);
        check.same("17: along beside along", mill.snap(), 1);
        mill.layer(1, 1, false);
        mill.layer(1, 1, true);
        check.same("17: five layers", mill.snap(), 3);
    }

    private static void isOpaque(Check check) {
        Deckmill mill = new Deckmill();
        mill.layer(1, 60, true);
        mill.layer(1, 39, true);
        check.no("18: 99", mill.isOpaque());
        mill.layer(20, 0, true);
        check.no("18: thickness counts not", mill.isOpaque());
        mill.layer(1, 1, true);
        check.yes("18: 100", mill.isOpaque());
        mill.layer(1, 60, true);
        check.yes("18: 160", mill.isOpaque());
    }

    private static void mark(Check check) {
        Deckmill mill = new Deckmill();
        check.same("19: at first", mill.mark(0, 0, 9), 0);
        check.same("19: before", mill.mark(0, 0, 4), 9);
        check.same("19: the same row", mill.mark(4, 0, 1), 0);
        check.same("19: the next row", mill.mark(0, 1, 2), 0);
        check.same("19: the last", mill.mark(4, 6, 3), 0);
        check.same("19: the first stays", mill.mark(0, 0, 0), 4);
        check.same("19: the last stays", mill.mark(4, 6, 0), 3);
        check.refuses("19: column -1", mill, Check.ARGUMENT, () -> mill.mark(-1, 1, 5));
        check.refuses("19: column 5", mill, Check.ARGUMENT, () -> mill.mark(5, 0, 5));
        check.refuses("19: row -1", mill, Check.ARGUMENT, () -> mill.mark(0, -1, 5));
        check.refuses("19: row 7", mill, Check.ARGUMENT, () -> mill.mark(0, 7, 5));
        check.refuses("19: mark -1", mill, Check.ARGUMENT, () -> mill.mark(2, 3, -1));
        check.refuses("19: mark 10", mill, Check.ARGUMENT, () -> mill.mark(2, 3, 10));
    }

    private static void isTurnable(Check check) {
        Deckmill mill = new Deckmill();
        mill.mark(2, 3, 7);
        check.yes("20: the middle", mill.isTurnable());
        for (int row = 0; row < 7; row++) {
            for (int column = 0; column < 5; column++) {
                if (row == 3 && column == 2) {
                    continue;
                }
                mill.mark(column, row, 5);
                check.no("20: one alone", mill.isTurnable());
                mill.mark(4 - column, 6 - row, 5);
                check.yes("20: and its like", mill.isTurnable());
                mill.mark(4 - column, 6 - row, 0);
                mill.mark(column, row, 0);
            }
        }
        mill.mark(0, 0, 5);
        mill.mark(4, 0, 5);
        check.no("20: a mirror is no turn", mill.isTurnable());
    }
}
