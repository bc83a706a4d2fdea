/** Promises 1 to 8: a new mill, and sheets. */
final class SheetTest {
    private SheetTest() {
    }

    static void run(Check check) {
        newMill(check);
        sheet(check);
        put(check);
        at(check);
        lay(check);
        isEven(check);
        pass(check);
        outOf(check);
    }

    private static void newMill(Check check) {
        Deckmill mill = new Deckmill();
        check.refuses("1: no sheet", mill, Check.INDEX, () -> mill.outOf(0));
        check.refuses("1: no pack", mill, Check.INDEX, () -> mill.state(0));
        check.refuses("1: no order", mill, Check.INDEX, () -> mill.isFilled(0));
        check.same("1: no layers", mill.strip(), 0);
        check.same("1: no snap", mill.snap(), 0);
        check.no("1: not opaque", mill.isOpaque());
        check.yes("1: turnable", mill.isTurnable());
        check.same("1: nothing spoiled", mill.spoiled(), 0);
        check.same("1: tolerance", mill.tolerance(0), 10);
        check.same("1: knife", mill.knife(1, 1), 0);
        check.same("1: nothing possible", mill.possible('s'), 0);
        check.same("1: nothing filled", mill.fill(), 0);
        check.yes("1: sound", mill.isSound());
        for (int card = 0; card < 54; card++) {
            check.same("1: plain pile", mill.pile(card, false), 0);
            check.same("1: marked pile", mill.pile(card, true), 0);
        }
    }

    private static void sheet(Check check) {
        Deckmill mill = new Deckmill();
        check.refuses("2: 0 rows", mill, Check.ARGUMENT, () -> mill.sheet(0, 1));
        check.refuses("2: 7 rows", mill, Check.ARGUMENT, () -> mill.sheet(7, 1));
        check.refuses("2: 0 columns", mill, Check.ARGUMENT, () -> mill.sheet(1, 0));
        check.refuses("2: 10 columns", mill, Check.ARGUMENT, () -> mill.sheet(1, 10));
        check.refuses("2: least", mill, Check.ARGUMENT,
                () -> mill.sheet(Integer.MIN_VALUE, Integer.MIN_VALUE));
        check.same("2: first", mill.sheet(1, 1), 0);
        check.same("2: second", mill.sheet(6, 9), 1);
        check.same("2: empty", mill.at(1, 5, 8), -1);
        check.same("2: in register", mill.outOf(1), 0);
        for (int number = 2; number < 6; number++) {
            check.same("2: next", mill.sheet(2, 3), number);
        }
        check.refuses("2: the seventh", mill, Check.STATE, () -> mill.sheet(1, 1));
        check.refuses("2: the seventh, out of range", mill, Check.ARGUMENT, () -> mill.sheet(1, 10));
    }

    private static void put(Check check) {
        Deckmill mill = new Deckmill();
        mill.sheet(2, 3);
        check.same("3: on an empty place", mill.put(0, 1, 2, 53), -1);
        check.same("3: on another card", mill.put(0, 1, 2, 0), 53);
        check.same("3: none", mill.put(0, 1, 2, -1), 0);
        check.same("3: none on none", mill.put(0, 1, 2, -1), -1);
        check.same("3: gone", mill.at(0, 1, 2), -1);
        check.same("3: first place", mill.put(0, 0, 0, 9), -1);
        check.same("3: other places stay", mill.at(0, 0, 1), -1);
        check.refuses("3: row -1", mill, Check.ARGUMENT, () -> mill.put(0, -1, 0, 1));
        check.refuses("3: row 2", mill, Check.ARGUMENT, () -> mill.put(0, 2, 0, 1));
        check.refuses("3: column -1", mill, Check.ARGUMENT, () -> mill.put(0, 0, -1, 1));
        check.refuses("3: column 3", mill, Check.ARGUMENT, () -> mill.put(0, 0, 3, 1));
        check.refuses("3: card -2", mill, Check.ARGUMENT, () -> mill.put(0, 0, 0, -2));
        check.refuses("3: card 54", mill, Check.ARGUMENT, () -> mill.put(0, 0, 0, 54));
        check.refuses("3: sheet -1", mill, Check.INDEX, () -> mill.put(-1, 0, 0, 1));
        check.refuses("3: sheet 1", mill, Check.INDEX, () -> mill.put(1, 0, 0, 1));
        check.refuses("3: sheet 6 and all wrong", mill, Check.INDEX, () -> mill.put(6, -1, 9, 99));
    }

    private static void at(Check check) {
        Deckmill mill = new Deckmill();
        mill.sheet(3, 2);
        mill.lay(0, 10);
        check.same("4: row by row", mill.at(0, 1, 0), 12);
        check.same("4: last", mill.at(0, 2, 1), 15);
        check.refuses("4: row -1", mill, Check.ARGUMENT, () -> mill.at(0, -1, 0));
        check.refuses("4: row 3", mill, Check.ARGUMENT, () -> mill.at(0, 3, 0));
        check.refuses("4: column -1", mill, Check.ARGUMENT, () -> mill.at(0, 1, -1));
        check.refuses("4: column 2", mill, Check.ARGUMENT, () -> mill.at(0, 0, 2));
        check.refuses("4: column of the greatest", mill, Check.ARGUMENT,
                () -> mill.at(0, Integer.MAX_VALUE, Integer.MAX_VALUE));
        check.refuses("4: sheet -1", mill, Check.INDEX, () -> mill.at(-1, 0, 0));
        check.refuses("4: sheet 1, no place", mill, Check.INDEX, () -> mill.at(1, -1, 0));
    }

    private static void lay(Check check) {
        Deckmill mill = new Deckmill();
        mill.sheet(2, 2);
        mill.put(0, 0, 1, 20);
        check.same("5: empty places", mill.lay(0, 52), 3);
        check.same("5: this one", mill.at(0, 0, 0), 52);
        check.same("5: stays", mill.at(0, 0, 1), 20);
        check.same("5: next", mill.at(0, 1, 0), 53);
        check.same("5: 0 behind 53", mill.at(0, 1, 1), 0);
        check.same("5: full", mill.lay(0, 5), 0);
        check.same("5: full sheet stays", mill.at(0, 0, 0), 52);
        check.refuses("5: card -1", mill, Check.ARGUMENT, () -> mill.lay(0, -1));
        check.refuses("5: card 54", mill, Check.ARGUMENT, () -> mill.lay(0, 54));
        check.refuses("5: sheet 1", mill, Check.INDEX, () -> mill.lay(1, 0));
        check.refuses("5: sheet -1, card -1", mill, Check.INDEX, () -> mill.lay(-1, -1));
    }

    private static void isEven(Check check) {
        Deckmill mill = new Deckmill();
        mill.sheet(2, 2);
        check.yes("6: empty", mill.isEven(0));
        mill.put(0, 0, 0, 8);
        check.yes("6: one card", mill.isEven(0));
        mill.put(0, 0, 1, 8);
        check.yes("6: one card twice", mill.isEven(0));
        mill.put(0, 1, 0, 7);
        check.no("6: twice and once", mill.isEven(0));
        mill.put(0, 1, 1, 7);
        check.yes("6: twice each", mill.isEven(0));
        mill.put(0, 1, 1, 53);
        check.no("6: twice, once, once", mill.isEven(0));
        mill.put(0, 0, 0, -1);
        check.yes("6: once each", mill.isEven(0));
        check.refuses("6: sheet 1", mill, Check.INDEX, () -> mill.isEven(1));
        check.refuses("6: sheet -1", mill, Check.INDEX, () -> mill.isEven(-1));
    }

    private static void pass(Check check) {
        Deckmill mill = new Deckmill();
        mill.sheet(1, 1);
        check.same("7: from the others", mill.pass(0, 0, 40, -40), 80);
        check.same("7: greatest sum", mill.pass(0, 3, -40, 40), 160);
        check.same("7: sum of one pair", mill.pass(0, 3, 40, 40), 80);
        check.same("7: again", mill.pass(0, 0, 1, 2), 80);
        check.same("7: back", mill.pass(0, 3, 0, 0), 3);
        check.refuses("7: pass -1", mill, Check.ARGUMENT, () -> mill.pass(0, -1, 9, 9));
        check.refuses("7: pass 4", mill, Check.ARGUMENT, () -> mill.pass(0, 4, 9, 9));
        check.refuses("7: right 41", mill, Check.ARGUMENT, () -> mill.pass(0, 1, 41, 9));
        check.refuses("7: right -41", mill, Check.ARGUMENT, () -> mill.pass(0, 1, -41, 9));
        check.refuses("7: up 41", mill, Check.ARGUMENT, () -> mill.pass(0, 1, 9, 41));
        check.refuses("7: up -41", mill, Check.ARGUMENT, () -> mill.pass(0, 1, 9, -41));
        check.refuses("7: the least", mill, Check.ARGUMENT, () -> mill.pass(0, 1, Integer.MIN_VALUE, 0));
        check.refuses("7: sheet 1", mill, Check.INDEX, () -> mill.pass(1, 0, 0, 0));
        check.refuses("7: sheet -1, pass 4", mill, Check.INDEX, () -> mill.pass(-1, 4, 99, 99));
    }

    private static void outOf(Check check) {
        Deckmill mill = new Deckmill();
        mill.sheet(1, 1);
        mill.sheet(1, 1);
        check.same("8: at first", mill.outOf(0), 0);
        mill.pass(0, 1, 6, -4);
        mill.pass(0, 2, -1, 0);
        check.same("8: between two passes", mill.outOf(0), 11);
        check.same("8: another sheet", mill.outOf(1), 0);
        for (int pass = 0; pass < 4; pass++) {
            mill.pass(1, pass, -7, 12);
        }
        check.same("8: all off alike", mill.outOf(1), 0);
        check.refuses("8: sheet 2", mill, Check.INDEX, () -> mill.outOf(2));
        check.refuses("8: sheet -1", mill, Check.INDEX, () -> mill.outOf(-1));
    }
}
