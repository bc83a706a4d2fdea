/** Promises 9 to 14: printing. */
final class PrintTest {
    private PrintTest() {
    }

    static void run(Check check) {
        tolerance(check);
        knife(check);
        print(check);
        knifeMarks(check);
        fullPiles(check);
        fullPileOf(check, 0);
        fullPileOf(check, 53);
        spoiled(check);
        pile(check);
        pulp(check);
    }

    private static void tolerance(Check check) {
        Deckmill mill = new Deckmill();
        check.same("9: at first", mill.tolerance(0), 10);
        check.same("9: least", mill.tolerance(80), 0);
        check.refuses("9: -1", mill, Check.ARGUMENT, () -> mill.tolerance(-1));
        check.refuses("9: 81", mill, Check.ARGUMENT, () -> mill.tolerance(81));
        check.same("9: greatest", mill.tolerance(5), 80);
    }

    private static void knife(Check check) {
        Deckmill mill = new Deckmill();
        check.same("10: at first", mill.knife(-20, 20), 0);
        check.same("10: without signs", mill.knife(20, -20), 40);
        check.refuses("10: right 21", mill, Check.ARGUMENT, () -> mill.knife(21, 0));
        check.refuses("10: right -21", mill, Check.ARGUMENT, () -> mill.knife(-21, 0));
        check.refuses("10: up 21", mill, Check.ARGUMENT, () -> mill.knife(0, 21));
        check.refuses("10: up -21", mill, Check.ARGUMENT, () -> mill.knife(0, -21));
        check.refuses("10: the least", mill, Check.ARGUMENT, () -> mill.knife(0, Integer.MIN_VALUE));
        check.same("10: kept", mill.knife(-1, 0), 40);
        check.same("10: one side", mill.knife(0, 0), 1);
    }

    private static void print(Check check) {
        Deckmill mill = new Deckmill();
        mill.sheet(2, 2);
        check.same("11: an empty sheet", mill.print(0, 99), 0);
        check.same("11: which does not spoil", mill.spoiled(), 0);
        mill.put(0, 0, 0, 5);
        mill.put(0, 1, 1, 5);
        mill.put(0, 1, 0, 53);
        check.same("11: cards", mill.print(0, 3), 9);
        check.same("11: twice on it", mill.pile(5, false), 6);
        check.same("11: once on it", mill.pile(53, false), 3);
        mill.pass(0, 0, 5, 5);
        check.same("11: out of register by the tolerance", mill.print(0, 1), 3);
        mill.pass(0, 0, 5, 6);
        check.same("11: by more", mill.print(0, 1), 0);
        check.same("11: no cards", mill.pile(5, false), 8);
        check.refuses("11: 0 sheets", mill, Check.ARGUMENT, () -> mill.print(0, 0));
        check.refuses("11: 100 sheets", mill, Check.ARGUMENT, () -> mill.print(0, 100));
        check.refuses("11: sheet 1", mill, Check.INDEX, () -> mill.print(1, 1));
        check.refuses("11: sheet -1, 0 sheets", mill, Check.INDEX, () -> mill.print(-1, 0));
    }

    private static void knifeMarks(Check check) {
        check.same("11: right 4, up -4", piledBy(4, -4), "2 plain, 0 marked");
        check.same("11: right -4, up 4", piledBy(-4, 4), "2 plain, 0 marked");
        check.same("11: right 5", piledBy(5, 0), "0 plain, 2 marked");
        check.same("11: right -5", piledBy(-5, 0), "0 plain, 2 marked");
        check.same("11: up 5", piledBy(0, 5), "0 plain, 2 marked");
        check.same("11: up -5", piledBy(0, -5), "0 plain, 2 marked");
    }

    private static String piledBy(int right, int up) {
        Deckmill mill = new Deckmill();
        mill.sheet(1, 1);
        mill.lay(0, 4);
        mill.knife(right, up);
        mill.print(0, 2);
        return mill.pile(4, false) + " plain, " + mill.pile(4, true) + " marked";
    }

    private static void fullPiles(Check check) {
        Deckmill mill = new Deckmill();
        mill.sheet(6, 9);
        for (int place = 0; place < 54; place++) {
            mill.put(0, place / 9, place % 9, 30);
        }
        mill.sheet(1, 2);
        mill.put(1, 0, 0, 2);
        mill.put(1, 0, 1, 30);
        check.same("11: 5346 alike", mill.print(0, 99), 5346);
        mill.knife(9, 0);
        check.same("11: 4644 marked", mill.print(0, 86), 4644);
        check.refuses("11: 10000 in a pile", mill, Check.STATE, () -> mill.print(1, 10));
        check.refuses("11: a full pile, 100 sheets", mill, Check.ARGUMENT, () -> mill.print(1, 100));
        check.refuses("11: a full pile, no sheet", mill, Check.INDEX, () -> mill.print(2, 100));
        check.same("11: 9999 in a pile", mill.print(1, 9), 18);
        check.refuses("11: plain ones too", mill, Check.STATE, () -> mill.print(1, 1));
        check.same("11: the other pile", mill.pile(2, true), 9);
        mill.tolerance(0);
        mill.pass(1, 0, 1, 0);
        check.same("11: a full pile, but they spoil", mill.print(1, 5), 0);
        check.same("11: spoiled then", mill.spoiled(), 5);
    }

    private static void fullPileOf(Check check, int card) {
        Deckmill mill = new Deckmill();
        mill.sheet(6, 9);
        for (int place = 0; place < 54; place++) {
            mill.put(0, place / 9, place % 9, card);
        }
        mill.print(0, 99);
        mill.print(0, 86);
        check.refuses("11: a full pile of card " + card, mill, Check.STATE, () -> mill.print(0, 1));
        check.same("11: kept of card " + card, mill.pile(card, false), 9990);
    }

    private static void spoiled(Check check) {
        Deckmill mill = new Deckmill();
        mill.sheet(1, 1);
        mill.lay(0, 0);
        mill.print(0, 7);
        check.same("12: none", mill.spoiled(), 0);
        mill.tolerance(80);
        mill.pass(0, 0, 40, 40);
        mill.print(0, 7);
        check.same("12: within 80", mill.spoiled(), 0);
        mill.pass(0, 1, -1, 0);
        mill.print(0, 99);
        mill.print(0, 1);
        check.same("12: summed up", mill.spoiled(), 100);
    }

    private static void pile(Check check) {
        Deckmill mill = Mills.printed(3);
        mill.knife(0, -20);
        mill.print(0, 2);
        for (int card = 0; card < 54; card++) {
            check.same("13: plain", mill.pile(card, false), 3);
            check.same("13: marked", mill.pile(card, true), 2);
        }
        check.refuses("13: card -1", mill, Check.ARGUMENT, () -> mill.pile(-1, false));
        check.refuses("13: card 54", mill, Check.ARGUMENT, () -> mill.pile(54, true));
    }

    private static void pulp(Check check) {
        Deckmill mill = Mills.printed(3);
        mill.knife(20, 20);
        mill.print(0, 2);
        check.same("14: marked ones", mill.pulp(53), 2);
        check.same("14: gone", mill.pile(53, true), 0);
        check.same("14: plain ones stay", mill.pile(53, false), 3);
        check.same("14: other piles stay", mill.pile(52, true), 2);
        check.same("14: none left", mill.pulp(53), 0);
        check.refuses("14: card -1", mill, Check.ARGUMENT, () -> mill.pulp(-1));
        check.refuses("14: card 54", mill, Check.ARGUMENT, () -> mill.pulp(54));
    }
}
