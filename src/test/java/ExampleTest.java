/** The first example of the document, call by call. */
final class ExampleTest {
    private ExampleTest() {
    }

    static void run(Check check) {
        Deckmill mill = new Deckmill();
        sheetsAndPrinting(check, mill);
        boardAndPacks(check, mill);
        ordersAndSums(check, mill);
    }

    private static void sheetsAndPrinting(Check check, Deckmill mill) {
        check.same("example: sheet(6, 9)", mill.sheet(6, 9), 0);
        check.same("example: lay(0, 0)", mill.lay(0, 0), 54);
        check.same("example: put(0, 0, 0, 1)", mill.put(0, 0, 0, 1), 0);
        check.same("example: put(0, 0, 0, 0)", mill.put(0, 0, 0, 0), 1);
        check.same("example: at(0, 5, 8)", mill.at(0, 5, 8), 53);
        check.same("example: isEven(0)", mill.isEven(0), true);
        check.same("example: pass(0, 1, 6, -4)", mill.pass(0, 1, 6, -4), 10);
        check.same("example: outOf(0)", mill.outOf(0), 10);
        check.same("example: print(0, 2)", mill.print(0, 2), 108);
        check.same("example: pile(3, false)", mill.pile(3, false), 2);
        check.same("example: tolerance(9)", mill.tolerance(9), 10);
        check.same("example: print(0, 1) spoils", mill.print(0, 1), 0);
        check.same("example: spoiled()", mill.spoiled(), 1);
        check.same("example: tolerance(11)", mill.tolerance(11), 9);
        check.same("example: knife(5, 0)", mill.knife(5, 0), 0);
        check.same("example: print(0, 1)", mill.print(0, 1), 54);
        check.same("example: pulp(3)", mill.pulp(3), 1);
        check.same("example: knife(0, 0)", mill.knife(0, 0), 5);
    }

    private static void boardAndPacks(Check check, Deckmill mill) {
        check.same("example: layer(8, 50, true)", mill.layer(8, 50, true), 8);
        check.same("example: layer(9, 50, false)", mill.layer(9, 50, false), 17);
        check.same("example: snap()", mill.snap(), 1);
        check.same("example: isOpaque()", mill.isOpaque(), true);
        check.same("example: mark(1, 1, 3)", mill.mark(1, 1, 3), 0);
        check.same("example: isTurnable()", mill.isTurnable(), false);
        check.same("example: mark(3, 5, 3)", mill.mark(3, 5, 3), 0);
        check.same("example: possible('f')", mill.possible('f'), 2);
        check.same("example: collate('f')", mill.collate('f'), 0);
        check.refuses("example: lacking('j')", mill, Check.NONE_SUCH, () -> mill.lacking('j'));
        check.same("example: state(0)", mill.state(0), 's');
        check.same("example: wrong(0)", mill.wrong(0), '-');
        check.same("example: cards(0)", mill.cards(0), 52);
    }

    private static void ordersAndSums(Check check, Deckmill mill) {
        check.same("example: order(1, 'f', 1, 7)", mill.order(1, 'f', 1, 7), 0);
        check.same("example: fill()", mill.fill(), 1);
        check.same("example: isFilled(0)", mill.isFilled(0), true);
        check.same("example: house(0)", mill.house(0), 1);
        check.same("example: paid(1)", mill.paid(1), 7);
        check.same("example: open(0)", mill.open(0), true);
        check.same("example: shuffle(0, true)", mill.shuffle(0, true), 0);
        check.same("example: cardAt(0, 1)", mill.cardAt(0, 1), 26);
        check.same("example: cut(0, 5)", mill.cut(0, 5), 28);
        check.same("example: period(0)", mill.period(0), 8);
        check.same("example: take(0, 0)", mill.take(0, 0), 28);
        check.same("example: wrong(0) then", mill.wrong(0), 'm');
        check.same("example: add(0, 6)", mill.add(0, 6), 52);
        check.refuses("example: seal(0)", mill, Check.UNSUPPORTED, () -> mill.seal(0));
        check.same("example: destroy(0)", mill.destroy(0), 1);
        check.same("example: strip()", mill.strip(), 2);
        check.same("example: meanPrice()", mill.meanPrice(), 7.0);
        check.same("example: plainShare()", mill.plainShare(), 0.51376146f);
        check.same("example: checksum()", mill.checksum(), 8468290213234225742L);
        check.same("example: isSound()", mill.isSound(), true);
    }
}
