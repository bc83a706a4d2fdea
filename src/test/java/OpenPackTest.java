/** Promises 28 to 35: what is done with one pack. */
final class OpenPackTest {
    private OpenPackTest() {
    }

    static void run(Check check) {
        open(check);
        seal(check);
        sealRefused(check);
        take(check);
        add(check);
        shuffle(check);
        shuffleSmall(check);
        cut(check);
        period(check);
        destroy(check);
    }

    private static void open(Check check) {
        Deckmill mill = Mills.fair(3);
        mill.collate('s');
        mill.collate('s');
        mill.order(3, 's', 1, 1);
        mill.fill();
        check.yes("28: of a house", mill.open(0));
        check.same("28: it stays of it", mill.house(0), 3);
        check.no("28: of none", mill.open(1));
        check.refuses("28: an open one", mill, Check.UNSUPPORTED, () -> mill.open(0));
        mill.destroy(1);
        check.refuses("28: a destroyed one", mill, Check.UNSUPPORTED, () -> mill.open(1));
        check.refuses("28: pack 2", mill, Check.INDEX, () -> mill.open(2));
        check.refuses("28: pack -1", mill, Check.INDEX, () -> mill.open(-1));
        mill.seal(0);
        check.no("28: again, of none then", mill.open(0));
    }

    private static void seal(Check check) {
        Deckmill mill = Mills.fair(2);
        mill.collate('s');
        mill.collate('s');
        mill.order(0, 's', 1, 1);
        mill.fill();
        mill.open(0);
        mill.open(1);
        mill.shuffle(0, true);
        check.yes("29: was of a house", mill.seal(0));
        check.refuses("29: of none then", mill, Check.NONE_SUCH, () -> mill.house(0));
        check.no("29: was of none", mill.seal(1));
        check.same("29: the first card stays", mill.cardAt(0, 1), 31);
        mill.order(2, 's', 2, 5);
        check.same("29: open to orders", mill.fill(), 1);
        check.same("29: of another house", mill.house(0), 2);
        mill.open(0);
        check.refuses("29: once", mill, Check.UNSUPPORTED, () -> mill.seal(0));
    }

    private static void sealRefused(Check check) {
        Deckmill mill = Mills.fair(4);
        mill.collate('s');
        check.refuses("29: a sealed one", mill, Check.UNSUPPORTED, () -> mill.seal(0));
        mill.open(0);
        int card = mill.take(0, 0);
        check.refuses("29: a card is missing", mill, Check.UNSUPPORTED, () -> mill.seal(0));
        mill.add(0, card);
        mill.add(0, card);
        check.refuses("29: a card is twice there", mill, Check.UNSUPPORTED, () -> mill.seal(0));
        mill.take(0, 32);
        mill.add(0, 53);
        check.refuses("29: a foreign card", mill, Check.UNSUPPORTED, () -> mill.seal(0));
        mill.take(0, 32);
        check.no("29: fair after all", mill.seal(0));
        mill.destroy(0);
        check.refuses("29: a destroyed one", mill, Check.UNSUPPORTED, () -> mill.seal(0));
        mill.strip();
        mill.collate('s');
        mill.open(1);
        check.refuses("29: a thin one", mill, Check.UNSUPPORTED, () -> mill.seal(1));
        check.refuses("29: pack 2", mill, Check.INDEX, () -> mill.seal(2));
        check.refuses("29: pack -1", mill, Check.INDEX, () -> mill.seal(-1));
    }

    private static void take(Check check) {
        Deckmill mill = Mills.openedWith(4);
        check.same("30: before", Mills.cardsOf(mill, 0), "5 6 7 8");
        check.same("30: from within", mill.take(0, 1), 6);
        check.same("30: the others", Mills.cardsOf(mill, 0), "5 7 8");
        check.same("30: the last", mill.take(0, 2), 8);
        check.same("30: the first", mill.take(0, 0), 5);
        check.refuses("30: place 1", mill, Check.NONE_SUCH, () -> mill.take(0, 1));
        check.refuses("30: place -1", mill, Check.NONE_SUCH, () -> mill.take(0, -1));
        check.same("30: one left", mill.take(0, 0), 7);
        check.refuses("30: none left", mill, Check.NONE_SUCH, () -> mill.take(0, 0));
        check.same("30: it goes to no pile", mill.pile(7, false), 19);
        mill.collate('s');
        check.refuses("30: a sealed one", mill, Check.UNSUPPORTED, () -> mill.take(1, 0));
        check.refuses("30: a sealed one, place 99", mill, Check.UNSUPPORTED, () -> mill.take(1, 99));
        check.refuses("30: pack 2, place 99", mill, Check.INDEX, () -> mill.take(2, 99));
        mill.destroy(0);
        check.refuses("30: a destroyed one", mill, Check.UNSUPPORTED, () -> mill.take(0, 0));
    }

    private static void add(Check check) {
        Deckmill mill = Mills.opened('j');
        for (int many = 55; many <= 60; many++) {
            check.same("31: how many", mill.add(0, many % 54), many);
        }
        check.same("31: at its end", mill.cardAt(0, 59), 6);
        check.refuses("31: 61 cards", mill, Check.STATE, () -> mill.add(0, 0));
        check.refuses("31: 61 cards, card 54", mill, Check.ARGUMENT, () -> mill.add(0, 54));
        check.refuses("31: card -1", mill, Check.ARGUMENT, () -> mill.add(0, -1));
        check.same("31: from no pile", mill.pile(6, false), 19);
        mill.destroy(0);
        check.refuses("31: a full one, destroyed", mill, Check.UNSUPPORTED, () -> mill.add(0, 0));
        mill.collate('s');
        check.refuses("31: a sealed one", mill, Check.UNSUPPORTED, () -> mill.add(1, 53));
        check.refuses("31: a sealed one, card 54", mill, Check.ARGUMENT, () -> mill.add(1, 54));
        check.refuses("31: pack 2, card 54", mill, Check.INDEX, () -> mill.add(2, 54));
        check.refuses("31: pack -1", mill, Check.INDEX, () -> mill.add(-1, 0));
    }

    private static void shuffle(Check check) {
        Deckmill mill = Mills.openedWith(6);
        check.same("32: outer", mill.shuffle(0, true), 5);
        check.same("32: outer, in turn", Mills.cardsOf(mill, 0), "5 8 6 9 7 10");
        check.same("32: inner", mill.shuffle(0, false), 9);
        check.same("32: inner, in turn", Mills.cardsOf(mill, 0), "9 5 7 8 10 6");
        mill.collate('s');
        check.refuses("32: a sealed one", mill, Check.UNSUPPORTED, () -> mill.shuffle(1, true));
        mill.destroy(1);
        check.refuses("32: a destroyed one", mill, Check.UNSUPPORTED, () -> mill.shuffle(1, false));
        check.refuses("32: pack 2", mill, Check.INDEX, () -> mill.shuffle(2, true));
        check.refuses("32: pack -1", mill, Check.INDEX, () -> mill.shuffle(-1, true));
    }

    private static void shuffleSmall(Check check) {
        Deckmill mill = Mills.openedWith(5);
        check.same("32: five, outer", mill.shuffle(0, true), 5);
        check.same("32: the odd one is upper", Mills.cardsOf(mill, 0), "5 8 6 9 7");
        check.same("32: five, inner", mill.shuffle(0, false), 9);
        check.same("32: what is left is behind", Mills.cardsOf(mill, 0), "9 5 7 8 6");
        while (mill.cards(0) > 2) {
            mill.take(0, 2);
        }
        check.same("32: two, outer", mill.shuffle(0, true), 9);
        check.same("32: two, inner", mill.shuffle(0, false), 5);
        mill.take(0, 0);
        check.same("32: one, inner", mill.shuffle(0, false), 9);
        check.same("32: one, outer", mill.shuffle(0, true), 9);
        check.same("32: it is still one", Mills.cardsOf(mill, 0), "9");
        mill.take(0, 0);
        check.refuses("32: no cards", mill, Check.UNSUPPORTED, () -> mill.shuffle(0, true));

        Deckmill full = Mills.opened('j');
        for (int card = 0; card < 6; card++) {
            full.add(0, card);
        }
        check.same("32: sixty, inner", full.shuffle(0, false), 30);
        check.same("32: the last of sixty", full.cardAt(0, 59), 29);
    }

    private static void cut(Check check) {
        Deckmill mill = Mills.openedWith(5);
        check.same("33: two", mill.cut(0, 2), 7);
        check.same("33: two at the end", Mills.cardsOf(mill, 0), "7 8 9 5 6");
        check.same("33: none", mill.cut(0, 0), 7);
        check.same("33: all", mill.cut(0, 5), 7);
        check.same("33: as it was", Mills.cardsOf(mill, 0), "7 8 9 5 6");
        check.same("33: all but one", mill.cut(0, 4), 6);
        check.refuses("33: more than all", mill, Check.ARGUMENT, () -> mill.cut(0, 6));
        check.refuses("33: -1", mill, Check.ARGUMENT, () -> mill.cut(0, -1));
        mill.collate('s');
        check.refuses("33: a sealed one", mill, Check.UNSUPPORTED, () -> mill.cut(1, 32));
        check.refuses("33: a sealed one, 33", mill, Check.ARGUMENT, () -> mill.cut(1, 33));
        check.refuses("33: pack 2, -1", mill, Check.INDEX, () -> mill.cut(2, -1));
        check.refuses("33: pack -1", mill, Check.INDEX, () -> mill.cut(-1, 0));
        while (mill.cards(0) > 0) {
            mill.take(0, 0);
        }
        check.refuses("33: no cards", mill, Check.UNSUPPORTED, () -> mill.cut(0, 0));
        check.refuses("33: one of no cards", mill, Check.ARGUMENT, () -> mill.cut(0, 1));
    }

    private static void period(Check check) {
        Deckmill mill = Mills.fair(3);
        mill.collate('f');
        mill.collate('j');
        mill.collate('s');
        check.same("34: full", mill.period(0), 8);
        check.same("34: with jokers", mill.period(1), 52);
        check.same("34: short", mill.period(2), 5);
        check.same("34: nothing moved", mill.cardAt(2, 1), 6);
        mill.open(0);
        mill.cut(0, 11);
        check.same("34: in any order", mill.period(0), 8);
        mill.take(0, 3);
        check.same("34: 51", mill.period(0), 8);
        mill.destroy(1);
        check.same("34: a destroyed one", mill.period(1), 52);
        check.refuses("34: pack 3", mill, Check.INDEX, () -> mill.period(3));
        check.refuses("34: pack -1", mill, Check.INDEX, () -> mill.period(-1));
        periodBySize(check);
        periodOfLikeCards(check);
    }

    private static void periodBySize(Check check) {
        Deckmill mill = Mills.opened('j');
        while (mill.cards(0) < 60) {
            mill.take(0, 0);
            mill.add(0, 53);
            mill.add(0, mill.cards(0) % 54);
        }
        check.yes("34: sixty come back", mill.period(0) <= 58);
        Deckmill small = Mills.openedWith(10);
        check.same("34: ten", small.period(0), 6);
        int[] due = {1, 1, 1, 2, 2, 4, 4, 3, 3, 6};
        for (int size = 9; size >= 0; size--) {
            small.take(0, 0);
            check.same("34: of so many cards: " + size, small.period(0), due[size]);
        }
    }

    private static void periodOfLikeCards(Check check) {
        Deckmill mill = Mills.openedWith(0);
        for (int many = 0; many < 6; many++) {
            mill.add(0, 9);
        }
        check.same("34: all alike", mill.period(0), 1);
        mill.take(0, 0);
        mill.take(0, 0);
        mill.add(0, 10);
        mill.add(0, 9);
        // 9 9 9 9 10 9: of the four places that change, one has the 10.
        check.same("34: one of six is unlike", mill.period(0), 4);
        mill.take(0, 4);
        mill.add(0, 10);
        check.same("34: the last alone is unlike", mill.period(0), 1);
    }

    private static void destroy(Check check) {
        Deckmill mill = Mills.fair(9);
        mill.collate('s');
        mill.collate('s');
        mill.collate('s');
        mill.order(1, 's', 1, 4);
        mill.fill();
        check.same("35: of a house", mill.destroy(0), 1);
        check.same("35: still of it", mill.house(0), 1);
        check.refuses("35: again", mill, Check.UNSUPPORTED, () -> mill.destroy(0));
        mill.open(2);
        check.same("35: an open one", mill.destroy(2), 2);
        check.refuses("35: pack 3", mill, Check.INDEX, () -> mill.destroy(3));
        check.refuses("35: pack -1", mill, Check.INDEX, () -> mill.destroy(-1));
        mill.order(1, 's', 2, 4);
        check.same("35: it fills no order", mill.fill(), 0);
        check.same("35: a sealed one of none", mill.destroy(1), 3);
    }
}
