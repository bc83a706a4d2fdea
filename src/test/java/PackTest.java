/** Promises 21 to 27: packs, and what is wrong with them. */
final class PackTest {
    private static final String SHORT = "5 6 7 8 9 10 11 12 18 19 20 21 22 23 24 25 "
            + "31 32 33 34 35 36 37 38 44 45 46 47 48 49 50 51";

    private PackTest() {
    }

    static void run(Check check) {
        collate(check);
        collateRefused(check);
        lacking(check);
        possible(check);
        state(check);
        wrongOfBack(check);
        wrongOfCards(check);
        cards(check);
        cardAt(check);
    }

    private static void collate(Check check) {
        Deckmill mill = Mills.fair(3);
        check.same("21: full", mill.collate('f'), 0);
        check.same("21: with jokers", mill.collate('j'), 1);
        check.same("21: short", mill.collate('s'), 2);
        check.same("21: cards of full", mill.cards(0), 52);
        check.same("21: last of full", mill.cardAt(0, 51), 51);
        check.same("21: cards with jokers", mill.cards(1), 54);
        check.same("21: last with jokers", mill.cardAt(1, 53), 53);
        check.same("21: cards of short", Mills.cardsOf(mill, 2), SHORT);
        check.same("21: left of rank 4", mill.pile(4, false), 1);
        check.same("21: left of rank 5", mill.pile(5, false), 0);
        check.same("21: left of jokers", mill.pile(52, false), 2);
    }

    private static void collateRefused(Check check) {
        Deckmill mill = Mills.fair(12);
        check.refuses("21: no kind", mill, Check.ARGUMENT, () -> mill.collate('F'));
        check.refuses("21: kind 0", mill, Check.ARGUMENT, () -> mill.collate((char) 0));
        for (int pack = 0; pack < 11; pack++) {
            mill.collate('j');
        }
        check.same("21: the twelfth", mill.collate('s'), 11);
        check.refuses("21: the thirteenth, nothing left", mill, Check.UNSUPPORTED, () -> mill.collate('s'));
        mill.print(0, 1);
        check.refuses("21: the thirteenth", mill, Check.STATE, () -> mill.collate('s'));
        check.refuses("21: the thirteenth, no kind", mill, Check.ARGUMENT, () -> mill.collate('x'));

        Deckmill marked = new Deckmill();
        marked.sheet(6, 9);
        marked.lay(0, 0);
        marked.knife(5, 0);
        marked.print(0, 9);
        check.refuses("21: marked ones alone", marked, Check.UNSUPPORTED, () -> marked.collate('s'));
    }

    private static void lacking(Check check) {
        Deckmill mill = new Deckmill();
        check.same("22: full", mill.lacking('f'), 0);
        check.same("22: short", mill.lacking('s'), 5);
        mill.sheet(6, 9);
        mill.lay(0, 0);
        mill.put(0, 1, 8, -1);
        mill.put(0, 5, 7, -1);
        mill.print(0, 1);
        check.same("22: 17 for full", mill.lacking('f'), 17);
        check.refuses("22: none for short", mill, Check.NONE_SUCH, () -> mill.lacking('s'));
        mill.put(0, 1, 8, 17);
        mill.print(0, 1);
        check.same("22: a joker", mill.lacking('j'), 52);
        check.refuses("22: none for full", mill, Check.NONE_SUCH, () -> mill.lacking('f'));
        check.refuses("22: no kind", mill, Check.ARGUMENT, () -> mill.lacking('d'));
        mill.put(0, 5, 7, 52);
        mill.knife(0, 5);
        mill.print(0, 1);
        check.same("22: marked ones count not", mill.lacking('j'), 52);
    }

    private static void possible(Check check) {
        Deckmill mill = Mills.printed(40);
        check.same("23: more than 12", mill.possible('j'), 40);
        mill.collate('j');
        mill.collate('f');
        mill.collate('s');
        check.same("23: full", mill.possible('f'), 37);
        check.same("23: short", mill.possible('s'), 37);
        mill.put(0, 0, 0, -1);
        mill.put(0, 5, 7, -1);
        mill.print(0, 5);
        check.same("23: the fewest of full", mill.possible('f'), 38);
        check.same("23: the fewest with jokers", mill.possible('j'), 38);
        check.same("23: the fewest of short", mill.possible('s'), 42);
        mill.knife(20, 0);
        mill.print(0, 9);
        check.same("23: marked ones count not", mill.possible('s'), 42);
        check.refuses("23: no kind", mill, Check.ARGUMENT, () -> mill.possible('J'));
        check.same("23: none", new Deckmill().possible('f'), 0);
    }

    private static void state(Check check) {
        Deckmill mill = Mills.fair(2);
        mill.collate('s');
        mill.collate('s');
        check.same("24: sealed", mill.state(0), 's');
        mill.open(0);
        check.same("24: open", mill.state(0), 'o');
        mill.seal(0);
        check.same("24: sealed again", mill.state(0), 's');
        mill.destroy(0);
        check.same("24: destroyed", mill.state(0), 'd');
        check.same("24: another one", mill.state(1), 's');
        check.refuses("24: pack 2", mill, Check.INDEX, () -> mill.state(2));
        check.refuses("24: pack -1", mill, Check.INDEX, () -> mill.state(-1));
        check.refuses("24: pack 12", mill, Check.INDEX, () -> mill.state(12));
    }

    private static void wrongOfBack(Check check) {
        Deckmill mill = Mills.printed(9);
        mill.collate('s');
        check.same("25: thin", mill.wrong(0), 't');
        mill.mark(0, 0, 1);
        mill.collate('s');
        check.same("25: one-way and thin", mill.wrong(1), 'w');
        mill.layer(1, 60, true);
        mill.layer(1, 60, true);
        mill.collate('s');
        check.same("25: one-way", mill.wrong(2), 'w');
        mill.mark(0, 0, 0);
        mill.collate('s');
        check.same("25: fair", mill.wrong(3), '-');
        check.same("25: thin as it was then", mill.wrong(0), 't');
        check.same("25: one-way as it was then", mill.wrong(2), 'w');
        mill.strip();
        mill.mark(0, 0, 1);
        check.same("25: fair as it was then", mill.wrong(3), '-');
        mill.open(1);
        mill.take(1, 0);
        check.same("25: missing before one-way", mill.wrong(1), 'm');
        check.refuses("25: pack 4", mill, Check.INDEX, () -> mill.wrong(4));
        check.refuses("25: pack -1", mill, Check.INDEX, () -> mill.wrong(-1));
    }

    private static void wrongOfCards(Check check) {
        Deckmill mill = Mills.opened('f');
        mill.add(0, 52);
        check.same("25: foreign", mill.wrong(0), 'x');
        mill.add(0, 51);
        check.same("25: twice before foreign", mill.wrong(0), 'd');
        mill.take(0, 0);
        check.same("25: missing before twice", mill.wrong(0), 'm');
        mill.add(0, 0);
        mill.take(0, 52);
        check.same("25: foreign again", mill.wrong(0), 'x');
        mill.add(0, 52);
        check.same("25: a foreign one twice", mill.wrong(0), 'd');
        mill.take(0, 53);
        mill.take(0, 51);
        check.same("25: fair in another order", mill.wrong(0), '-');

        Deckmill kinds = Mills.fair(2);
        kinds.collate('s');
        kinds.collate('j');
        kinds.open(0);
        kinds.add(0, 4);
        check.same("25: rank 4 in a short one", kinds.wrong(0), 'x');
        kinds.open(1);
        kinds.take(1, 53);
        check.same("25: a joker is missing", kinds.wrong(1), 'm');
        kinds.destroy(1);
        check.same("25: of a destroyed one", kinds.wrong(1), 'm');
    }

    private static void cards(Check check) {
        Deckmill mill = Mills.opened('s');
        check.same("26: short", mill.cards(0), 32);
        mill.take(0, 3);
        check.same("26: one less", mill.cards(0), 31);
        mill.destroy(0);
        check.same("26: a destroyed one", mill.cards(0), 31);
        check.refuses("26: pack 1", mill, Check.INDEX, () -> mill.cards(1));
        check.refuses("26: pack -1", mill, Check.INDEX, () -> mill.cards(-1));
    }

    private static void cardAt(Check check) {
        Deckmill mill = Mills.fair(1);
        mill.collate('s');
        check.same("27: of a sealed one", mill.cardAt(0, 8), 18);
        check.same("27: the last", mill.cardAt(0, 31), 51);
        check.refuses("27: place 32", mill, Check.NONE_SUCH, () -> mill.cardAt(0, 32));
        check.refuses("27: place 60", mill, Check.NONE_SUCH, () -> mill.cardAt(0, 60));
        check.refuses("27: place -1", mill, Check.NONE_SUCH, () -> mill.cardAt(0, -1));
        check.refuses("27: pack 1", mill, Check.INDEX, () -> mill.cardAt(1, 0));
        check.refuses("27: pack -1, place -1", mill, Check.INDEX, () -> mill.cardAt(-1, -1));
        mill.destroy(0);
        check.same("27: of a destroyed one", mill.cardAt(0, 0), 5);
    }
}
