/** Promises 41 to 44: sums over the mill. */
final class SumTest {
    private SumTest() {
    }

    static void run(Check check) {
        checksum(check);
        plainShare(check);
        meanPrice(check);
        isSound(check);
    }

    private static void checksum(Check check) {
        check.same("41: a new mill", new Deckmill().checksum(), summed(new Deckmill(), 0));
        Deckmill mill = Mills.fair(5);
        check.same("41: piles", mill.checksum(), summed(mill, 0));
        mill.knife(7, 7);
        mill.print(0, 2);
        mill.pulp(50);
        check.same("41: marked ones", mill.checksum(), summed(mill, 0));
        mill.collate('s');
        check.same("41: a pack", mill.checksum(), summed(mill, 1));
        mill.collate('s');
        mill.open(0);
        mill.shuffle(0, false);
        mill.add(0, 53);
        mill.destroy(1);
        check.same("41: an open and a destroyed one", mill.checksum(), summed(mill, 2));
    }

    private static long summed(Deckmill mill, int packs) {
        long sum = 7;
        for (int card = 0; card < 54; card++) {
            sum = sum * 31 + mill.pile(card, false);
            sum = sum * 31 + mill.pile(card, true);
        }
        for (int pack = 0; pack < packs; pack++) {
            sum = sum * 31 + mill.state(pack);
            for (int index = 0; index < mill.cards(pack); index++) {
                sum = sum * 31 + mill.cardAt(pack, index);
            }
        }
        return sum;
    }

    private static void plainShare(Check check) {
        Deckmill none = new Deckmill();
        check.refuses("42: none", none, Check.NONE_SUCH, () -> none.plainShare());
        Deckmill mill = Mills.printed(2);
        check.same("42: plain ones alone", mill.plainShare(), 1.0f);
        mill.knife(0, 20);
        mill.print(0, 1);
        check.same("42: two of three", mill.plainShare(), 108.0f / 162.0f);
        mill.collate('f');
        check.same("42: packs count not", mill.plainShare(), 56.0f / 110.0f);
        mill.collate('j');
        check.same("42: two jokers", mill.plainShare(), 2.0f / 56.0f);
        Deckmill marked = new Deckmill();
        marked.sheet(1, 1);
        marked.lay(0, 0);
        marked.knife(5, 0);
        marked.print(0, 9);
        check.same("42: marked ones alone", marked.plainShare(), 0.0f);
        marked.pulp(0);
        check.refuses("42: none left", marked, Check.NONE_SUCH, () -> marked.plainShare());
    }

    private static void meanPrice(Check check) {
        Deckmill mill = new Deckmill();
        check.refuses("43: none", mill, Check.NONE_SUCH, () -> mill.meanPrice());
        mill.order(0, 'f', 9, 10);
        check.same("43: one", mill.meanPrice(), 10.0);
        mill.order(1, 's', 1, 5);
        check.same("43: each once", mill.meanPrice(), 7.5);
        mill.order(1, 's', 1, 5);
        check.same("43: three", mill.meanPrice(), 20.0 / 3.0);
    }

    private static void isSound(Check check) {
        Deckmill mill = Mills.fair(9);
        check.yes("44: no packs", mill.isSound());
        mill.collate('f');
        mill.collate('s');
        mill.order(0, 'f', 1, 9);
        mill.order(1, 's', 1, 9);
        mill.fill();
        check.yes("44: sold", mill.isSound());
        mill.open(0);
        mill.take(0, 0);
        check.yes("44: an open one that is not fair", mill.isSound());
        mill.destroy(0);
        mill.destroy(1);
        check.yes("44: destroyed ones", mill.isSound());
        mill.strip();
        mill.collate('j');
        check.yes("44: a thin one of none", mill.isSound());
    }
}
