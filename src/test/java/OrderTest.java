/** Promises 36 to 40: orders and houses. */
final class OrderTest {
    private OrderTest() {
    }

    static void run(Check check) {
        order(check);
        fillByPrice(check);
        fillByNumber(check);
        fillWithFairPacks(check);
        isFilled(check);
        house(check);
        paid(check);
    }

    private static void order(Check check) {
        Deckmill mill = new Deckmill();
        check.same("36: least", mill.order(0, 'f', 1, 1), 0);
        check.same("36: greatest", mill.order(3, 'j', 9, 99), 1);
        check.refuses("36: no kind", mill, Check.ARGUMENT, () -> mill.order(0, 'o', 1, 1));
        check.refuses("36: house -1", mill, Check.ARGUMENT, () -> mill.order(-1, 'f', 1, 1));
        check.refuses("36: house 4", mill, Check.ARGUMENT, () -> mill.order(4, 'f', 1, 1));
        check.refuses("36: 0 packs", mill, Check.ARGUMENT, () -> mill.order(0, 'f', 0, 1));
        check.refuses("36: 10 packs", mill, Check.ARGUMENT, () -> mill.order(0, 'f', 10, 1));
        check.refuses("36: price 0", mill, Check.ARGUMENT, () -> mill.order(0, 'f', 1, 0));
        check.refuses("36: price 100", mill, Check.ARGUMENT, () -> mill.order(0, 'f', 1, 100));
        for (int number = 2; number < 12; number++) {
            check.same("36: next", mill.order(1, 's', 2, 3), number);
        }
        check.refuses("36: the thirteenth", mill, Check.STATE, () -> mill.order(1, 's', 2, 3));
        check.refuses("36: the thirteenth, price 0", mill, Check.ARGUMENT, () -> mill.order(1, 's', 2, 0));
        check.same("36: not paid before", mill.paid(1), 0);
    }

    private static void fillByPrice(Check check) {
        Deckmill mill = Mills.fair(20);
        collate(mill, 's', 3);
        mill.collate('f');
        mill.order(0, 's', 1, 5);
        mill.order(1, 's', 4, 99);
        mill.order(2, 's', 2, 7);
        mill.order(3, 's', 1, 5);
        mill.order(0, 'f', 1, 1);
        check.same("37: three are filled", mill.fill(), 3);
        check.no("37: one too great is passed by", mill.isFilled(1));
        check.yes("37: the greatest price", mill.isFilled(2));
        check.yes("37: of like ones the lowest number", mill.isFilled(0));
        check.no("37: the other one", mill.isFilled(3));
        check.yes("37: of another kind", mill.isFilled(4));
        check.same("37: the lowest pack", mill.house(0), 2);
        check.same("37: the next pack", mill.house(1), 2);
        check.same("37: the last pack", mill.house(2), 0);
        check.same("37: the full pack", mill.house(3), 0);
        check.same("37: nothing more", mill.fill(), 0);
        check.same("37: paid at once alone", mill.paid(2), 14);
        mill.collate('s');
        check.same("37: later", mill.fill(), 1);
        check.same("37: the one that waited", mill.house(4), 3);
    }

    private static void fillByNumber(Check check) {
        Deckmill mill = Mills.fair(20);
        collate(mill, 'j', 9);
        mill.order(2, 'j', 1, 99);
        mill.order(1, 'j', 9, 99);
        check.same("37: the lowest number", mill.fill(), 1);
        check.no("37: eight are not nine", mill.isFilled(1));
        check.refuses("37: no more than it wants", mill, Check.NONE_SUCH, () -> mill.house(1));
        mill.collate('j');
        check.same("37: nine", mill.fill(), 1);
        check.same("37: the last of nine", mill.house(9), 1);
        check.same("37: nine are paid", mill.paid(1), 891);
    }

    private static void fillWithFairPacks(Check check) {
        Deckmill mill = Mills.printed(20);
        mill.collate('s');
        mill.layer(1, 60, true);
        mill.layer(1, 60, true);
        mill.mark(0, 0, 1);
        mill.collate('s');
        mill.mark(0, 0, 0);
        collate(mill, 's', 4);
        mill.open(2);
        mill.open(3);
        mill.seal(3);
        mill.destroy(4);
        mill.order(0, 's', 3, 2);
        check.same("37: not enough", mill.fill(), 0);
        mill.order(1, 's', 2, 1);
        check.same("37: two are fair and sealed", mill.fill(), 1);
        check.same("37: one sealed again", mill.house(3), 1);
        check.same("37: one never opened", mill.house(5), 1);
        check.refuses("37: not a thin one", mill, Check.NONE_SUCH, () -> mill.house(0));
        check.refuses("37: not a one-way one", mill, Check.NONE_SUCH, () -> mill.house(1));
        check.refuses("37: not an open one", mill, Check.NONE_SUCH, () -> mill.house(2));
        check.refuses("37: not a destroyed one", mill, Check.NONE_SUCH, () -> mill.house(4));
    }

    private static void isFilled(Check check) {
        Deckmill mill = Mills.fair(1);
        mill.collate('f');
        mill.order(0, 'f', 1, 1);
        mill.order(0, 'f', 1, 1);
        check.no("38: not yet", mill.isFilled(0));
        mill.fill();
        check.yes("38: then", mill.isFilled(0));
        check.no("38: the other one", mill.isFilled(1));
        mill.destroy(0);
        check.yes("38: it stays filled", mill.isFilled(0));
        check.refuses("38: order 2", mill, Check.INDEX, () -> mill.isFilled(2));
        check.refuses("38: order -1", mill, Check.INDEX, () -> mill.isFilled(-1));
        check.refuses("38: order 12", mill, Check.INDEX, () -> mill.isFilled(12));
    }

    private static void house(Check check) {
        Deckmill mill = Mills.fair(2);
        mill.collate('f');
        mill.collate('s');
        mill.order(0, 'f', 1, 1);
        check.refuses("39: of none", mill, Check.NONE_SUCH, () -> mill.house(0));
        mill.fill();
        check.same("39: house 0", mill.house(0), 0);
        check.refuses("39: the other one", mill, Check.NONE_SUCH, () -> mill.house(1));
        mill.open(0);
        check.same("39: an open one", mill.house(0), 0);
        check.refuses("39: pack 2", mill, Check.INDEX, () -> mill.house(2));
        check.refuses("39: pack -1", mill, Check.INDEX, () -> mill.house(-1));
    }

    private static void paid(Check check) {
        Deckmill mill = Mills.fair(9);
        collate(mill, 's', 5);
        mill.order(3, 's', 2, 50);
        mill.order(3, 's', 3, 7);
        mill.order(0, 's', 1, 1);
        check.same("40: nothing before", mill.paid(3), 0);
        mill.fill();
        check.same("40: two orders", mill.paid(3), 121);
        check.same("40: one not filled", mill.paid(0), 0);
        mill.open(0);
        mill.seal(0);
        mill.fill();
        check.same("40: paid stays paid", mill.paid(3), 121);
        check.same("40: a pack sold again", mill.paid(0), 1);
        check.refuses("40: house -1", mill, Check.ARGUMENT, () -> mill.paid(-1));
        check.refuses("40: house 4", mill, Check.ARGUMENT, () -> mill.paid(4));
    }

    private static void collate(Deckmill mill, char kind, int many) {
        for (int pack = 0; pack < many; pack++) {
            mill.collate(kind);
        }
    }
}
