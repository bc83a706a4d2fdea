import java.util.NoSuchElementException;

/** What the calls that change nothing tell of a mill, so that two states can be compared. */
final class Snapshot {
    private Snapshot() {
    }

    static String of(Deckmill mill) {
        StringBuilder text = new StringBuilder();
        text.append(mill.checksum()).append(' ').append(mill.spoiled()).append(' ').append(mill.snap());
        text.append(' ').append(mill.isOpaque()).append(' ').append(mill.isTurnable());
        text.append(' ').append(mill.isSound());
        for (int house = 0; house < 4; house++) {
            text.append(" paid ").append(mill.paid(house));
        }
        for (int sheet = 0; tellSheet(mill, sheet, text); sheet++) {
            text.append(';');
        }
        for (int pack = 0; tellPack(mill, pack, text); pack++) {
            text.append(';');
        }
        for (int order = 0; tellOrder(mill, order, text); order++) {
            text.append(';');
        }
        return text.toString();
    }

    private static boolean tellSheet(Deckmill mill, int sheet, StringBuilder text) {
        try {
            text.append(" sheet ").append(mill.outOf(sheet)).append(mill.isEven(sheet));
            text.append(mill.at(sheet, 0, 0));
            return true;
        } catch (IndexOutOfBoundsException none) {
            return false;
        }
    }

    private static boolean tellPack(Deckmill mill, int pack, StringBuilder text) {
        try {
            text.append(" pack ").append(mill.wrong(pack)).append(mill.cards(pack));
            text.append(mill.house(pack));
            return true;
        } catch (NoSuchElementException none) {
            return true;
        } catch (IndexOutOfBoundsException none) {
            return false;
        }
    }

    private static boolean tellOrder(Deckmill mill, int order, StringBuilder text) {
        try {
            text.append(" order ").append(mill.isFilled(order));
            return true;
        } catch (IndexOutOfBoundsException none) {
            return false;
        }
    }
}
