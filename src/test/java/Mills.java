/** Mills that many tests begin with. */
final class Mills {
    private Mills() {
    }

    /** Sheet 0 has each card once, and so many of it have been printed with a straight knife. */
    static Deckmill printed(int many) {
        Deckmill mill = new Deckmill();
        mill.sheet(6, 9);
        mill.lay(0, 0);
        mill.print(0, many);
        return mill;
    }

    /** As above, with an opaque board, so that packs are fair. */
    static Deckmill fair(int many) {
        Deckmill mill = printed(many);
        mill.layer(1, 60, true);
        mill.layer(1, 40, true);
        return mill;
    }

    /** A fair mill whose pack 0 is of the kind and open. */
    static Deckmill opened(char kind) {
        Deckmill mill = fair(20);
        mill.collate(kind);
        mill.open(0);
        return mill;
    }

    /** As above, with no cards left but the first so many. */
    static Deckmill openedWith(int many) {
        Deckmill mill = opened('s');
        while (mill.cards(0) > many) {
            mill.take(0, many);
        }
        return mill;
    }

    static String cardsOf(Deckmill mill, int pack) {
        StringBuilder text = new StringBuilder();
        for (int index = 0; index < mill.cards(pack); index++) {
            text.append(index == 0 ? "" : " ").append(mill.cardAt(pack, index));
        }
        return text.toString();
    }
}
