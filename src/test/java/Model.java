import java.util.ArrayList;
import java.util.Arrays;
import java.util.Collections;
import java.util.Comparator;
import java.util.List;
import java.util.NoSuchElementException;
import java.util.TreeSet;

/** The document told once more with the whole library, slow and plain, to compare the class with. */
public final class Model {
    static final class Sheet {
        final int[][] places;
        final int[][] passes = new int[4][2];

        Sheet(int rows, int columns) {
            places = new int[rows][columns];
            for (int[] row : places) {
                Arrays.fill(row, -1);
            }
        }

        List<Integer> cards() {
            List<Integer> cards = new ArrayList<>();
            for (int[] row : places) {
                for (int card : row) {
                    if (card >= 0) {
                        cards.add(card);
                    }
                }
            }
            return cards;
        }

        int outOf() {
            int greatest = 0;
            for (int[] one : passes) {
                for (int[] other : passes) {
                    greatest = Math.max(greatest, Math.abs(one[0] - other[0]) + Math.abs(one[1] - other[1]));
                }
            }
            return greatest;
        }
    }

    static final class Pack {
        char kind;
        char state = 's';
        boolean oneWay;
        boolean thin;
        boolean again;
        Integer house;
        List<Integer> cards = new ArrayList<>();

        char wrong() {
            TreeSet<Integer> there = new TreeSet<>(cards);
            List<Integer> due = kindCards(kind);
            if (!there.containsAll(due)) {
                return 'm';
            }
            if (there.size() < cards.size()) {
                return 'd';
            }
            if (!due.containsAll(there)) {
                return 'x';
            }
            return oneWay ? 'w' : thin ? 't' : '-';
        }
    }

    record Wish(int number, int house, char kind, int many, int price) {
    }

    private final List<Sheet> sheets = new ArrayList<>();
    private final int[][] piles = new int[54][2];
    private final List<int[]> layers = new ArrayList<>();
    private final int[][] back = new int[7][5];
    private final List<Pack> packs = new ArrayList<>();
    private final List<Wish> wishes = new ArrayList<>();
    private final TreeSet<Integer> filled = new TreeSet<>();
    private int tolerance = 10;
    private int knifeRight;
    private int knifeUp;
    private int spoiled;

    private static void argue(boolean isFine) {
        if (!isFine) {
            throw new IllegalArgumentException();
        }
    }

    private static void support(boolean isFine) {
        if (!isFine) {
            throw new UnsupportedOperationException();
        }
    }

    private static void allow(boolean isFine) {
        if (!isFine) {
            throw new IllegalStateException();
        }
    }

    private static void exist(boolean isFine) {
        if (!isFine) {
            throw new NoSuchElementException();
        }
    }

    private static <T> T one(List<T> list, int number) {
        if (number < 0 || number >= list.size()) {
            throw new IndexOutOfBoundsException();
        }
        return list.get(number);
    }

    private static boolean in(int number, int least, int most) {
        return number >= least && number <= most;
    }

    private static List<Integer> kindCards(char kind) {
        argue("fjs".indexOf(kind) >= 0);
        List<Integer> cards = new ArrayList<>();
        for (int card = 0; card < 54; card++) {
            boolean isJoker = card >= 52;
            if (kind == 'j' || !isJoker && (kind == 'f' || card % 13 >= 5)) {
                cards.add(card);
            }
        }
        return cards;
    }

    public int sheet(int rows, int columns) {
        argue(in(rows, 1, 6) && in(columns, 1, 9));
        allow(sheets.size() < 6);
        sheets.add(new Sheet(rows, columns));
        return sheets.size() - 1;
    }

    public int put(int sheet, int row, int column, int card) {
        int before = at(sheet, row, column);
        argue(in(card, -1, 53));
        sheets.get(sheet).places[row][column] = card;
        return before;
    }

    public int at(int sheet, int row, int column) {
        int[][] places = one(sheets, sheet).places;
        argue(in(row, 0, places.length - 1) && in(column, 0, places[0].length - 1));
        return places[row][column];
    }

    public int lay(int sheet, int card) {
        int[][] places = one(sheets, sheet).places;
        argue(in(card, 0, 53));
        int laid = 0;
        int next = card;
        for (int[] row : places) {
            for (int column = 0; column < row.length; column++) {
                if (row[column] == -1) {
                    row[column] = next;
                    next = next == 53 ? 0 : next + 1;
                    laid++;
                }
            }
        }
        return laid;
    }

    public boolean isEven(int sheet) {
        List<Integer> cards = one(sheets, sheet).cards();
        TreeSet<Integer> often = new TreeSet<>();
        for (int card : cards) {
            often.add(Collections.frequency(cards, card));
        }
        return often.size() <= 1;
    }

    public int pass(int sheet, int pass, int right, int up) {
        Sheet found = one(sheets, sheet);
        argue(in(pass, 0, 3) && in(right, -40, 40) && in(up, -40, 40));
        found.passes[pass] = new int[] {right, up};
        return found.outOf();
    }

    public int outOf(int sheet) {
        return one(sheets, sheet).outOf();
    }

    public int tolerance(int tolerance) {
        argue(in(tolerance, 0, 80));
        int before = this.tolerance;
        this.tolerance = tolerance;
        return before;
    }

    public int knife(int right, int up) {
        argue(in(right, -20, 20) && in(up, -20, 20));
        int before = Math.abs(knifeRight) + Math.abs(knifeUp);
        knifeRight = right;
        knifeUp = up;
        return before;
    }

    public int print(int sheet, int many) {
        Sheet found = one(sheets, sheet);
        argue(in(many, 1, 99));
        if (found.outOf() > tolerance) {
            spoiled += many;
            return 0;
        }
        List<Integer> cards = found.cards();
        for (int card : cards) {
            allow(piles[card][0] + piles[card][1] + many * Collections.frequency(cards, card) <= 9999);
        }
        int which = Math.abs(knifeRight) > 4 || Math.abs(knifeUp) > 4 ? 1 : 0;
        for (int card : cards) {
            piles[card][which] += many;
        }
        return cards.size() * many;
    }

    public int spoiled() {
        return spoiled;
    }

    public int pile(int card, boolean isMarked) {
        argue(in(card, 0, 53));
        return piles[card][isMarked ? 1 : 0];
    }

    public int pulp(int card) {
        int many = pile(card, true);
        piles[card][1] = 0;
        return many;
    }

    public int layer(int thickness, int opacity, boolean isAlong) {
        argue(in(thickness, 1, 20) && in(opacity, 0, 60));
        allow(layers.size() < 5);
        layers.add(new int[] {thickness, opacity, isAlong ? 1 : 0});
        return layers.stream().mapToInt(layer -> layer[0]).sum();
    }

    public int strip() {
        int many = layers.size();
        layers.clear();
        return many;
    }

    public int snap() {
        int often = 0;
        for (int number = 1; number < layers.size(); number++) {
            often += Math.abs(layers.get(number)[2] - layers.get(number - 1)[2]);
        }
        return often;
    }

    public boolean isOpaque() {
        return layers.stream().mapToInt(layer -> layer[1]).sum() >= 100;
    }

    public int mark(int column, int row, int mark) {
        argue(in(column, 0, 4) && in(row, 0, 6) && in(mark, 0, 9));
        int before = back[row][column];
        back[row][column] = mark;
        return before;
    }

    public boolean isTurnable() {
        boolean isSame = true;
        for (int row = 0; row < 7; row++) {
            for (int column = 0; column < 5; column++) {
                isSame &= back[row][column] == back[6 - row][4 - column];
            }
        }
        return isSame;
    }

    public int collate(char kind) {
        List<Integer> cards = kindCards(kind);
        support(cards.stream().allMatch(card -> piles[card][0] > 0));
        allow(packs.size() < 12);
        cards.forEach(card -> piles[card][0]--);
        Pack pack = new Pack();
        pack.kind = kind;
        pack.cards.addAll(cards);
        pack.oneWay = !isTurnable();
        pack.thin = !isOpaque();
        packs.add(pack);
        return packs.size() - 1;
    }

    public int lacking(char kind) {
        return kindCards(kind).stream().filter(card -> piles[card][0] == 0).findFirst().get();
    }

    public int possible(char kind) {
        return kindCards(kind).stream().mapToInt(card -> piles[card][0]).min().getAsInt();
    }

    public char state(int pack) {
        return one(packs, pack).state;
    }

    public char wrong(int pack) {
        return one(packs, pack).wrong();
    }

    public int cards(int pack) {
        return one(packs, pack).cards.size();
    }

    public int cardAt(int pack, int index) {
        List<Integer> cards = one(packs, pack).cards;
        exist(in(index, 0, cards.size() - 1));
        return cards.get(index);
    }

    public boolean open(int pack) {
        Pack found = one(packs, pack);
        support(found.state == 's');
        found.state = 'o';
        return found.house != null;
    }

    public boolean seal(int pack) {
        Pack found = one(packs, pack);
        support(found.state == 'o' && found.wrong() == '-' && !found.again);
        boolean wasOfHouse = found.house != null;
        found.state = 's';
        found.again = true;
        found.house = null;
        return wasOfHouse;
    }

    public int take(int pack, int index) {
        Pack found = one(packs, pack);
        support(found.state == 'o');
        exist(in(index, 0, found.cards.size() - 1));
        return found.cards.remove(index);
    }

    public int add(int pack, int card) {
        Pack found = one(packs, pack);
        argue(in(card, 0, 53));
        support(found.state == 'o');
        allow(found.cards.size() < 60);
        found.cards.add(card);
        return found.cards.size();
    }

    private static List<Integer> shuffled(List<Integer> cards, boolean isOuter) {
        int half = cards.size() / 2 + cards.size() % 2;
        List<Integer> upper = new ArrayList<>(cards.subList(0, half));
        List<Integer> lower = new ArrayList<>(cards.subList(half, cards.size()));
        List<Integer> laid = new ArrayList<>();
        boolean isUpper = isOuter;
        while (!upper.isEmpty() && !lower.isEmpty()) {
            laid.add(isUpper ? upper.remove(0) : lower.remove(0));
            isUpper = !isUpper;
        }
        if (laid.size() % 2 == 1) {
            laid.add(isUpper ? upper.remove(0) : lower.remove(0));
        }
        laid.addAll(upper);
        laid.addAll(lower);
        return laid;
    }

    public int shuffle(int pack, boolean isOuter) {
        Pack found = one(packs, pack);
        support(found.state == 'o' && !found.cards.isEmpty());
        found.cards = shuffled(found.cards, isOuter);
        return found.cards.get(0);
    }

    public int cut(int pack, int many) {
        Pack found = one(packs, pack);
        argue(in(many, 0, found.cards.size()));
        support(found.state == 'o' && !found.cards.isEmpty());
        Collections.rotate(found.cards, -many);
        return found.cards.get(0);
    }

    public int period(int pack) {
        List<Integer> cards = one(packs, pack).cards;
        List<Integer> trial = shuffled(cards, true);
        int times = 1;
        while (!trial.equals(cards)) {
            trial = shuffled(trial, true);
            times++;
        }
        return times;
    }

    public int destroy(int pack) {
        Pack found = one(packs, pack);
        support(found.state != 'd');
        found.state = 'd';
        return (int) packs.stream().filter(other -> other.state == 'd').count();
    }

    public int order(int house, char kind, int many, int price) {
        kindCards(kind);
        argue(in(house, 0, 3) && in(many, 1, 9) && in(price, 1, 99));
        allow(wishes.size() < 12);
        wishes.add(new Wish(wishes.size(), house, kind, many, price));
        return wishes.size() - 1;
    }

    public int fill() {
        int before = filled.size();
        List<Wish> byPrice = new ArrayList<>(wishes);
        byPrice.sort(Comparator.comparingInt(wish -> -wish.price()));
        for (Wish wish : byPrice) {
            List<Pack> fitting = packs.stream().filter(pack -> pack.state == 's' && pack.wrong() == '-'
                    && pack.kind == wish.kind() && pack.house == null).toList();
            if (fitting.size() >= wish.many() && filled.add(wish.number())) {
                fitting.subList(0, wish.many()).forEach(pack -> pack.house = wish.house());
            }
        }
        return filled.size() - before;
    }

    public boolean isFilled(int order) {
        return filled.contains(one(wishes, order).number());
    }

    public int house(int pack) {
        Pack found = one(packs, pack);
        exist(found.house != null);
        return found.house;
    }

    public int paid(int house) {
        argue(in(house, 0, 3));
        return wishes.stream().filter(wish -> wish.house() == house && filled.contains(wish.number()))
                .mapToInt(wish -> wish.many() * wish.price()).sum();
    }

    public long checksum() {
        List<Integer> numbers = new ArrayList<>();
        for (int[] pile : piles) {
            numbers.add(pile[0]);
            numbers.add(pile[1]);
        }
        for (Pack pack : packs) {
            numbers.add((int) pack.state);
            numbers.addAll(pack.cards);
        }
        long sum = 7;
        for (int number : numbers) {
            sum = 31 * sum + number;
        }
        return sum;
    }

    public float plainShare() {
        int plain = 0;
        int marked = 0;
        for (int[] pile : piles) {
            plain += pile[0];
            marked += pile[1];
        }
        exist(plain + marked > 0);
        return (float) plain / (float) (plain + marked);
    }

    public double meanPrice() {
        exist(!wishes.isEmpty());
        return (double) wishes.stream().mapToInt(Wish::price).sum() / (double) wishes.size();
    }

    public boolean isSound() {
        return true;
    }
}
