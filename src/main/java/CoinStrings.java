import java.util.Arrays;
import java.util.NoSuchElementException;

/**
 * Coins that hang on strings: two players cut in turn, whoever frees a coin takes it and cuts again.
 * A set of strings, a position among them, is an int that has string i as its bit 2^i.
 */
public final class CoinStrings {
    public static final int LOONY = -1;
    public static final int LOOP = 100;

    private static final int COINS = 8;
    private static final int MOST_STRINGS = 12;
    private static final int POSITIONS = 1 << MOST_STRINGS;
    private static final int GROUND = -1;
    private static final int PLAYERS = 2;

    private final Web web = new Web();
    private final Margins margins = new Margins(web);
    private final NimValues nimValues = new NimValues(web);
    private final Grouping grouping = new Grouping(web);
    private final Text text = new Text(web);
    private final int[] cutStrings = new int[MOST_STRINGS];
    private final int[] cutters = new int[MOST_STRINGS];
    private final int[] takings = new int[PLAYERS];
    private int cutCount;
    private int position;
    private int onTurn;
    private boolean begun;

    public CoinStrings() {
    }

    public int add(int a, int b) throws IllegalArgumentException, IllegalStateException {
        if (!isCoin(a) || !(isCoin(b) || b == GROUND) || a == b) {
            throw new IllegalArgumentException();
        }
        if (begun || web.size() >= MOST_STRINGS) {
            throw new IllegalStateException();
        }
        web.join(a, b);
        position = web.everyString();
        return web.size() - 1;
    }

    public int board(int rows, int columns) throws IllegalArgumentException, IllegalStateException {
        if (!isBoard(rows, columns)) {
            throw new IllegalArgumentException();
        }
        if (begun || web.size() > 0) {
            throw new IllegalStateException();
        }
        web.joinBoard(rows, columns);
        position = web.everyString();
        return web.size();
    }

    public void begin() throws IllegalStateException {
        if (begun || web.size() == 0) {
            throw new IllegalStateException();
        }
        begun = true;
        margins.forget();
        nimValues.forget();
    }

    public void clear() {
        web.dropAll();
        Arrays.fill(takings, 0);
        cutCount = 0;
        position = 0;
        onTurn = 0;
        begun = false;
    }

    public int cut(int i) throws IllegalStateException, IndexOutOfBoundsException, NoSuchElementException {
        requireBegun();
        if (i < 0 || i >= web.size()) {
            throw new IndexOutOfBoundsException();
        }
        if (!has(position, i)) {
            throw new NoSuchElementException();
        }
        return sever(i);
    }

    public int undo() throws NoSuchElementException {
        if (cutCount == 0) {
            throw new NoSuchElementException();
        }
        cutCount--;
        int i = cutStrings[cutCount];
        position |= 1 << i;
        onTurn = cutters[cutCount];
        takings[onTurn] -= web.freed(position, i);
        return i;
    }

    public int play() throws IllegalStateException {
        requireBegun();
        int mover = onTurn;
        int cuts = 0;
        while (cuts < MOST_STRINGS && position != 0 && onTurn == mover) {
            sever(least(margins.markedStrings(position)));
            cuts++;
        }
        return cuts;
    }

    public int turn() {
        return onTurn;
    }

    public int taken(int player) throws IndexOutOfBoundsException {
        if (player < 0 || player >= PLAYERS) {
            throw new IndexOutOfBoundsException();
        }
        return takings[player];
    }

    public int left() {
        return position;
    }

    public int strings(int coin) throws IndexOutOfBoundsException {
        if (!isCoin(coin)) {
            throw new IndexOutOfBoundsException();
        }
        return web.holding(position, coin);
    }

    public int margin() throws IllegalStateException {
        requireBegun();
        return margins.of(position);
    }

    public int good() throws IllegalStateException {
        requireBegun();
        return margins.markedStrings(position);
    }

    public int nim() throws IllegalStateException {
        requireBegun();
        return nimValues.of(position);
    }

    public int mad() throws IllegalStateException {
        requireBegun();
        return nimValues.markedStrings(position);
    }

    public int groups() {
        grouping.sort(position);
        return grouping.count();
    }

    public int group(int g) throws IndexOutOfBoundsException {
        grouping.sort(position);
        if (g < 0 || g >= grouping.count()) {
            throw new IndexOutOfBoundsException();
        }
        int leader = grouping.leader(g);
        int length = grouping.length(leader);
        return grouping.isLoop(leader, position) ? length + LOOP : length;
    }

    public int show() {
        text.write(position);
        return text.length();
    }

    public int at(int i) throws IndexOutOfBoundsException {
        if (i < 0 || i >= text.length()) {
            throw new IndexOutOfBoundsException();
        }
        return text.character(i);
    }

    private void requireBegun() {
        if (!begun) {
            throw new IllegalStateException();
        }
    }

    private int sever(int i) {
        int coins = web.freed(position, i);
        cutStrings[cutCount] = i;
        cutters[cutCount] = onTurn;
        cutCount++;
        position = without(position, i);
        takings[onTurn] += coins;
        if (coins == 0) {
            onTurn = 1 - onTurn;
        }
        return coins;
    }

    private static boolean isCoin(int coin) {
        return coin >= 0 && coin < COINS;
    }

    private static boolean isBoard(int rows, int columns) {
        // A board has more strings than rows or columns; refusing long sides first keeps the product small.
        if (rows < 1 || columns < 1 || rows > MOST_STRINGS || columns > MOST_STRINGS) {
            return false;
        }
        return rows * (columns + 1) + columns * (rows + 1) <= MOST_STRINGS;
    }

    private static boolean has(int set, int i) {
        return (set >> i & 1) == 1;
    }

    private static int without(int set, int i) {
        return set & ~(1 << i);
    }

    /** The least member of a set, or MOST_STRINGS if none is less. */
    private static int least(int set) {
        int i = 0;
        while (i < MOST_STRINGS && !has(set, i)) {
            i++;
        }
        return i;
    }

    /** Which coins the strings join. */
    private static final class Web {
        private final int[] lesserEnds = new int[MOST_STRINGS];
        private final int[] otherEnds = new int[MOST_STRINGS];
        private final int[] stringsOfCoins = new int[COINS];
        private int size;

        int size() {
            return size;
        }

        int everyString() {
            return (1 << size) - 1;
        }

        int lesserEnd(int i) {
            return lesserEnds[i];
        }

        int otherEnd(int i) {
            return otherEnds[i];
        }

        void dropAll() {
            size = 0;
            Arrays.fill(stringsOfCoins, 0);
        }

        void join(int a, int b) {
            int bit = 1 << size;
            stringsOfCoins[a] |= bit;
            if (b == GROUND) {
                lesserEnds[size] = a;
                otherEnds[size] = GROUND;
            } else {
                stringsOfCoins[b] |= bit;
                lesserEnds[size] = Math.min(a, b);
                otherEnds[size] = Math.max(a, b);
            }
            size++;
        }

        void joinBoard(int rows, int columns) {
            for (int row = 0; row < rows; row++) {
                for (int column = 0; column < columns; column++) {
                    int box = row * columns + column;
                    if (row == 0) {
                        join(box, GROUND);
                    }
                    if (column == 0) {
                        join(box, GROUND);
                    }
                    join(box, column == columns - 1 ? GROUND : box + 1);
                    join(box, row == rows - 1 ? GROUND : box + columns);
                }
            }
        }

        int holding(int position, int coin) {
            return Integer.bitCount(position & stringsOfCoins[coin]);
        }

        /** How many coins the cut of string i takes. */
        int freed(int position, int i) {
            int coins = hangsOnlyOn(position, lesserEnds[i], i) ? 1 : 0;
            if (otherEnds[i] != GROUND && hangsOnlyOn(position, otherEnds[i], i)) {
                coins++;
            }
            return coins;
        }

        private boolean hangsOnlyOn(int position, int coin, int i) {
            return (position & stringsOfCoins[coin]) == 1 << i;
        }
    }

    /** A value for each position of a game, all worked out when one of them is first asked for. */
    private abstract static class Values {
        final Web web;
        final byte[] known = new byte[POSITIONS];
        private boolean ready;

        Values(Web web) {
            this.web = web;
        }

        final void forget() {
            ready = false;
        }

        final int of(int position) {
            prepare();
            return known[position];
        }

        /** The strings of a position whose cuts the value marks out. */
        final int markedStrings(int position) {
            prepare();
            int found = 0;
            for (int i = 0; i < web.size(); i++) {
                if (has(position, i) && isMarked(position, i)) {
                    found |= 1 << i;
                }
            }
            return found;
        }

        private void prepare() {
            if (ready) {
                return;
            }
            // A cut leaves a lesser number, so going upward finds what each position needs.
            for (int position = 0; position <= web.everyString(); position++) {
                known[position] = (byte) workOut(position);
            }
            ready = true;
        }

        abstract int workOut(int position);

        abstract boolean isMarked(int position, int i);
    }

    /** Marks out the good cuts. */
    private static final class Margins extends Values {
        Margins(Web web) {
            super(web);
        }

        int workOut(int position) {
            if (position == 0) {
                return 0;
            }
            // No cut gives less than the loss of every coin.
            int greatest = -COINS;
            for (int i = 0; i < web.size(); i++) {
                if (has(position, i)) {
                    greatest = Math.max(greatest, given(position, i));
                }
            }
            return greatest;
        }

        boolean isMarked(int position, int i) {
            return given(position, i) == known[position];
        }

        private int given(int position, int i) {
            int coins = web.freed(position, i);
            int rest = known[without(position, i)];
            return coins > 0 ? coins + rest : -rest;
        }
    }

    /** Marks out the cuts that take nothing and leave a loony position. */
    private static final class NimValues extends Values {
        NimValues(Web web) {
            super(web);
        }

        int workOut(int position) {
            int quiet = 0;
            int taking = 0;
            boolean loonyTaking = false;
            for (int i = 0; i < web.size(); i++) {
                if (!has(position, i)) {
                    continue;
                }
                int value = known[without(position, i)];
                boolean takes = web.freed(position, i) > 0;
                if (value == LOONY) {
                    loonyTaking = loonyTaking || takes;
                } else if (takes) {
                    taking |= 1 << value;
                } else {
                    quiet |= 1 << value;
                }
            }
            if (loonyTaking) {
                return LOONY;
            }
            if (taking == 0) {
                return least(~quiet);
            }
            return Integer.bitCount(taking) > 1 || (taking & quiet) != 0 ? LOONY : least(taking);
        }

        boolean isMarked(int position, int i) {
            return web.freed(position, i) == 0 && known[without(position, i)] == LOONY;
        }
    }

    /** The groups of the position that was sorted last; the least coin of a group is its leader. */
    private static final class Grouping {
        private static final int NO_LEADER = -1;

        private final Web web;
        private final int[] leaders = new int[COINS];

        Grouping(Web web) {
            this.web = web;
        }

        void sort(int position) {
            for (int coin = 0; coin < COINS; coin++) {
                leaders[coin] = web.holding(position, coin) == 2 ? coin : NO_LEADER;
            }
            for (int i = 0; i < web.size(); i++) {
                if (has(position, i)) {
                    unite(leaderOf(web.lesserEnd(i)), leaderOf(web.otherEnd(i)));
                }
            }
        }

        int count() {
            int found = 0;
            for (int coin = 0; coin < COINS; coin++) {
                if (leaders[coin] == coin) {
                    found++;
                }
            }
            return found;
        }

        int leader(int g) {
            int before = 0;
            for (int coin = 0; coin < COINS; coin++) {
                if (leaders[coin] == coin) {
                    if (before == g) {
                        return coin;
                    }
                    before++;
                }
            }
            return NO_LEADER;
        }

        int length(int leader) {
            int coins = 0;
            for (int coin = 0; coin < COINS; coin++) {
                if (leaders[coin] == leader) {
                    coins++;
                }
            }
            return coins;
        }

        boolean isLoop(int leader, int position) {
            for (int i = 0; i < web.size(); i++) {
                boolean lesserInside = leaderOf(web.lesserEnd(i)) == leader;
                boolean otherInside = leaderOf(web.otherEnd(i)) == leader;
                if (has(position, i) && lesserInside != otherInside) {
                    return false;
                }
            }
            return true;
        }

        private int leaderOf(int end) {
            return end == GROUND ? NO_LEADER : leaders[end];
        }

        private void unite(int one, int two) {
            if (one == NO_LEADER || two == NO_LEADER) {
                return;
            }
            for (int coin = 0; coin < COINS; coin++) {
                if (leaders[coin] == Math.max(one, two)) {
                    leaders[coin] = Math.min(one, two);
                }
            }
        }
    }

    /** The text that was made last. */
    private static final class Text {
        // Seven characters, as in 11:0-1; are the most that one string needs.
        private static final int MOST_CHARACTERS = 7 * MOST_STRINGS;

        private final Web web;
        private final char[] characters = new char[MOST_CHARACTERS];
        private int length;

        Text(Web web) {
            this.web = web;
        }

        int length() {
            return length;
        }

        int character(int i) {
            return characters[i];
        }

        void write(int position) {
            length = 0;
            for (int i = 0; i < web.size(); i++) {
                if (has(position, i)) {
                    putString(i);
                }
            }
        }

        private void putString(int i) {
            if (i >= 10) {
                putDigit(i / 10);
            }
            putDigit(i % 10);
            put(':');
            putDigit(web.lesserEnd(i));
            if (web.otherEnd(i) == GROUND) {
                put('=');
            } else {
                put('-');
                putDigit(web.otherEnd(i));
            }
            put(';');
        }

        private void putDigit(int digit) {
            put((char) ('0' + digit));
        }

        private void put(char character) {
            characters[length] = character;
            length++;
        }
    }
}
