import java.util.List;

/** Promises 1 to 5 at their edges: each sentence that names one has a test of its own. */
public final class SetupEdgeTest {
    public static void main(String[] args) {
        Check.says("1: No strings.", SetupEdgeTest::newObject);
        Check.says("1: No strings. -- beside another object", SetupEdgeTest::newObjectBesideAnother);
        adding();
        boards();
        beginning();
        clearing();
        Check.end();
    }

    private static void adding() {
        Check.says("2: Adds a string between coins a and b [..] its number.", SetupEdgeTest::leastAndGreatestCoins);
        Check.says("2: or a and the ground (b = -1)", SetupEdgeTest::everyCoinToTheGround);
        Check.says("2: IllegalArgumentException when a is not 0 .. 7", SetupEdgeTest::aIsNoCoin);
        Check.says("2: IllegalArgumentException when [..] b not -1 .. 7", SetupEdgeTest::bIsNoEnd);
        Check.says("2: IllegalArgumentException when [..] or they are the same", SetupEdgeTest::sameCoinTwice);
        Check.says("2: IllegalStateException when the game has begun", SetupEdgeTest::addToABegunGame);
        Check.says("2: IllegalStateException when [..] or there are 12", SetupEdgeTest::addToTwelve);
    }

    private static void boards() {
        Check.says("3: a string to the ground for the upper side, if it is the first row", SetupEdgeTest::upperSides);
        Check.says("3: for the left side, if the first column", SetupEdgeTest::leftSides);
        Check.says("3: to the right side's box, or the ground", SetupEdgeTest::rightSides);
        Check.says("3: to the lower side's box, or the ground", SetupEdgeTest::lowerSides);
        Check.says("3: How many strings there are.", SetupEdgeTest::leastAndGreatestBoards);
        Check.says("3: IllegalArgumentException when rows [..] is less than 1", SetupEdgeTest::tooFewRows);
        Check.says("3: IllegalArgumentException when [..] columns is less than 1", SetupEdgeTest::tooFewColumns);
        Check.says("3: or there would be more than 12 strings", SetupEdgeTest::boardsTooLarge);
        Check.says("3: or there would be more than 12 strings -- where an int wraps around",
                SetupEdgeTest::boardsThatWrapAround);
        Check.says("3: IllegalStateException when the game has begun", SetupEdgeTest::boardInABegunGame);
        Check.says("3: IllegalStateException when [..] or there is a string", SetupEdgeTest::boardBesideAString);
    }

    private static void beginning() {
        Check.says("4: Begins the game.", SetupEdgeTest::beginWithOneAndWithTwelve);
        Check.says("4: IllegalStateException when it has begun", SetupEdgeTest::beginTwice);
        Check.says("4: IllegalStateException when [..] or there are no strings", SetupEdgeTest::beginWithNone);
    }

    private static void clearing() {
        Check.says("5: No strings", SetupEdgeTest::clearDropsTheStrings);
        Check.says("5: not begun", SetupEdgeTest::clearEndsTheGame);
        Check.says("5: not begun -- so player 0 has the turn", SetupEdgeTest::clearGivesBackTheTurn);
        Check.says("5: not begun -- so there is no cut to take back", SetupEdgeTest::clearForgetsTheCuts);
        Check.says("5: takings are 0", SetupEdgeTest::clearDropsTheTakings);
        Check.says("5: No strings, not begun; takings are 0. -- when it is so before", SetupEdgeTest::clearOfNothing);
        Check.says("5: No strings, not begun; takings are 0. -- and nothing else", SetupEdgeTest::clearKeepsTheText);
        Check.says("5: No strings -- and no values of the game before", SetupEdgeTest::clearForgetsTheValues);
    }

    private static void newObject() {
        CoinStrings x = new CoinStrings();
        Check.state(x, 0, 0, 0, 0);
        for (int coin = 0; coin < 8; coin++) {
            Check.same("strings(" + coin + ")", x.strings(coin), 0);
        }
        Check.same("groups()", x.groups(), 0);
        Check.throwing("at(0)", Check.INDEX, () -> x.at(0));
        Check.same("show()", x.show(), 0);
        Check.throwing("begin()", Check.STATE, x::begin);
        Check.throwing("cut(0)", Check.STATE, () -> x.cut(0));
        Check.throwing("undo()", Check.ELEMENT, x::undo);
        Check.same("add(0, 1)", x.add(0, 1), 0);
    }

    private static void newObjectBesideAnother() {
        CoinStrings other = Check.begun(Check.strung(0, 1, 1, -1));
        other.margin();
        other.nim();
        other.cut(0);
        other.show();
        Check.same("seen of a new object", Check.seen(new CoinStrings()).toString(),
                "[0, 0, 0, 0, 0, 0, 0, 0, 0, 0, 0, 0" + ", java.lang.IllegalStateException".repeat(4) + ", [], ]");
        Check.begun(Check.strung(4, -1)).margin();
        Check.same("margin() of the other one", other.margin(), 1);
        Check.same("text of the other one", Check.lastText(other), "1:1=;");
    }

    private static void leastAndGreatestCoins() {
        CoinStrings x = new CoinStrings();
        Check.same("add(0, 7)", x.add(0, 7), 0);
        Check.same("add(7, 0)", x.add(7, 0), 1);
        Check.same("add(0, 1)", x.add(0, 1), 2);
        Check.same("add(7, 6)", x.add(7, 6), 3);
        Check.same("text", Check.text(x), "0:0-7;1:0-7;2:0-1;3:6-7;");
    }

    private static void everyCoinToTheGround() {
        CoinStrings x = new CoinStrings();
        for (int coin = 0; coin < 8; coin++) {
            Check.same("add(" + coin + ", -1)", x.add(coin, -1), coin);
            Check.same("strings(" + coin + ")", x.strings(coin), 1);
        }
        Check.same("text", Check.text(x), "0:0=;1:1=;2:2=;3:3=;4:4=;5:5=;6:6=;7:7=;");
    }

    private static void refuseEnds(int a, int b) {
        CoinStrings x = Check.strung(3, -1);
        Check.throwing("add(" + a + ", " + b + ")", Check.ARGUMENT, () -> x.add(a, b));
        Check.same("left()", x.left(), 1);
        Check.same("add(7, 6) after it", x.add(7, 6), 1);
    }

    private static void aIsNoCoin() {
        for (int a : Check.andFar(-1, -2, 8, 9)) {
            refuseEnds(a, 0);
            refuseEnds(a, 7);
            refuseEnds(a, -1);
        }
    }

    private static void bIsNoEnd() {
        for (int b : Check.andFar(-2, -3, 8, 9)) {
            refuseEnds(0, b);
            refuseEnds(7, b);
        }
    }

    private static void sameCoinTwice() {
        for (int coin = 0; coin < 8; coin++) {
            refuseEnds(coin, coin);
        }
    }

    private static void refuseAdd(CoinStrings x) {
        int left = x.left();
        Check.throwing("add(0, 1)", Check.STATE, () -> x.add(0, 1));
        Check.throwing("add(7, -1)", Check.STATE, () -> x.add(7, -1));
        Check.same("left()", x.left(), left);
    }

    private static void addToABegunGame() {
        CoinStrings x = Check.begun(Check.strung(0, 1, 1, -1));
        refuseAdd(x);
        x.cut(0);
        refuseAdd(x);
        x.cut(1);
        refuseAdd(x);
        x.undo();
        x.undo();
        refuseAdd(x);
        x.clear();
        Check.same("add(0, 1) after clear", x.add(0, 1), 0);
    }

    private static void addToTwelve() {
        CoinStrings x = new CoinStrings();
        for (int i = 0; i < 12; i++) {
            Check.same("add(3, -1)", x.add(3, -1), i);
        }
        refuseAdd(x);
        refuseAdd(Check.board(2, 2));
        CoinStrings y = Check.board(1, 3);
        Check.same("add(0, 1) to ten", y.add(0, 1), 10);
        Check.same("add(7, -1) to eleven", y.add(7, -1), 11);
        refuseAdd(y);
    }

    private static void boardText(int rows, int columns, String due) {
        Check.same("text of board(" + rows + ", " + columns + ")", Check.text(Check.board(rows, columns)), due);
    }

    private static void upperSides() {
        boardText(1, 1, "0:0=;1:0=;2:0=;3:0=;");
        // The second box has strings for its left, right and lower sides alone.
        boardText(2, 1, "0:0=;1:0=;2:0=;3:0-1;4:1=;5:1=;6:1=;");
    }

    private static void leftSides() {
        // The second box has strings for its upper, right and lower sides alone.
        boardText(1, 2, "0:0=;1:0=;2:0-1;3:0=;4:1=;5:1=;6:1=;");
    }

    private static void rightSides() {
        boardText(1, 3, "0:0=;1:0=;2:0-1;3:0=;4:1=;5:1-2;6:1=;7:2=;8:2=;9:2=;");
    }

    private static void lowerSides() {
        boardText(3, 1, "0:0=;1:0=;2:0=;3:0-1;4:1=;5:1=;6:1-2;7:2=;8:2=;9:2=;");
        boardText(2, 2, "0:0=;1:0=;2:0-1;3:0-2;4:1=;5:1=;6:1-3;7:2=;8:2-3;9:2=;10:3=;11:3=;");
    }

    private static void leastAndGreatestBoards() {
        int[][] due = {{1, 1, 4}, {1, 2, 7}, {2, 1, 7}, {1, 3, 10}, {3, 1, 10}, {2, 2, 12}};
        for (int[] row : due) {
            Check.same("board(" + row[0] + ", " + row[1] + ")", new CoinStrings().board(row[0], row[1]), row[2]);
        }
        Check.same("left() of the least", Check.board(1, 1).left(), 15);
        Check.same("left() of the greatest", Check.board(2, 2).left(), 4095);
    }

    private static void refuseBoard(int rows, int columns) {
        CoinStrings x = new CoinStrings();
        Check.throwing("board(" + rows + ", " + columns + ")", Check.ARGUMENT, () -> x.board(rows, columns));
        Check.same("left()", x.left(), 0);
        Check.same("board(1, 1) after it", x.board(1, 1), 4);
    }

    private static void tooFewRows() {
        for (int rows : new int[] {0, -1, -2, -13, Integer.MIN_VALUE, Integer.MIN_VALUE + 1}) {
            for (int columns = -1; columns <= 4; columns++) {
                refuseBoard(rows, columns);
            }
        }
    }

    private static void tooFewColumns() {
        for (int columns : new int[] {0, -1, -2, -13, Integer.MIN_VALUE, Integer.MIN_VALUE + 1}) {
            for (int rows = -1; rows <= 4; rows++) {
                refuseBoard(rows, columns);
            }
        }
    }

    private static void boardsTooLarge() {
        int[][] sides = {{1, 4}, {4, 1}, {2, 3}, {3, 2}, {3, 3}, {1, 12}, {12, 1}, {1, 13}, {13, 1}, {100, 1}};
        for (int[] side : sides) {
            refuseBoard(side[0], side[1]);
        }
    }

    private static void boardsThatWrapAround() {
        // Sides whose sum of strings, as an int, is a number from 0 to 12.
        int[][] sides = {{1, 1431655765}, {1, 1431655766}, {1, 1431655769}, {2, 858993460}, {2, 1717986919},
            {3, 1840700271}, {7, 286331153}, {12, 2061584302}, {65536, 65536}, {1 << 30, 1 << 30},
            {Integer.MAX_VALUE, Integer.MAX_VALUE}, {Integer.MAX_VALUE, 1}, {Integer.MAX_VALUE, 2}};
        for (int[] side : sides) {
            refuseBoard(side[0], side[1]);
            refuseBoard(side[1], side[0]);
        }
    }

    private static void refuseGoodBoard(CoinStrings x) {
        int left = x.left();
        Check.throwing("board(1, 1)", Check.STATE, () -> x.board(1, 1));
        Check.throwing("board(2, 2)", Check.STATE, () -> x.board(2, 2));
        Check.same("left()", x.left(), left);
    }

    private static void boardInABegunGame() {
        CoinStrings x = Check.begun(Check.strung(6, -1));
        refuseGoodBoard(x);
        x.cut(0);
        refuseGoodBoard(x);
        x.undo();
        refuseGoodBoard(x);
    }

    private static void boardBesideAString() {
        refuseGoodBoard(Check.strung(0, -1));
        refuseGoodBoard(Check.strung(7, 6));
        refuseGoodBoard(Check.board(1, 1));
        CoinStrings x = Check.strung(7, 6);
        x.clear();
        Check.same("board(1, 1) after clear", x.board(1, 1), 4);
    }

    private static void beginWithOneAndWithTwelve() {
        CoinStrings x = Check.begun(Check.strung(6, -1));
        Check.same("margin() of one", x.margin(), 1);
        Check.same("cut(0) of one", x.cut(0), 1);
        CoinStrings y = Check.begun(Check.board(2, 2));
        Check.same("margin() of twelve", y.margin(), 2);
        Check.same("cut(11) of twelve", y.cut(11), 0);
    }

    private static void refuseBegin(CoinStrings x) {
        List<Object> before = Check.seen(x);
        Check.throwing("begin()", Check.STATE, x::begin);
        Check.same("seen", Check.seen(x), before);
    }

    private static void beginTwice() {
        CoinStrings x = Check.begun(Check.strung(6, -1, 6, -1));
        refuseBegin(x);
        x.cut(0);
        refuseBegin(x);
        x.cut(1);
        refuseBegin(x);
        x.undo();
        x.undo();
        refuseBegin(x);
    }

    private static void beginWithNone() {
        CoinStrings x = new CoinStrings();
        refuseBegin(x);
        x.add(0, -1);
        x.clear();
        refuseBegin(x);
        x.add(0, -1);
        x.begin();
        Check.same("margin()", x.margin(), 1);
        x.clear();
        refuseBegin(x);
    }

    /** Each player has taken two coins, player 1 has the turn, strings 4 and 5 are left. */
    private static CoinStrings inTheMidst() {
        CoinStrings x = Check.begun(Check.strung(0, 1, 2, -1, 3, -1, 3, -1, 4, -1, 4, -1));
        int[] cuts = {0, 2, 1, 3};
        for (int i : cuts) {
            x.cut(i);
        }
        return x;
    }

    private static void clearDropsTheStrings() {
        CoinStrings x = inTheMidst();
        x.clear();
        Check.same("left()", x.left(), 0);
        Check.same("groups()", x.groups(), 0);
        for (int coin = 0; coin < 8; coin++) {
            Check.same("strings(" + coin + ")", x.strings(coin), 0);
        }
        Check.same("show()", x.show(), 0);
        Check.same("add(4, 2)", x.add(4, 2), 0);
        Check.same("strings(4)", x.strings(4), 1);
        Check.same("text", Check.text(x), "0:2-4;");
        CoinStrings added = Check.strung(0, 1, 2, -1);
        added.clear();
        Check.same("board(2, 2) after clear", added.board(2, 2), 12);
        Check.same("strings(1) after clear", added.strings(1), 4);
    }

    private static void clearEndsTheGame() {
        CoinStrings x = inTheMidst();
        x.clear();
        Check.throwing("cut(5)", Check.STATE, () -> x.cut(5));
        Check.throwing("play()", Check.STATE, x::play);
        Check.throwing("margin()", Check.STATE, x::margin);
        x.add(0, 1);
        Check.throwing("cut(0)", Check.STATE, () -> x.cut(0));
        Check.throwing("margin()", Check.STATE, x::margin);
        x.begin();
        Check.same("margin()", x.margin(), 2);
        Check.same("cut(0)", x.cut(0), 2);
    }

    private static void clearGivesBackTheTurn() {
        CoinStrings x = Check.begun(Check.strung(0, -1, 0, -1));
        x.cut(0);
        Check.same("turn()", x.turn(), 1);
        x.clear();
        Check.same("turn() after clear", x.turn(), 0);
        x.add(0, -1);
        x.begin();
        Check.same("turn() in another game", x.turn(), 0);
        x.cut(0);
        Check.state(x, 0, 0, 1, 0);
    }

    private static void clearForgetsTheCuts() {
        CoinStrings x = inTheMidst();
        x.clear();
        Check.throwing("undo()", Check.ELEMENT, x::undo);
        x.add(0, 1);
        Check.throwing("undo() with a string", Check.ELEMENT, x::undo);
        x.begin();
        Check.throwing("undo() in another game", Check.ELEMENT, x::undo);
        Check.state(x, 1, 0, 0, 0);
    }

    private static void clearDropsTheTakings() {
        CoinStrings x = inTheMidst();
        Check.state(x, 48, 1, 2, 2);
        x.clear();
        Check.state(x, 0, 0, 0, 0);
        x.add(0, 1);
        x.begin();
        Check.state(x, 1, 0, 0, 0);
    }

    private static void clearOfNothing() {
        CoinStrings x = new CoinStrings();
        List<Object> before = Check.seen(x);
        x.clear();
        Check.same("seen after clear", Check.seen(x), before);
        x.add(0, 1);
        x.clear();
        x.clear();
        Check.same("seen after a second clear", Check.seen(x), before);
    }

    private static void clearKeepsTheText() {
        CoinStrings x = Check.strung(0, 1);
        x.show();
        x.clear();
        Check.same("at(0)", x.at(0), (int) '0');
        Check.same("the text made last", Check.lastText(x), "0:0-1;");
        Check.same("show()", x.show(), 0);
        Check.throwing("at(0) after show()", Check.INDEX, () -> x.at(0));
    }

    private static void clearForgetsTheValues() {
        CoinStrings x = Check.begun(Check.board(2, 2));
        x.margin();
        x.nim();
        x.clear();
        x.board(1, 3);
        x.begin();
        Check.same("a second game", Check.seen(x), Check.seen(Check.begun(Check.board(1, 3))));
        x.clear();
        x.add(5, -1);
        x.add(5, -1);
        x.begin();
        Check.same("a third game", Check.seen(x), Check.seen(Check.begun(Check.strung(5, -1, 5, -1))));
    }
}
