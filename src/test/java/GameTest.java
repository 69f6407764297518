/** Promises 6 to 12 on ordinary games: cut, undo, play, turn, taken, left, strings. */
public final class GameTest {
    public static void main(String[] args) {
        Check.says("6: Cuts string i: how many coins are taken by that.", GameTest::cutting);
        Check.says("7: Takes back the latest cut: its string.", GameTest::undoing);
        Check.says("8: Who has the turn cuts the good string with the least number, and again, until the other one has"
                + " the turn or the end is there: how many were cut.", GameTest::playing);
        Check.says("9: The player who has the turn", GameTest::whoHasTheTurn);
        Check.says("PLAYERS are 0 and 1", GameTest::bothPlayers);
        Check.says("Who has the turn cuts a string", GameTest::whoCuts);
        Check.says("10: How many coins a player has taken.", GameTest::takings);
        Check.says("11: The strings that are left", GameTest::whatIsLeft);
        Check.says("12: How many strings that are left belong to a coin.", GameTest::stringsOfCoins);
        Check.end();
    }

    /** Coins 0 and 1 on one string; coin 2 on two strings to the ground. */
    private static CoinStrings pairAndOne() {
        return Check.strung(1, 0, 2, -1, 2, -1);
    }

    private static void cutting() {
        CoinStrings x = Check.begun(pairAndOne());
        Check.state(x, 7, 0, 0, 0);
        Check.same("cut(1)", x.cut(1), 0);
        Check.state(x, 5, 1, 0, 0);
        Check.same("cut(0)", x.cut(0), 2);
        Check.state(x, 4, 1, 0, 2);
        Check.same("cut(2)", x.cut(2), 1);
        Check.state(x, 0, 1, 0, 3);
    }

    private static void undoing() {
        CoinStrings x = Check.begun(pairAndOne());
        x.cut(1);
        x.cut(0);
        x.cut(2);
        Check.same("undo() 1", x.undo(), 2);
        Check.state(x, 4, 1, 0, 2);
        Check.same("undo() 2", x.undo(), 0);
        Check.state(x, 5, 1, 0, 0);
        Check.same("cut(2) instead", x.cut(2), 1);
        Check.state(x, 1, 1, 0, 1);
        Check.same("undo() 3", x.undo(), 2);
        Check.same("undo() 4", x.undo(), 1);
        Check.state(x, 7, 0, 0, 0);
    }

    /** The second board of the shared runs, whose cuts by play() are told there. */
    private static void playing() {
        CoinStrings x = Check.begun(Check.board(1, 3));
        x.cut(4);
        int[] due = {1, 1, 1, 2};
        for (int cuts : due) {
            Check.same("play() on board(1, 3)", x.play(), cuts);
        }
        int[] order = {5, 3, 1, 2, 0, 4};
        for (int i : order) {
            Check.same("undo() on board(1, 3)", x.undo(), i);
        }
    }

    private static void whoHasTheTurn() {
        CoinStrings x = Check.begun(Check.board(1, 1));
        x.cut(0);
        Check.same("turn() 1", x.turn(), 1);
        x.cut(1);
        Check.same("turn() 2", x.turn(), 0);
        x.cut(2);
        Check.same("turn() 3", x.turn(), 1);
        x.cut(3);
        Check.state(x, 0, 1, 0, 1);
        x.undo();
        x.undo();
        Check.same("turn() after two undos", x.turn(), 0);
    }

    private static void bothPlayers() {
        CoinStrings x = Check.begun(Check.board(2, 2));
        for (int i = 0; i < 12; i++) {
            Check.same("whether turn() is 0 or 1", x.turn() == 0 || x.turn() == 1, true);
            x.cut(i);
        }
        Check.same("taken(0) and taken(1)", x.taken(0) + x.taken(1), 4);
        Check.throwing("taken(2)", Check.INDEX, () -> x.taken(2));
    }

    private static void whoCuts() {
        // Each takes what his own cuts free: player 0 coin 0, player 1 coins 1 and 2.
        CoinStrings x = Check.begun(Check.strung(0, -1, 1, -1, 1, -1, 2, -1));
        Check.same("cut(0) by player 0", x.cut(0), 1);
        Check.same("cut(1) by player 0", x.cut(1), 0);
        Check.state(x, 12, 1, 1, 0);
        Check.same("cut(2) by player 1", x.cut(2), 1);
        Check.same("play() by player 1", x.play(), 1);
        Check.state(x, 0, 1, 1, 2);
    }

    private static void takings() {
        CoinStrings x = Check.begun(Check.strung(0, 1, 2, -1, 3, -1, 3, -1));
        x.cut(1);
        Check.same("taken(0) after one coin", x.taken(0), 1);
        x.cut(2);
        x.cut(0);
        Check.same("taken(1) after two coins", x.taken(1), 2);
        x.cut(3);
        Check.same("taken(1) after three coins", x.taken(1), 3);
        Check.same("taken(0) at the end", x.taken(0), 1);
    }

    private static void whatIsLeft() {
        CoinStrings x = Check.strung(0, 1, 2, -1, 3, -1, 3, -1);
        Check.same("left()", x.left(), 15);
        x.begin();
        x.cut(2);
        Check.same("left() after cut(2)", x.left(), 11);
        x.cut(0);
        Check.same("left() after cut(0)", x.left(), 10);
        x.undo();
        Check.same("left() after undo()", x.left(), 11);
        x.play();
        Check.same("left() after play()", x.left(), 0);
    }

    private static void stringsOfCoins() {
        CoinStrings x = Check.strung(0, 7, 7, 0, 7, -1);
        Check.same("strings(0)", x.strings(0), 2);
        Check.same("strings(7)", x.strings(7), 3);
        Check.same("strings(3)", x.strings(3), 0);
        x.begin();
        x.cut(1);
        Check.same("strings(0) after cut(1)", x.strings(0), 1);
        Check.same("strings(7) after cut(1)", x.strings(7), 2);
        x.cut(0);
        Check.same("strings(0) of a coin that is taken", x.strings(0), 0);
        x.undo();
        Check.same("strings(0) after undo", x.strings(0), 1);
    }
}
