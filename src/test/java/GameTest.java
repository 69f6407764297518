/** Promises 6 to 12 on ordinary games: cut, undo, play, turn, taken, left, strings. */
public final class GameTest {
    public static void main(String[] args) {
        cutting();
        undoing();
        playing();
        whoTakes();
        stringsOfCoins();
        Check.end();
    }

    /** Coins 0 and 1 on one string; coin 2 on two strings to the ground. */
    private static CoinStrings pairAndOne() {
        return Check.strung(1, 0, 2, -1, 2, -1);
    }

    private static void cutting() {
        CoinStrings x = Check.begun(pairAndOne());
        Check.state(x, 7, 0, 0, 0);
        Check.same("cut(1)", x.cut(1), 0);
        Check.state(x, 5, 1, 0, 0);
        Check.same("cut(0)", x.cut(0), 2);
        Check.state(x, 4, 1, 0, 2);
        Check.same("cut(2)", x.cut(2), 1);
        Check.state(x, 0, 1, 0, 3);
    }

    private static void undoing() {
        CoinStrings x = Check.begun(pairAndOne());
        x.cut(1);
        x.cut(0);
        x.cut(2);
        Check.same("undo() 1", x.undo(), 2);
        Check.state(x, 4, 1, 0, 2);
        Check.same("undo() 2", x.undo(), 0);
        Check.state(x, 5, 1, 0, 0);
        Check.same("cut(2) instead", x.cut(2), 1);
        Check.state(x, 1, 1, 0, 1);
        Check.same("undo() 3", x.undo(), 2);
        Check.same("undo() 4", x.undo(), 1);
        Check.state(x, 7, 0, 0, 0);
    }

    /** The second board of the shared runs, whose cuts by play() are told there. */
    private static void playing() {
        CoinStrings x = Check.begun(Check.board(1, 3));
        x.cut(4);
        int[] due = {1, 1, 1, 2};
        for (int cuts : due) {
            Check.same("play() on board(1, 3)", x.play(), cuts);
        }
        int[] order = {5, 3, 1, 2, 0, 4};
        for (int i : order) {
            Check.same("undo() on board(1, 3)", x.undo(), i);
        }
    }

    private static void whoTakes() {
        CoinStrings x = Check.begun(Check.board(1, 1));
        x.cut(0);
        Check.same("turn() 1", x.turn(), 1);
        x.cut(1);
        Check.same("turn() 2", x.turn(), 0);
        x.cut(2);
        Check.same("turn() 3", x.turn(), 1);
        x.cut(3);
        Check.state(x, 0, 1, 0, 1);
    }

    private static void stringsOfCoins() {
        CoinStrings x = Check.strung(0, 7, 7, 0, 7, -1);
        Check.same("strings(0)", x.strings(0), 2);
        Check.same("strings(7)", x.strings(7), 3);
        Check.same("strings(3)", x.strings(3), 0);
        x.begin();
        x.cut(1);
        Check.same("strings(0) after cut(1)", x.strings(0), 1);
        Check.same("strings(7) after cut(1)", x.strings(7), 2);
        x.cut(0);
        Check.same("strings(0) of a coin that is taken", x.strings(0), 0);
        x.undo();
        Check.same("strings(0) after undo", x.strings(0), 1);
    }
}
