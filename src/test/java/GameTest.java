import java.util.List;

/** Promises 6 to 12: cut, undo, play, turn, taken, left, strings. */
public final class GameTest {
    public static void main(String[] args) {
        cutting();
        cuttingWrongly();
        undoing();
        undoingWhatWasPlayed();
        undoingOnNothing();
        playing();
        playingWithWrongState();
        whoTakes();
        stringsOfCoins();
        Check.end();
    }

    private static void state(CoinStrings x, int left, int turn, int taken0, int taken1) {
        String got = x.left() + " " + x.turn() + " " + x.taken(0) + " " + x.taken(1);
        Check.same("left, turn, taken", got, left + " " + turn + " " + taken0 + " " + taken1);
    }

    /** Coins 0 and 1 on one string; coin 2 on two strings to the ground. */
    private static CoinStrings pairAndOne() {
        return Check.strung(1, 0, 2, -1, 2, -1);
    }

    private static void cutting() {
        CoinStrings x = Check.begun(pairAndOne());
        state(x, 7, 0, 0, 0);
        Check.same("cut(1)", x.cut(1), 0);
        state(x, 5, 1, 0, 0);
        Check.same("cut(0)", x.cut(0), 2);
        state(x, 4, 1, 0, 2);
        Check.same("cut(2)", x.cut(2), 1);
        state(x, 0, 1, 0, 3);
    }

    private static void cuttingWrongly() {
        CoinStrings x = pairAndOne();
        for (int i : new int[] {0, -1, 3, Integer.MAX_VALUE, Integer.MIN_VALUE}) {
            Check.throwing("cut(" + i + ") before the game has begun", Check.STATE, () -> x.cut(i));
        }
        state(x, 7, 0, 0, 0);
        x.begin();
        x.cut(1);
        List<Object> before = Check.seen(x);
        for (int i : new int[] {-1, 3, 12, 32, 33, -32, Integer.MAX_VALUE, Integer.MIN_VALUE}) {
            Check.throwing("cut(" + i + ")", Check.INDEX, () -> x.cut(i));
        }
        Check.throwing("cut(1) again", Check.ELEMENT, () -> x.cut(1));
        Check.same("state after wrong cuts", Check.seen(x), before);
        Check.same("undo() after wrong cuts", x.undo(), 1);
        Check.throwing("undo() of no more", Check.ELEMENT, x::undo);
    }

    private static void undoing() {
        CoinStrings x = Check.begun(pairAndOne());
        x.cut(1);
        x.cut(0);
        x.cut(2);
        Check.same("undo() 1", x.undo(), 2);
        state(x, 4, 1, 0, 2);
        Check.same("undo() 2", x.undo(), 0);
        state(x, 5, 1, 0, 0);
        Check.same("cut(2) instead", x.cut(2), 1);
        state(x, 1, 1, 0, 1);
        Check.same("undo() 3", x.undo(), 2);
        Check.same("undo() 4", x.undo(), 1);
        state(x, 7, 0, 0, 0);
        Check.throwing("undo() of no more", Check.ELEMENT, x::undo);
        state(x, 7, 0, 0, 0);
        Check.throwing("begin() after undo", Check.STATE, x::begin);
    }

    private static void undoingWhatWasPlayed() {
        CoinStrings x = Check.begun(pairAndOne());
        Check.same("play()", x.play(), 2);
        state(x, 4, 1, 2, 0);
        Check.same("undo() of the second", x.undo(), 1);
        state(x, 6, 0, 2, 0);
        Check.same("undo() of the first", x.undo(), 0);
        state(x, 7, 0, 0, 0);
    }

    private static void undoingOnNothing() {
        CoinStrings x = pairAndOne();
        Check.throwing("undo() before the game has begun", Check.ELEMENT, x::undo);
        x.begin();
        Check.throwing("undo() before any cut", Check.ELEMENT, x::undo);
        state(x, 7, 0, 0, 0);
    }

    private static void playing() {
        CoinStrings x = Check.begun(Check.strung(0, 1, 1, -1));
        Check.same("play() to the end", x.play(), 2);
        state(x, 0, 0, 2, 0);
        Check.same("play() at the end", x.play(), 0);
        state(x, 0, 0, 2, 0);
        CoinStrings y = Check.begun(Check.strung(3, -1, 3, -1));
        Check.same("play() of a quiet cut", y.play(), 1);
        state(y, 2, 1, 0, 0);
        Check.same("play() of the other one", y.play(), 1);
        state(y, 0, 1, 0, 1);
        playingTwelve();
        playingTheBoard();
    }

    private static void playingTwelve() {
        CoinStrings x = Check.begun(Check.strung(0, 1, 1, 2, 2, 3, 3, 4, 4, 5, 5, 6, 6, 7, 7, -1));
        Check.same("play() of all", x.play(), 8);
        state(x, 0, 0, 8, 0);
    }

    /** The second board of the shared runs, whose cuts by play() are told there. */
    private static void playingTheBoard() {
        CoinStrings x = Check.begun(Check.board(1, 3));
        x.cut(4);
        int[] due = {1, 1, 1, 2};
        for (int cuts : due) {
            Check.same("play() on board(1, 3)", x.play(), cuts);
        }
        int[] order = {5, 3, 1, 2, 0, 4};
        for (int i : order) {
            Check.same("undo() on board(1, 3)", x.undo(), i);
        }
    }

    private static void playingWithWrongState() {
        CoinStrings x = new CoinStrings();
        Check.throwing("play() of a new object", Check.STATE, x::play);
        x.add(0, 1);
        Check.throwing("play() before the game has begun", Check.STATE, x::play);
        state(x, 1, 0, 0, 0);
    }

    private static void whoTakes() {
        CoinStrings x = Check.begun(Check.board(1, 1));
        for (int player : new int[] {-1, 2, 3, Integer.MAX_VALUE, Integer.MIN_VALUE}) {
            Check.throwing("taken(" + player + ")", Check.INDEX, () -> x.taken(player));
        }
        x.cut(0);
        Check.same("turn() 1", x.turn(), 1);
        x.cut(1);
        Check.same("turn() 2", x.turn(), 0);
        x.cut(2);
        Check.same("turn() 3", x.turn(), 1);
        x.cut(3);
        state(x, 0, 1, 0, 1);
        x.clear();
        state(x, 0, 0, 0, 0);
    }

    private static void stringsOfCoins() {
        CoinStrings x = Check.strung(0, 7, 7, 0, 7, -1);
        for (int coin : new int[] {-1, 8, 9, Integer.MAX_VALUE, Integer.MIN_VALUE}) {
            Check.throwing("strings(" + coin + ")", Check.INDEX, () -> x.strings(coin));
        }
        Check.same("strings(0)", x.strings(0), 2);
        Check.same("strings(7)", x.strings(7), 3);
        Check.same("strings(3)", x.strings(3), 0);
        x.begin();
        x.cut(1);
        Check.same("strings(0) after cut(1)", x.strings(0), 1);
        Check.same("strings(7) after cut(1)", x.strings(7), 2);
        x.cut(0);
        Check.same("strings(0) of a coin that is taken", x.strings(0), 0);
        x.undo();
        Check.same("strings(0) after undo", x.strings(0), 1);
    }
}
