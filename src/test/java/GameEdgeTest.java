import java.util.List;

/** Promises 6 to 12 at their edges: each sentence that names one has a test of its own. */
public final class GameEdgeTest {
    public static void main(String[] args) {
        cutting();
        undoing();
        playing();
        asking();
        Check.end();
    }

    private static void cutting() {
        Check.says("6: how many coins are taken by that", GameEdgeTest::cutTakesNoneOneOrTwo);
        Check.says("6: IllegalStateException when the game has not begun", GameEdgeTest::cutBeforeTheGame);
        Check.says("6: IndexOutOfBoundsException when there is no such string", GameEdgeTest::cutOfNoString);
        Check.says("6: NoSuchElementException when it is not left", GameEdgeTest::cutOfAStringNotLeft);
        Check.says("6: Cuts string i -- the first and the last of 12", GameEdgeTest::cutOfTheFirstAndTheLast);
    }

    private static void undoing() {
        Check.says("7: Takes back the latest cut: its string. -- of 12 cuts", GameEdgeTest::undoTwelve);
        Check.says("7: Takes back the latest cut -- with what it took", GameEdgeTest::undoGivesBack);
        Check.says("7: Takes back the latest cut -- at the end", GameEdgeTest::undoAtTheEnd);
        Check.says("7: Takes back the latest cut -- of several by play", GameEdgeTest::undoOfPlay);
        Check.says("7: NoSuchElementException when there was none", GameEdgeTest::undoOfNone);
        Check.says("7: (or all were taken back)", GameEdgeTest::undoOfAllTakenBack);
    }

    private static void playing() {
        Check.says("8: the good string with the least number", GameEdgeTest::playTheLeastGood);
        Check.says("8: and again, until the other one has the turn", GameEdgeTest::playUntilTheOtherHasTheTurn);
        Check.says("8: or the end is there", GameEdgeTest::playToTheEnd);
        Check.says("8: how many were cut -- none, at the end", GameEdgeTest::playAtTheEnd);
        Check.says("8: how many were cut -- the most that can be", GameEdgeTest::playTheMost);
        Check.says("8: Who has the turn cuts -- player 1", GameEdgeTest::playOfTheSecondPlayer);
        Check.says("8: IllegalStateException when the game has not begun", GameEdgeTest::playBeforeTheGame);
    }

    private static void asking() {
        Check.says("9: at the end the one who cut last", GameEdgeTest::turnAtTheEnd);
        Check.says("9: 0 before the game has begun", GameEdgeTest::turnBeforeTheGame);
        Check.says("10: How many coins a player has taken. -- none, and all", GameEdgeTest::takenNoneAndAll);
        Check.says("10: IndexOutOfBoundsException when player is not 0 or 1", GameEdgeTest::takenOfNoPlayer);
        Check.says("11: (all, before the game has begun)", GameEdgeTest::leftBeforeTheGame);
        Check.says("11: string i as the bit 2^i", GameEdgeTest::leftOfTwelve);
        Check.says("12: How many strings that are left belong to a coin. -- none, and all",
                GameEdgeTest::stringsNoneAndAll);
        Check.says("12: IndexOutOfBoundsException when there is no such coin", GameEdgeTest::stringsOfNoCoin);
    }

    /** Coins 0 and 1 on one string; coin 2 on two strings to the ground. */
    private static CoinStrings pairAndOne() {
        return Check.strung(1, 0, 2, -1, 2, -1);
    }

    private static void cutTakesNoneOneOrTwo() {
        CoinStrings x = Check.begun(pairAndOne());
        Check.same("cut(2)", x.cut(2), 0);
        Check.same("cut(1)", x.cut(1), 1);
        Check.same("cut(0)", x.cut(0), 2);
    }

    private static void cutBeforeTheGame() {
        CoinStrings x = new CoinStrings();
        for (int i : Check.andFar(0, -1, 1)) {
            Check.throwing("cut(" + i + ") of a new object", Check.STATE, () -> x.cut(i));
        }
        x.add(0, 1);
        for (int i : Check.andFar(0, -1, 1)) {
            Check.throwing("cut(" + i + ") before begin", Check.STATE, () -> x.cut(i));
        }
        Check.state(x, 1, 0, 0, 0);
    }

    private static void cutOfNoString() {
        CoinStrings x = Check.begun(pairAndOne());
        for (int i : Check.andFar(-1, -2, 3, 4, 11, 12)) {
            Check.throwing("cut(" + i + ") of three", Check.INDEX, () -> x.cut(i));
        }
        Check.state(x, 7, 0, 0, 0);
        CoinStrings full = Check.begun(Check.board(2, 2));
        for (int i : Check.andFar(-1, 12, 13)) {
            Check.throwing("cut(" + i + ") of twelve", Check.INDEX, () -> full.cut(i));
        }
        Check.state(full, 4095, 0, 0, 0);
    }

    private static void cutOfAStringNotLeft() {
        CoinStrings x = Check.begun(pairAndOne());
        x.cut(1);
        Check.throwing("cut(1) again", Check.ELEMENT, () -> x.cut(1));
        Check.state(x, 5, 1, 0, 0);
        x.play();
        Check.state(x, 0, 1, 0, 3);
        for (int i = 0; i < 3; i++) {
            int string = i;
            Check.throwing("cut(" + i + ") at the end", Check.ELEMENT, () -> x.cut(string));
        }
        Check.state(x, 0, 1, 0, 3);
        Check.same("undo()", x.undo(), 2);
        Check.same("cut(2) after undo", x.cut(2), 1);
        Check.throwing("cut(2) again", Check.ELEMENT, () -> x.cut(2));
    }

    private static void cutOfTheFirstAndTheLast() {
        CoinStrings x = Check.begun(Check.board(2, 2));
        Check.same("cut(0)", x.cut(0), 0);
        Check.same("cut(11)", x.cut(11), 0);
        Check.state(x, 2046, 0, 0, 0);
    }

    private static void undoTwelve() {
        CoinStrings x = Check.begun(Check.board(2, 2));
        int[] order = {11, 0, 5, 6, 10, 1, 2, 9, 3, 8, 4, 7};
        for (int i : order) {
            x.cut(i);
        }
        Check.same("left() at the end", x.left(), 0);
        for (int k = 11; k >= 0; k--) {
            Check.same("undo()", x.undo(), order[k]);
        }
        Check.state(x, 4095, 0, 0, 0);
    }

    private static void undoGivesBack() {
        CoinStrings x = Check.begun(pairAndOne());
        x.cut(1);
        x.cut(0);
        Check.state(x, 4, 1, 0, 2);
        Check.same("undo() of two coins", x.undo(), 0);
        Check.state(x, 5, 1, 0, 0);
        x.cut(2);
        Check.state(x, 1, 1, 0, 1);
        Check.same("undo() of one coin", x.undo(), 2);
        Check.state(x, 5, 1, 0, 0);
        Check.same("undo() of no coin", x.undo(), 1);
        Check.state(x, 7, 0, 0, 0);
        Check.same("cut(0) instead", x.cut(0), 2);
        Check.state(x, 6, 0, 2, 0);
    }

    private static void undoAtTheEnd() {
        CoinStrings x = Check.begun(Check.strung(7, -1));
        x.cut(0);
        Check.state(x, 0, 0, 1, 0);
        Check.same("undo()", x.undo(), 0);
        Check.state(x, 1, 0, 0, 0);
        Check.same("margin()", x.margin(), 1);
        Check.throwing("begin()", Check.STATE, x::begin);
    }

    private static void undoOfPlay() {
        CoinStrings x = Check.begun(pairAndOne());
        Check.same("play()", x.play(), 2);
        Check.state(x, 4, 1, 2, 0);
        Check.same("undo() of the second", x.undo(), 1);
        Check.state(x, 6, 0, 2, 0);
        Check.same("undo() of the first", x.undo(), 0);
        Check.state(x, 7, 0, 0, 0);
    }

    private static void undoOfNone() {
        CoinStrings x = new CoinStrings();
        Check.throwing("undo() of a new object", Check.ELEMENT, x::undo);
        x.add(0, 1);
        Check.throwing("undo() before begin", Check.ELEMENT, x::undo);
        x.begin();
        Check.throwing("undo() before any cut", Check.ELEMENT, x::undo);
        Check.state(x, 1, 0, 0, 0);
    }

    private static void undoOfAllTakenBack() {
        CoinStrings x = Check.begun(pairAndOne());
        x.cut(2);
        x.cut(0);
        x.undo();
        x.undo();
        Check.throwing("undo()", Check.ELEMENT, x::undo);
        Check.throwing("undo() again", Check.ELEMENT, x::undo);
        Check.state(x, 7, 0, 0, 0);
        x.cut(1);
        Check.same("undo() of another cut", x.undo(), 1);
    }

    private static void playTheLeastGood() {
        // A coin on two strings, with strings 0 and 2, and coins to take with strings 1 and 3.
        CoinStrings x = Check.begun(Check.strung(5, -1, 0, -1, 5, -1, 1, -1));
        Check.same("good()", x.good(), 10);
        Check.same("play()", x.play(), 3);
        int[] due = {0, 3, 1};
        for (int i : due) {
            Check.same("undo()", x.undo(), i);
        }
        // All are good: the least is string 0, and string 1 when that has been cut.
        CoinStrings y = Check.begun(Check.strung(0, -1, 0, -1, 0, -1));
        y.play();
        Check.same("left()", y.left(), 6);
        y.play();
        Check.same("left()", y.left(), 4);
    }

    private static void playUntilTheOtherHasTheTurn() {
        CoinStrings x = Check.begun(Check.strung(3, -1, 3, -1));
        Check.same("play() of a cut that takes nothing", x.play(), 1);
        Check.state(x, 2, 1, 0, 0);
        CoinStrings y = Check.begun(Check.strung(0, -1, 1, -1, 3, -1, 3, -1));
        Check.same("play() of two that take, and one", y.play(), 3);
        Check.state(y, 8, 1, 2, 0);
    }

    private static void playToTheEnd() {
        CoinStrings x = Check.begun(Check.strung(0, 1, 1, -1));
        Check.same("play()", x.play(), 2);
        Check.state(x, 0, 0, 2, 0);
    }

    private static void playAtTheEnd() {
        CoinStrings x = Check.begun(Check.strung(3, -1, 3, -1));
        x.cut(1);
        x.cut(0);
        Check.same("play()", x.play(), 0);
        Check.state(x, 0, 1, 0, 1);
        Check.same("undo() after it", x.undo(), 0);
    }

    private static void playTheMost() {
        CoinStrings x = Check.begun(Check.strung(0, -1, 1, -1, 2, -1, 3, -1, 4, -1, 5, -1, 6, -1, 7, -1));
        Check.same("play() of eight coins apart", x.play(), 8);
        Check.state(x, 0, 0, 8, 0);
        CoinStrings y = Check.begun(Check.strung(0, 1, 1, 2, 2, 3, 3, 4, 4, 5, 5, 6, 6, 7, 7, -1));
        Check.same("play() of eight coins in a row", y.play(), 8);
        Check.state(y, 0, 0, 8, 0);
    }

    private static void playOfTheSecondPlayer() {
        CoinStrings x = Check.begun(Check.strung(3, -1, 3, -1, 4, -1, 4, -1));
        x.cut(3);
        Check.same("play()", x.play(), 2);
        Check.state(x, 2, 0, 0, 1);
        Check.same("play() of the first again", x.play(), 1);
        Check.state(x, 0, 0, 1, 1);
    }

    private static void playBeforeTheGame() {
        CoinStrings x = new CoinStrings();
        Check.throwing("play() of a new object", Check.STATE, x::play);
        x.add(0, 1);
        Check.throwing("play() before begin", Check.STATE, x::play);
        Check.state(x, 1, 0, 0, 0);
    }

    private static void turnAtTheEnd() {
        CoinStrings x = Check.begun(Check.strung(2, -1));
        x.cut(0);
        Check.same("turn() when player 0 cut last", x.turn(), 0);
        CoinStrings y = Check.begun(Check.strung(2, -1, 2, -1));
        y.cut(0);
        y.cut(1);
        Check.same("turn() when player 1 cut last", y.turn(), 1);
    }

    private static void turnBeforeTheGame() {
        CoinStrings x = new CoinStrings();
        Check.same("turn() of a new object", x.turn(), 0);
        x.add(0, -1);
        Check.same("turn() with a string", x.turn(), 0);
        x.add(0, -1);
        x.begin();
        Check.same("turn() after begin", x.turn(), 0);
        x.cut(0);
        x.clear();
        Check.same("turn() after clear", x.turn(), 0);
    }

    private static void takenNoneAndAll() {
        CoinStrings x = Check.begun(Check.strung(0, 1, 2, 3, 4, 5, 6, 7));
        Check.state(x, 15, 0, 0, 0);
        x.play();
        Check.state(x, 0, 0, 8, 0);
        CoinStrings y = Check.begun(Check.strung(0, 1, 0, 1));
        y.cut(1);
        y.cut(0);
        Check.state(y, 0, 1, 0, 2);
    }

    private static void takenOfNoPlayer() {
        for (CoinStrings x : List.of(new CoinStrings(), Check.strung(0, 1), Check.begun(Check.strung(0, 1)))) {
            for (int player : Check.andFar(-1, -2, 2, 3)) {
                Check.throwing("taken(" + player + ")", Check.INDEX, () -> x.taken(player));
            }
            Check.same("taken(0)", x.taken(0), 0);
            Check.same("taken(1)", x.taken(1), 0);
        }
    }

    private static void leftBeforeTheGame() {
        CoinStrings x = new CoinStrings();
        Check.same("left() of none", x.left(), 0);
        for (int i = 0; i < 12; i++) {
            x.add(i % 8, -1);
            Check.same("left()", x.left(), (2 << i) - 1);
        }
        x.begin();
        Check.same("left() after begin", x.left(), 4095);
    }

    private static void leftOfTwelve() {
        CoinStrings x = Check.begun(Check.board(2, 2));
        for (int i = 0; i < 12; i++) {
            x.cut(i);
            Check.same("left() without string " + i, x.left(), 4095 - (1 << i));
            x.undo();
        }
        for (int i = 0; i < 12; i++) {
            x.cut(i);
            Check.same("left() after cut(" + i + ")", x.left(), 4096 - (2 << i));
        }
    }

    private static void stringsNoneAndAll() {
        CoinStrings x = new CoinStrings();
        for (int i = 0; i < 12; i++) {
            x.add(7, i % 2 - 1);
        }
        Check.same("strings(7) of twelve", x.strings(7), 12);
        Check.same("strings(0)", x.strings(0), 6);
        Check.same("strings(1) of a coin that is not in the game", x.strings(1), 0);
        x.begin();
        for (int i = 0; i < 12; i++) {
            x.cut(i);
            Check.same("strings(7) after cut(" + i + ")", x.strings(7), 11 - i);
        }
        x.undo();
        Check.same("strings(7) after undo()", x.strings(7), 1);
    }

    private static void stringsOfNoCoin() {
        for (CoinStrings x : List.of(new CoinStrings(), Check.board(2, 2), Check.begun(Check.strung(7, -1)))) {
            for (int coin : Check.andFar(-1, -2, 8, 9)) {
                Check.throwing("strings(" + coin + ")", Check.INDEX, () -> x.strings(coin));
            }
        }
        Check.same("strings(0) of a new object", new CoinStrings().strings(0), 0);
        Check.same("strings(7) of a new object", new CoinStrings().strings(7), 0);
    }
}
