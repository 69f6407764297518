import java.util.List;
import java.util.function.ToIntFunction;

/** Promises 13 to 16 at their edges, with the terms of margin and nim value: each sentence has a test of its own. */
public final class ValueEdgeTest {
    private static final int LOONY = CoinStrings.LOONY;

    public static void main(String[] args) {
        margins();
        nimValues();
        beforeTheGame();
        Check.end();
    }

    private static void margins() {
        Check.says("Its MARGIN is 0 when it is empty", ValueEdgeTest::emptyMargin);
        Check.says("otherwise the greatest number that a cut of one of its strings gives", ValueEdgeTest::oneCutAlone);
        Check.says("the greatest number that a cut [..] gives -- 8 and -8", ValueEdgeTest::leastAndGreatestMargins);
        Check.says("t + m if t is more than 0", ValueEdgeTest::takingOneOrTwo);
        Check.says("-m if t is 0", ValueEdgeTest::takingNothing);
        Check.says("the greatest number -- by a cut that leaves coins", ValueEdgeTest::leavingCoins);
        Check.says("A cut is GOOD if it gives the margin.", ValueEdgeTest::someCutsAreGood);
        Check.says("14: The strings whose cuts are good -- all", ValueEdgeTest::allCutsAreGood);
        Check.says("14: The strings whose cuts are good -- none, at the end", ValueEdgeTest::noCutIsGood);
        Check.says("14: string i as the bit 2^i -- the last of 12", ValueEdgeTest::lastOfTwelveIsGood);
    }

    private static void nimValues() {
        Check.says("a number from 0 on -- of the empty position", ValueEdgeTest::emptyNim);
        Check.says("If there are no cuts that take something, it is the least number from 0 on that is not in A",
                ValueEdgeTest::leastNumber);
        Check.says("a number from 0 on -- large ones", ValueEdgeTest::largeNumbers);
        Check.says("(LOONY does not count)", ValueEdgeTest::loonyDoesNotCount);
        Check.says("if LOONY is in B [..] it is LOONY", ValueEdgeTest::loonyAfterTaking);
        Check.says("if LOONY is in B [..] it is LOONY -- beside a number", ValueEdgeTest::loonyAndANumberAfterTaking);
        Check.says("or B has two different numbers -- which never comes", ValueEdgeTest::sameNumberAfterTaking);
        Check.says("or the only number in B is in A too, it is LOONY", ValueEdgeTest::numberInBoth);
        Check.says("if not, it is that number", ValueEdgeTest::numberInOne);
        Check.says("16: take nothing and leave a position that is LOONY -- all", ValueEdgeTest::allCutsAreMad);
        Check.says("16: take nothing and leave a position that is LOONY -- some", ValueEdgeTest::someCutsAreMad);
        Check.says("16: The strings whose cuts take nothing", ValueEdgeTest::takingIsNotMad);
        Check.says("16: The strings -- none, at the end", ValueEdgeTest::noCutIsMad);
    }

    private static void beforeTheGame() {
        Check.says("13: IllegalStateException when the game has not begun", () -> refuse("margin()",
                CoinStrings::margin));
        Check.says("14: IllegalStateException when the game has not begun", () -> refuse("good()", CoinStrings::good));
        Check.says("15: IllegalStateException when the game has not begun", () -> refuse("nim()", CoinStrings::nim));
        Check.says("16: IllegalStateException when the game has not begun", () -> refuse("mad()", CoinStrings::mad));
    }

    private static void refuse(String name, ToIntFunction<CoinStrings> call) {
        CoinStrings x = new CoinStrings();
        Check.throwing(name + " of a new object", Check.STATE, () -> call.applyAsInt(x));
        x.add(0, 1);
        Check.throwing(name + " before begin", Check.STATE, () -> call.applyAsInt(x));
        x.begin();
        Check.same(name + " after begin", Check.outcome(() -> call.applyAsInt(x)) instanceof Integer, true);
        x.cut(0);
        Check.same(name + " at the end", Check.outcome(() -> call.applyAsInt(x)), 0);
        x.clear();
        Check.throwing(name + " after clear", Check.STATE, () -> call.applyAsInt(x));
        x.add(0, 1);
        Check.throwing(name + " before the second begin", Check.STATE, () -> call.applyAsInt(x));
    }

    private static CoinStrings game(int... ends) {
        return Check.begun(Check.strung(ends));
    }

    private static CoinStrings cut(CoinStrings x, int i) {
        x.cut(i);
        return x;
    }

    /** A game of one string that has been cut. */
    private static CoinStrings ended() {
        return cut(game(4, -1), 0);
    }

    private static void emptyMargin() {
        Check.same("margin()", ended().margin(), 0);
    }

    private static void oneCutAlone() {
        Check.same("margin() of one coin", game(7, -1).margin(), 1);
        Check.same("margin() of two coins", game(0, 7).margin(), 2);
        // The only cuts there are lose: the greatest number is less than 0.
        Check.same("margin() of a coin on 2", game(7, -1, 7, -1).margin(), -1);
    }

    private static void leastAndGreatestMargins() {
        Check.same("margin() of eight coins in pairs", game(0, 1, 2, 3, 4, 5, 6, 7).margin(), 8);
        Check.same("margin() of a loop of eight",
                game(0, 1, 1, 2, 2, 3, 3, 4, 4, 5, 5, 6, 6, 7, 7, 0).margin(), -8);
        Check.same("good() of a loop of eight",
                game(0, 1, 1, 2, 2, 3, 3, 4, 4, 5, 5, 6, 6, 7, 7, 0).good(), 255);
    }

    private static void takingOneOrTwo() {
        Check.same("margin() of 1 and -1", game(0, -1, 1, -1, 1, -1).margin(), 0);
        Check.same("margin() of 2 and -1", game(0, 2, 1, -1, 1, -1).margin(), 1);
    }

    private static void takingNothing() {
        Check.same("margin() of a coin on 3", game(0, -1, 0, -1, 0, -1).margin(), 1);
        Check.same("margin() of two coins on 3", game(0, 1, 0, 1, 0, 1).margin(), 2);
    }

    /** A chain of three that was opened, beside a loop of four. */
    private static CoinStrings openedChain() {
        return cut(game(4, -1, 4, 5, 5, 6, 6, -1, 0, 1, 1, 2, 2, 3, 3, 0), 0);
    }

    private static void leavingCoins() {
        // To take all three coins and open the loop gives 3 - 4; to leave two of them gives 1 - 2 + 4.
        CoinStrings x = openedChain();
        Check.same("margin()", x.margin(), 3);
        x.cut(1);
        Check.same("margin() of two coins to take", x.margin(), 2);
        Check.same("good() leaves them", x.good(), 8);
    }

    private static void someCutsAreGood() {
        Check.same("good() of a coin on 1 and one on 2", game(0, -1, 0, -1, 1, -1).good(), 4);
        // Both coins on three: the ground's strings lose two coins, the others win them.
        Check.same("good() of two coins on 3", game(0, -1, 1, -1, 0, 1, 0, 1).good(), 12);
    }

    private static void allCutsAreGood() {
        Check.same("good() of one", game(7, -1).good(), 1);
        Check.same("good() of a board", Check.begun(Check.board(1, 1)).good(), 15);
        CoinStrings x = new CoinStrings();
        for (int i = 0; i < 12; i++) {
            x.add(5, -1);
        }
        Check.same("good() of twelve", Check.begun(x).good(), 4095);
    }

    private static void noCutIsGood() {
        Check.same("good()", ended().good(), 0);
    }

    private static void lastOfTwelveIsGood() {
        CoinStrings x = new CoinStrings();
        for (int i = 0; i < 10; i++) {
            x.add(5, -1);
        }
        x.add(0, -1);
        x.add(0, 1);
        // Coin 1 is to be taken with string 11, then coin 0 with string 10.
        Check.same("good()", Check.begun(x).good(), 2048);
        Check.same("cut(11)", x.cut(11), 1);
        Check.same("good() after it", x.good(), 1024);
    }

    private static void emptyNim() {
        Check.same("nim()", ended().nim(), 0);
    }

    private static void leastNumber() {
        Check.same("nim() with 0 in A", game(0, -1, 0, -1).nim(), 1);
        Check.same("nim() with 1 alone in A", game(0, -1, 0, -1, 0, -1).nim(), 0);
        Check.same("nim() with 0 and 1 in A", game(0, -1, 1, -1, 0, 1, 0, 1).nim(), 2);
    }

    private static void largeNumbers() {
        Check.same("nim() of 3", game(0, 2, 2, 3, 0, 3, 1, 2, 0, 1, 2, -1).nim(), 3);
        Check.same("nim() of 4", game(1, 3, 1, 2, 2, 3, 2, 4, 3, 4, 1, -1, 1, -1).nim(), 4);
        CoinStrings x = game(1, 3, 0, 5, 2, 5, 0, 5, 2, 4, 3, 5, 1, 4, 0, 2, 1, 2, 0, 2, 1, 5, 0, 4);
        Check.same("nim() of twelve strings", x.nim(), 7);
    }

    private static void loonyDoesNotCount() {
        Check.same("nim() with LOONY alone in A", game(0, -1, 0, 1, 1, 2, 2, -1).nim(), 0);
        // A coin on 2 beside it: its strings leave 0, the others LOONY.
        Check.same("nim() with LOONY and 0 in A", game(0, -1, 0, 1, 1, 2, 2, -1, 3, -1, 3, -1).nim(), 1);
    }

    private static void loonyAfterTaking() {
        CoinStrings x = cut(game(0, -1, 0, 1, 1, 2, 2, -1), 0);
        Check.same("nim()", x.nim(), LOONY);
        x.cut(1);
        Check.same("nim() after the taking cut", x.nim(), LOONY);
    }

    private static void loonyAndANumberAfterTaking() {
        // Coin 2 alone, and coins 1 and 0 in a row: to take 2 leaves LOONY, to take 1 leaves 0.
        CoinStrings x = game(2, -1, 0, 1, 0, -1);
        Check.same("nim()", x.nim(), LOONY);
        Check.same("nim() after taking 2", cut(x, 0).nim(), LOONY);
        x.undo();
        Check.same("nim() after taking 1", cut(x, 1).nim(), 0);
    }

    private static void sameNumberAfterTaking() {
        // Whichever coin is taken first, the others can be taken next: what is left has the same number.
        Check.same("nim() of two coins apart", game(0, -1, 1, -1).nim(), 0);
        CoinStrings x = game(0, -1, 1, -1, 2, -1, 2, -1);
        Check.same("nim() beside a coin on 2", x.nim(), 1);
        Check.same("nim() after cut(0)", cut(x, 0).nim(), 1);
        x.undo();
        Check.same("nim() after cut(1)", cut(x, 1).nim(), 1);
        Check.same("nim() beside two coins on 3", game(0, -1, 1, -1, 2, -1, 3, -1, 2, 3, 2, 3).nim(), 2);
    }

    private static void numberInBoth() {
        Check.same("nim() of a chain to take", game(0, 1, 1, -1).nim(), LOONY);
        Check.same("nim() in another order", game(7, -1, 7, 6).nim(), LOONY);
        Check.same("nim() beside a coin on 2", game(0, 1, 1, -1, 2, -1, 2, -1).nim(), LOONY);
    }

    private static void numberInOne() {
        Check.same("nim() with 0 in B alone", game(0, 1).nim(), 0);
        Check.same("nim() with 1 in B, 0 in A", game(0, -1, 0, -1, 1, -1).nim(), 1);
        Check.same("nim() with 1 in B, LOONY in A", game(0, 1, 0, -1, 0, -1).nim(), 1);
        Check.same("nim() with 2 in B", game(0, -1, 1, -1, 2, -1, 0, 1, 0, 1).nim(), 2);
    }

    private static void allCutsAreMad() {
        CoinStrings x = game(0, -1, 0, 1, 1, 2, 2, 3, 3, 4, 4, 5, 5, 6, 6, 7, 7, -1);
        Check.same("mad() of a chain of eight", x.mad(), 511);
        Check.same("mad() of a loop of four", game(0, 1, 1, 2, 2, 3, 3, 0).mad(), 15);
    }

    private static void someCutsAreMad() {
        CoinStrings x = game(3, -1, 3, -1, 0, -1, 0, 1, 1, 2, 2, -1);
        Check.same("mad() of a coin on 2 and a chain of three", x.mad(), 60);
        // The middle string leaves two coins apart to take, the others a coin that may be left.
        Check.same("mad() of a chain of two", game(0, -1, 0, 1, 1, -1).mad(), 5);
    }

    private static void takingIsNotMad() {
        // To take coin 0 leaves LOONY, but takes.
        CoinStrings x = cut(game(0, -1, 0, 1, 1, 2, 2, -1), 0);
        Check.same("mad()", x.mad(), 0);
        Check.same("cut(1)", x.cut(1), 1);
        Check.same("nim()", x.nim(), LOONY);
        Check.same("mad() of quiet cuts that leave numbers", Check.begun(Check.board(1, 1)).mad(), 0);
    }

    private static void noCutIsMad() {
        Check.same("mad()", ended().mad(), 0);
        for (CoinStrings x : List.of(game(0, 1), game(7, -1))) {
            Check.same("mad() of one string", x.mad(), 0);
        }
    }
}
