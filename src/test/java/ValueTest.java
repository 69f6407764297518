/** Promises 13 to 16: margin, good, nim, mad, each on games small enough to work out by hand. */
public final class ValueTest {
    public static void main(String[] args) {
        Check.says("13: The margin. -- and what 14 to 16 say of the same games", ValueTest::gamesByHand);
        Check.says("14: The strings whose cuts are good, string i as the bit 2^i.", ValueTest::goodCuts);
        Check.says("15: The nim value, or LOONY.", ValueTest::numbersAndLoony);
        Check.says("16: The strings whose cuts take nothing and leave a position that is LOONY.", ValueTest::madCuts);
        Check.says("The NIM VALUE of a position is a number from 0 on, or LOONY.", ValueTest::numbersFromZero);
        Check.says("`LOONY = -1`: What nim() answers for LOONY.", ValueTest::theConstant);
        Check.end();
    }

    private static void gamesByHand() {
        oneString();
        quietStrings();
        twoCoinsOnOneString();
        aCoinToLeave();
        longChain();
        loopAndChain();
        nimByQuietCutsAlone();
        nimOfMoreThanOne();
        askedForFirst();
        boards();
        valuesFollowTheCuts();
    }

    private static void values(String name, CoinStrings x, int margin, int good, int nim, int mad) {
        Check.same("margin() of " + name, x.margin(), margin);
        Check.same("good() of " + name, x.good(), good);
        Check.same("nim() of " + name, x.nim(), nim);
        Check.same("mad() of " + name, x.mad(), mad);
    }

    private static void oneString() {
        CoinStrings x = Check.begun(Check.strung(6, -1));
        values("one string", x, 1, 1, 0, 0);
        x.cut(0);
        values("the end", x, 0, 0, 0, 0);
    }

    private static void quietStrings() {
        // One coin on n strings: every cut but the last is quiet.
        values("a coin on 2", Check.begun(Check.strung(0, -1, 0, -1)), -1, 3, 1, 0);
        values("a coin on 3", Check.begun(Check.strung(0, -1, 0, -1, 0, -1)), 1, 7, 0, 0);
        values("a coin on 4", Check.begun(Check.board(1, 1)), -1, 15, 1, 0);
    }

    private static void twoCoinsOnOneString() {
        values("two coins on one string", Check.begun(Check.strung(0, 1)), 2, 1, 0, 0);
        // The second cut of either order takes; the first takes nothing and gives both away.
        values("two coins on two strings", Check.begun(Check.strung(0, 1, 1, 0)), -2, 3, 1, 0);
        values("two pairs", Check.begun(Check.strung(0, 1, 2, 3)), 4, 3, 0, 0);
    }

    private static void aCoinToLeave() {
        // 0 hangs on 1 alone, 1 on the ground too. Cutting string 0 takes 0 and leaves value 0;
        // cutting string 1 takes nothing and leaves value 0 as well, so the position is loony.
        values("a coin that may be left", Check.begun(Check.strung(0, 1, 1, -1)), 2, 1, CoinStrings.LOONY, 0);
    }

    private static void longChain() {
        // The three coins between two grounds: any cut gives them all away.
        CoinStrings x = Check.begun(Check.strung(0, -1, 0, 1, 1, 2, 2, -1));
        values("a chain of three", x, -3, 15, 0, 15);
        x.cut(0);
        // Taking 0 leaves a loony position again, so this one is loony; the quiet cuts leave nothing but
        // coins to take, and the value 0 at the end.
        values("an opened chain of three", x, 3, 2, CoinStrings.LOONY, 0);
    }

    private static void loopAndChain() {
        CoinStrings x = Check.begun(Check.strung(0, 1, 1, 2, 2, 3, 3, 0, 4, -1, 4, 5, 5, 6, 6, -1));
        // Who opens the loop loses 4 and gets the chain; who opens the chain gets 2 of 3 and loses the loop.
        values("a loop of four and a chain of three", x, -1, 15, 0, 255);
        x.cut(0);
        values("an opened loop and a chain", x, 1, 10, CoinStrings.LOONY, 0xF0);
    }

    private static void nimByQuietCutsAlone() {
        // Coins 0 and 1 each on two strings to the ground: values 1 and 1 make 0.
        values("two coins on 2", Check.begun(Check.strung(0, -1, 0, -1, 1, -1, 1, -1)), 0, 15, 0, 0);
        // Coin 0 on 2 strings, coin 1 free to take: the quiet cuts leave 0, the taking cut leaves 1.
        values("a coin on 2 and a coin on 1", Check.begun(Check.strung(0, -1, 0, -1, 1, -1)), 0, 4, 1, 0);
    }

    private static void nimOfMoreThanOne() {
        // The ground's strings leave 0 (a loop of two, value 1, can be reached), the others a chain of two, value 1.
        values("two coins on 3", Check.begun(Check.strung(0, -1, 1, -1, 0, 1, 0, 1)), 2, 12, 2, 0);
        // The same in another order of the strings, and beside a coin on 2, value 1, and a coin on 1, to be taken.
        values("two coins on 3 again", Check.begun(Check.strung(0, 1, 1, 0, 1, -1, 0, -1)), 2, 3, 2, 0);
        Check.same("nim() beside a coin on 2",
                Check.begun(Check.strung(0, -1, 1, -1, 0, 1, 0, 1, 2, -1, 2, -1)).nim(), 3);
        values("beside a coin on 1", Check.begun(Check.strung(0, -1, 1, -1, 2, -1, 0, 1, 0, 1)), 3, 4, 2, 0);
    }

    private static void askedForFirst() {
        Check.same("mad() asked for first", Check.begun(Check.strung(0, -1, 0, 1, 1, 2, 2, -1)).mad(), 15);
        Check.same("good() asked for first", Check.begun(Check.strung(0, -1, 0, 1, 1, -1)).good(), 7);
        Check.same("nim() asked for first", Check.begun(Check.strung(0, 1, 1, -1)).nim(), CoinStrings.LOONY);
        Check.same("margin() asked for first", Check.begun(Check.strung(0, 1, 1, -1)).margin(), 2);
    }

    private static void boards() {
        values("board(2, 2)", Check.begun(Check.board(2, 2)), 2, 3763, 0, 0);
        CoinStrings x = Check.begun(Check.board(1, 3));
        Check.same("margin() of board(1, 3)", x.margin(), -1);
        Check.same("nim() of board(1, 3)", x.nim(), 1);
        CoinStrings y = Check.begun(Check.board(3, 1));
        Check.same("margin() of board(3, 1)", y.margin(), -1);
        Check.same("nim() of board(3, 1)", y.nim(), 1);
    }

    private static void valuesFollowTheCuts() {
        CoinStrings x = Check.begun(Check.strung(0, 1, 1, -1));
        x.cut(1);
        values("what is left after a cut", x, 2, 1, 0, 0);
        x.undo();
        values("what is left after undo", x, 2, 1, CoinStrings.LOONY, 0);
    }

    private static void goodCuts() {
        // Coins 0 and 1 can be taken, with strings 1 and 3; coin 5 is then the other player's.
        CoinStrings x = Check.begun(Check.strung(5, -1, 0, -1, 5, -1, 1, -1));
        Check.same("margin()", x.margin(), 1);
        Check.same("good()", x.good(), 10);
        x.cut(3);
        Check.same("good() after one", x.good(), 2);
        x.cut(1);
        Check.same("good() after both", x.good(), 5);
    }

    private static void numbersAndLoony() {
        CoinStrings x = Check.begun(Check.strung(0, 1, 1, -1, 2, -1, 2, -1));
        Check.same("nim() of a chain to take and a coin on 2", x.nim(), CoinStrings.LOONY);
        x.cut(0);
        Check.same("nim() of a coin on 1 and a coin on 2", x.nim(), 1);
        x.cut(1);
        Check.same("nim() of a coin on 2", x.nim(), 1);
        x.cut(2);
        Check.same("nim() of a coin on 1", x.nim(), 0);
    }

    private static void madCuts() {
        // To open the chain of three is mad; of the loop of two both coins must be taken, as nothing is left of it.
        CoinStrings x = Check.begun(Check.strung(3, 4, 0, -1, 0, 1, 1, 2, 2, -1, 4, 3));
        Check.same("mad()", x.mad(), 30);
        x.cut(0);
        Check.same("mad() after the loop is opened", x.mad(), 30);
        x.cut(1);
        Check.same("mad() after both are opened", x.mad(), 0);
    }

    private static void numbersFromZero() {
        for (int coins = 1; coins <= 6; coins++) {
            CoinStrings x = new CoinStrings();
            for (int i = 0; i < 2 * coins; i++) {
                x.add(i / 2, -1);
            }
            x.begin();
            Check.same("nim() of " + coins + " coins on 2", x.nim(), coins % 2);
        }
    }

    private static void theConstant() {
        CoinStrings x = Check.begun(Check.strung(0, 1, 1, -1));
        Check.same("nim()", x.nim(), CoinStrings.LOONY);
        Check.same("nim(), in figures", x.nim(), -1);
    }
}
