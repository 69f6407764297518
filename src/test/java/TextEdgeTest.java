/** Promises 19 and 20 at their edges, with the term of the text: each sentence that names one has a test of its own. */
public final class TextEdgeTest {
    public static void main(String[] args) {
        making();
        reading();
        Check.end();
    }

    private static void making() {
        Check.says("for each string that is left, in order", TextEdgeTest::stringsInOrder);
        Check.says("its number (in decimal)", TextEdgeTest::numbersOfTwoDigits);
        Check.says("the lesser of its coins, - and the other coin", TextEdgeTest::lesserCoinFirst);
        Check.says("or just = if it joins the coin to the ground", TextEdgeTest::theGround);
        Check.says("(3:1-4;10:0=;)", TextEdgeTest::theExample);
        Check.says("19: how long it is -- the empty text", TextEdgeTest::emptyText);
        Check.says("19: how long it is -- the least and the longest text", TextEdgeTest::leastAndLongestText);
        Check.says("19: Makes the text of the position -- before the game has begun", TextEdgeTest::textBeforeTheGame);
    }

    private static void reading() {
        Check.says("20: Character i -- the first and the last", TextEdgeTest::firstAndLastCharacter);
        Check.says("20: of the text that was made last -- before another is made", TextEdgeTest::textStays);
        Check.says("20: of the text that was made last -- after clear", TextEdgeTest::textStaysAfterClear);
        Check.says("20: of the text that was made last -- a shorter one", TextEdgeTest::shorterText);
        Check.says("20: IndexOutOfBoundsException when there is none -- before any text", TextEdgeTest::noText);
        Check.says("20: IndexOutOfBoundsException when there is none -- of the empty text",
                TextEdgeTest::noCharacterOfTheEmpty);
        Check.says("20: IndexOutOfBoundsException when there is none", TextEdgeTest::noSuchCharacter);
    }

    private static void stringsInOrder() {
        CoinStrings x = Check.begun(Check.strung(7, -1, 0, -1, 3, 4));
        Check.same("all", Check.text(x), "0:7=;1:0=;2:3-4;");
        x.cut(1);
        Check.same("without string 1", Check.text(x), "0:7=;2:3-4;");
        x.cut(0);
        Check.same("without string 0", Check.text(x), "2:3-4;");
        x.undo();
        x.undo();
        Check.same("all again", Check.text(x), "0:7=;1:0=;2:3-4;");
    }

    private static void numbersOfTwoDigits() {
        CoinStrings x = new CoinStrings();
        for (int i = 0; i < 12; i++) {
            x.add(7, -1);
        }
        x.begin();
        for (int i = 0; i < 9; i++) {
            x.cut(i);
        }
        Check.same("9, 10 and 11", Check.text(x), "9:7=;10:7=;11:7=;");
    }

    private static void lesserCoinFirst() {
        Check.same("both orders", Check.text(Check.strung(0, 7, 7, 0, 5, 6, 6, 5)), "0:0-7;1:0-7;2:5-6;3:5-6;");
    }

    private static void theGround() {
        Check.same("0 and 7", Check.text(Check.strung(0, -1, 7, -1)), "0:0=;1:7=;");
    }

    private static void theExample() {
        CoinStrings x = Check.begun(
                Check.strung(2, -1, 2, -1, 2, -1, 4, 1, 2, -1, 2, -1, 2, -1, 2, -1, 2, -1, 2, -1, 0, -1));
        for (int i = 0; i < 10; i++) {
            if (i != 3) {
                x.cut(i);
            }
        }
        Check.same("the example", Check.text(x), "3:1-4;10:0=;");
    }

    private static void emptyText() {
        CoinStrings x = new CoinStrings();
        Check.same("show() of a new object", x.show(), 0);
        x.add(0, 1);
        x.begin();
        x.cut(0);
        Check.same("show() at the end", x.show(), 0);
        x.clear();
        Check.same("show() after clear", x.show(), 0);
    }

    private static void leastAndLongestText() {
        Check.same("show() of the least", Check.strung(0, -1).show(), 5);
        Check.same("the least", Check.text(Check.strung(0, -1)), "0:0=;");
        CoinStrings x = new CoinStrings();
        StringBuilder due = new StringBuilder();
        for (int i = 0; i < 12; i++) {
            x.add(7, i % 7);
            due.append(i).append(':').append(i % 7).append("-7;");
        }
        Check.same("show() of the longest", x.show(), 74);
        Check.same("the longest", Check.lastText(x), due.toString());
    }

    private static void textBeforeTheGame() {
        CoinStrings x = Check.strung(0, 1);
        Check.same("one string", Check.text(x), "0:0-1;");
        x.add(1, -1);
        Check.same("two strings", Check.text(x), "0:0-1;1:1=;");
        x.begin();
        Check.same("after begin", Check.text(x), "0:0-1;1:1=;");
    }

    private static void firstAndLastCharacter() {
        CoinStrings x = Check.board(2, 2);
        Check.same("show()", x.show(), 66);
        Check.same("at(0)", x.at(0), (int) '0');
        Check.same("at(65)", x.at(65), (int) ';');
        Check.same("at(64)", x.at(64), (int) '=');
    }

    private static void textStays() {
        CoinStrings x = Check.strung(0, 1);
        x.show();
        x.add(5, -1);
        Check.same("after add", Check.lastText(x), "0:0-1;");
        x.begin();
        x.cut(0);
        Check.same("after a cut", Check.lastText(x), "0:0-1;");
        x.show();
        Check.same("after show()", Check.lastText(x), "1:5=;");
        x.undo();
        Check.same("after undo()", Check.lastText(x), "1:5=;");
        x.play();
        Check.same("after play()", Check.lastText(x), "1:5=;");
    }

    private static void textStaysAfterClear() {
        CoinStrings x = Check.strung(3, 4);
        x.show();
        x.clear();
        Check.same("after clear", Check.lastText(x), "0:3-4;");
        x.add(7, -1);
        Check.same("after add", Check.lastText(x), "0:3-4;");
        x.show();
        Check.same("after show()", Check.lastText(x), "0:7=;");
    }

    private static void shorterText() {
        CoinStrings x = Check.begun(Check.strung(0, 1, 2, 3));
        Check.same("show() of two", x.show(), 12);
        x.cut(1);
        Check.same("show() of one", x.show(), 6);
        Check.same("at(5)", x.at(5), (int) ';');
        Check.throwing("at(6)", Check.INDEX, () -> x.at(6));
        Check.throwing("at(11)", Check.INDEX, () -> x.at(11));
        x.cut(0);
        x.show();
        Check.throwing("at(0) of the empty text", Check.INDEX, () -> x.at(0));
    }

    private static void noText() {
        CoinStrings x = Check.strung(0, 1);
        for (int i : Check.andFar(-1, 0, 1)) {
            Check.throwing("at(" + i + ") before a text is made", Check.INDEX, () -> x.at(i));
        }
        Check.same("show() after it", x.show(), 6);
    }

    private static void noCharacterOfTheEmpty() {
        CoinStrings x = new CoinStrings();
        x.show();
        for (int i : Check.andFar(-1, 0, 1)) {
            Check.throwing("at(" + i + ")", Check.INDEX, () -> x.at(i));
        }
    }

    private static void noSuchCharacter() {
        CoinStrings one = Check.strung(0, 1);
        one.show();
        for (int i : Check.andFar(-1, -2, 6, 7, 83, 84)) {
            Check.throwing("at(" + i + ") of 6", Check.INDEX, () -> one.at(i));
        }
        CoinStrings full = Check.board(2, 2);
        full.show();
        for (int i : new int[] {-1, 66, 67, 83, 84, 85, 256, Integer.MAX_VALUE, Integer.MIN_VALUE}) {
            Check.throwing("at(" + i + ") of 66", Check.INDEX, () -> full.at(i));
        }
        Check.same("at(5) of 6", one.at(5), (int) ';');
    }
}
