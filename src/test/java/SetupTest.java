import java.util.ArrayList;
import java.util.List;

/** Promises 1 to 5 on ordinary games: a new object, add, board, begin, clear. */
public final class SetupTest {
    private static final int[][] BOARDS = {{1, 1}, {1, 2}, {2, 1}, {1, 3}, {3, 1}, {2, 2}};

    public static void main(String[] args) {
        Check.says("2: Adds a string between coins a and b, or a and the ground (b = -1): its number.",
                SetupTest::adding);
        boards();
        Check.says("4: Begins the game.", SetupTest::beginning);
        Check.says("5: No strings, not begun; takings are 0.", SetupTest::clearing);
        Check.end();
    }

    private static void boards() {
        Check.says("3: All strings are there at once of a board of boxes", SetupTest::allAtOnce);
        Check.says("3: coins are the boxes of rows and columns, row by row", SetupTest::rowByRow);
        Check.says("3: each is joined to those beside and below it", SetupTest::boxesBesideAndBelow);
        Check.says("3: and to the ground for each side at the border", SetupTest::sidesAtTheBorder);
        Check.says("3: In the order of the boxes, for each", SetupTest::orderOfStrings);
    }

    private static void adding() {
        CoinStrings x = new CoinStrings();
        Check.same("add(2, 5)", x.add(2, 5), 0);
        Check.same("add(5, 3)", x.add(5, 3), 1);
        Check.same("add(3, -1)", x.add(3, -1), 2);
        Check.same("text after adding", Check.text(x), "0:2-5;1:3-5;2:3=;");
        Check.same("left() after adding", x.left(), 7);
    }

    private static String name(int[] board) {
        return "board(" + board[0] + ", " + board[1] + ")";
    }

    /** The strings of a board as the text tells them, without their numbers. */
    private static List<String> strings(int[] board) {
        List<String> found = new ArrayList<>();
        for (String string : Check.text(Check.board(board[0], board[1])).split(";")) {
            found.add(string.substring(string.indexOf(':') + 1));
        }
        return found;
    }

    private static int count(List<String> strings, String one) {
        int found = 0;
        for (String string : strings) {
            if (string.equals(one)) {
                found++;
            }
        }
        return found;
    }

    private static void allAtOnce() {
        for (int[] board : BOARDS) {
            CoinStrings x = new CoinStrings();
            int count = x.board(board[0], board[1]);
            Check.same("left() of " + name(board), x.left(), (1 << count) - 1);
            Check.same("how many the text of " + name(board) + " has", strings(board).size(), count);
            x.begin();
            Check.state(x, (1 << count) - 1, 0, 0, 0);
        }
    }

    private static void rowByRow() {
        for (int[] board : BOARDS) {
            CoinStrings x = Check.board(board[0], board[1]);
            for (int coin = 0; coin < 8; coin++) {
                int due = coin < board[0] * board[1] ? 4 : 0;
                Check.same("strings(" + coin + ") of " + name(board), x.strings(coin), due);
            }
        }
        // Box 1 is beside box 0 if there are two columns, and below it if there is one.
        Check.same("strings of board(1, 2)", strings(new int[] {1, 2}),
                List.of("0=", "0=", "0-1", "0=", "1=", "1=", "1="));
        Check.same("strings of board(2, 1)", strings(new int[] {2, 1}),
                List.of("0=", "0=", "0=", "0-1", "1=", "1=", "1="));
    }

    private static void boxesBesideAndBelow() {
        for (int[] board : BOARDS) {
            List<String> strings = strings(board);
            for (int one = 0; one < board[0] * board[1]; one++) {
                for (int two = one + 1; two < board[0] * board[1]; two++) {
                    boolean beside = two == one + 1 && two % board[1] != 0;
                    boolean below = two == one + board[1];
                    Check.same(one + "-" + two + " of " + name(board), count(strings, one + "-" + two),
                            beside || below ? 1 : 0);
                }
            }
        }
    }

    private static void sidesAtTheBorder() {
        for (int[] board : BOARDS) {
            for (int box = 0; box < board[0] * board[1]; box++) {
                int row = box / board[1];
                int column = box % board[1];
                int sides = 0;
                for (boolean border : new boolean[] {row == 0, column == 0, row == board[0] - 1,
                    column == board[1] - 1}) {
                    sides += border ? 1 : 0;
                }
                Check.same(box + "= of " + name(board), count(strings(board), box + "="), sides);
            }
        }
    }

    private static void orderOfStrings() {
        for (int[] board : BOARDS) {
            int box = 0;
            for (String string : strings(board)) {
                int next = string.charAt(0) - '0';
                Check.same("whether " + string + " of " + name(board) + " comes in order",
                        next == box || next == box + 1, true);
                box = next;
            }
        }
        Check.same("strings of board(2, 2)", strings(new int[] {2, 2}),
                List.of("0=", "0=", "0-1", "0-2", "1=", "1=", "1-3", "2=", "2-3", "2=", "3=", "3="));
    }

    private static void beginning() {
        CoinStrings x = Check.strung(2, 5, 5, 3, 3, -1);
        x.begin();
        Check.state(x, 7, 0, 0, 0);
        Check.same("margin() after begin", x.margin(), 3);
        Check.same("cut(0) after begin", x.cut(0), 1);
    }

    private static void clearing() {
        CoinStrings x = Check.begun(Check.strung(2, 5, 5, 3, 3, -1));
        x.play();
        Check.state(x, 0, 0, 3, 0);
        x.clear();
        Check.state(x, 0, 0, 0, 0);
        Check.same("board(1, 3) after clear", x.board(1, 3), 10);
        x.begin();
        Check.same("margin() of the board", x.margin(), -1);
    }
}
