/** Promises 1 to 5 on ordinary games: a new object, add, board, begin, clear. */
public final class SetupTest {
    public static void main(String[] args) {
        adding();
        boards();
        beginning();
        clearing();
        Check.end();
    }

    private static void adding() {
        CoinStrings x = new CoinStrings();
        Check.same("add(2, 5)", x.add(2, 5), 0);
        Check.same("add(5, 3)", x.add(5, 3), 1);
        Check.same("add(3, -1)", x.add(3, -1), 2);
        Check.same("text after adding", Check.text(x), "0:2-5;1:3-5;2:3=;");
        Check.same("left() after adding", x.left(), 7);
    }

    private static void boards() {
        board(1, 2, "0:0=;1:0=;2:0-1;3:0=;4:1=;5:1=;6:1=;");
        board(2, 2, "0:0=;1:0=;2:0-1;3:0-2;4:1=;5:1=;6:1-3;7:2=;8:2-3;9:2=;10:3=;11:3=;");
    }

    private static void board(int rows, int columns, String text) {
        String name = "board(" + rows + ", " + columns + ")";
        CoinStrings x = new CoinStrings();
        int count = x.board(rows, columns);
        Check.same(name, count, text.split(";").length);
        Check.same("left() of " + name, x.left(), (1 << count) - 1);
        Check.same("text of " + name, Check.text(x), text);
        for (int coin = 0; coin < 8; coin++) {
            Check.same("strings(" + coin + ") of " + name, x.strings(coin), coin < rows * columns ? 4 : 0);
        }
    }

    private static void beginning() {
        CoinStrings x = Check.strung(2, 5, 5, 3, 3, -1);
        x.begin();
        Check.state(x, 7, 0, 0, 0);
        Check.same("margin() after begin", x.margin(), 3);
    }

    private static void clearing() {
        CoinStrings x = Check.begun(Check.strung(2, 5, 5, 3, 3, -1));
        x.play();
        Check.state(x, 0, 0, 3, 0);
        x.clear();
        Check.state(x, 0, 0, 0, 0);
        Check.same("board(1, 3) after clear", x.board(1, 3), 10);
        x.begin();
        Check.same("margin() of the board", x.margin(), -1);
    }
}
