/** The example of README.md, with the answers that it tells. */
public final class ReadmeTest {
    public static void main(String[] args) {
        CoinStrings game = new CoinStrings();
        Check.same("board(2, 2)", game.board(2, 2), 12);
        game.begin();
        Check.same("margin()", game.margin(), 2);
        Check.same("good()", game.good(), 3763);
        Check.same("cut(0)", game.cut(0), 0);
        Check.same("turn()", game.turn(), 1);
        Check.same("play()", game.play(), 1);
        Check.same("nim()", game.nim(), 0);
        Check.same("undo()", game.undo(), 1);
        Check.same("show()", game.show(), 61);
        Check.end();
    }
}
