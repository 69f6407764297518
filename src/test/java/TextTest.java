/** Promises 19 and 20 on an ordinary game: show, at. */
public final class TextTest {
    public static void main(String[] args) {
        making();
        Check.end();
    }

    private static void making() {
        CoinStrings x = Check.begun(Check.strung(3, 1, 4, 1, 2, -1));
        Check.same("all strings", Check.text(x), "0:1-3;1:1-4;2:2=;");
        x.cut(1);
        Check.same("two are left", Check.text(x), "0:1-3;2:2=;");
        x.cut(0);
        x.cut(2);
        Check.same("none is left", Check.text(x), "");
        x.undo();
        Check.same("one is back", Check.text(x), "2:2=;");
    }
}
