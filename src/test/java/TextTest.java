/** Promises 19 and 20: show, at. */
public final class TextTest {
    public static void main(String[] args) {
        making();
        longest();
        lastMade();
        noSuchCharacter();
        Check.end();
    }

    private static void making() {
        CoinStrings x = Check.begun(Check.strung(3, 1, 4, 1, 2, -1));
        Check.same("all strings", Check.text(x), "0:1-3;1:1-4;2:2=;");
        x.cut(1);
        Check.same("two are left", Check.text(x), "0:1-3;2:2=;");
        x.cut(0);
        x.cut(2);
        Check.same("none is left", Check.text(x), "");
        x.undo();
        Check.same("one is back", Check.text(x), "2:2=;");
    }

    private static void longest() {
        CoinStrings x = new CoinStrings();
        StringBuilder due = new StringBuilder();
        for (int i = 0; i < 12; i++) {
            x.add(7, i % 7);
            due.append(i).append(':').append(i % 7).append("-7;");
        }
        Check.same("show() of the longest", x.show(), 74);
        Check.same("the longest", Check.text(x), due.toString());
    }

    private static void lastMade() {
        CoinStrings x = Check.strung(0, 1);
        x.show();
        x.add(5, -1);
        x.begin();
        x.cut(0);
        Check.same("the text before another is made", Check.lastText(x), "0:0-1;");
        x.show();
        Check.same("the text after another is made", Check.lastText(x), "1:5=;");
        x.cut(1);
        Check.same("show() of none", x.show(), 0);
        Check.throwing("at(0) of the empty text", Check.INDEX, () -> x.at(0));
    }

    private static void noSuchCharacter() {
        CoinStrings x = Check.strung(0, 1);
        Check.throwing("at(0) before a text is made", Check.INDEX, () -> x.at(0));
        x.show();
        for (int i : new int[] {-1, 6, 7, 100, Integer.MAX_VALUE, Integer.MIN_VALUE}) {
            Check.throwing("at(" + i + ")", Check.INDEX, () -> x.at(i));
        }
        Check.same("at(0)", x.at(0), (int) '0');
        Check.same("at(5)", x.at(5), (int) ';');
    }
}
