/** Promises 19 and 20 on ordinary games, with the term of the text: show, at. */
public final class TextTest {
    public static void main(String[] args) {
        Check.says("THE TEXT of a position: for each string that is left, in order: its number", TextTest::making);
        Check.says("(in decimal), a colon, the lesser of its coins, - and the other coin", TextTest::colonAndDash);
        Check.says("or just = if it joins the coin to the ground, and a semicolon", TextTest::equalsSignAndSemicolon);
        Check.says("19: Makes the text of the position: how long it is.", TextTest::lengths);
        Check.says("20: Character i of the text that was made last.", TextTest::characters);
        Check.end();
    }

    private static void making() {
        CoinStrings x = Check.begun(Check.strung(3, 1, 4, 1, 2, -1));
        Check.same("all strings", Check.text(x), "0:1-3;1:1-4;2:2=;");
        x.cut(1);
        Check.same("two are left", Check.text(x), "0:1-3;2:2=;");
        x.cut(0);
        x.cut(2);
        Check.same("none is left", Check.text(x), "");
        x.undo();
        Check.same("one is back", Check.text(x), "2:2=;");
    }

    private static void colonAndDash() {
        Check.same("text of one string", Check.text(Check.strung(6, 2)), "0:2-6;");
    }

    private static void equalsSignAndSemicolon() {
        Check.same("text of one string", Check.text(Check.strung(6, -1)), "0:6=;");
    }

    private static void lengths() {
        CoinStrings x = Check.strung(6, 2);
        Check.same("show() of a string between coins", x.show(), 6);
        x.add(6, -1);
        Check.same("show() with one to the ground", x.show(), 11);
    }

    private static void characters() {
        CoinStrings x = Check.strung(6, 2);
        x.show();
        x.add(6, -1);
        String due = "0:2-6;";
        for (int i = 0; i < due.length(); i++) {
            Check.same("at(" + i + ")", x.at(i), (int) due.charAt(i));
        }
        Check.throwing("at(6)", Check.INDEX, () -> x.at(6));
    }
}
