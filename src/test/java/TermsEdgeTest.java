import java.lang.reflect.Method;
import java.util.ArrayList;
import java.util.List;
import java.util.function.Consumer;
import java.util.function.Supplier;

/** 'What it is' and 'Terms' at their edges: each sentence that names one has a test of its own. */
public final class TermsEdgeTest {
    private record Call(String name, Consumer<CoinStrings> body) {
        Object outcome(CoinStrings x) {
            return Check.outcome(() -> {
                body.accept(x);
                return 0;
            });
        }
    }

    private record State(String name, Supplier<CoinStrings> make) {
    }

    public static void main(String[] args) {
        manyCalls();
        coinsAndStrings();
        cutsAndTakings();
        exceptions();
        Check.end();
    }

    private static void manyCalls() {
        Check.says("An object is used for at most 512 calls after it has been made -- cuts and undos",
                TermsEdgeTest::manyCuts);
        Check.says("at most 512 calls -- games", TermsEdgeTest::manyGames);
        Check.says("at most 512 calls -- refused ones", TermsEdgeTest::manyRefusals);
        Check.says("at most 512 calls -- texts", TermsEdgeTest::manyTexts);
    }

    private static void coinsAndStrings() {
        Check.says("There are the COINS 0 .. 7", TermsEdgeTest::eightCoins);
        Check.says("and up to 12 STRINGS, numbered 0, 1, ..", TermsEdgeTest::twelveStrings);
        Check.says("a string joins two different coins", TermsEdgeTest::differentCoins);
        Check.says("or a coin and the GROUND", TermsEdgeTest::groundIsNoCoin);
        Check.says("(Several may join the same two.)", TermsEdgeTest::severalStrings);
        Check.says("(Several may join the same two.) -- a coin and the ground", TermsEdgeTest::severalToTheGround);
        Check.says("A coin that some string joins to something is IN THE GAME.", TermsEdgeTest::coinsNotInTheGame);
    }

    private static void cutsAndTakings() {
        Check.says("At first strings are ADDED; then the game is BEGUN", TermsEdgeTest::firstAddedThenBegun);
        Check.says("and they are CUT, each once at most", TermsEdgeTest::cutOnce);
        Check.says("a string that was not cut is LEFT, and belongs to the coins that it joins",
                TermsEdgeTest::belongsToBoth);
        Check.says("A coin in the game to which no string that is left belongs is TAKEN.",
                TermsEdgeTest::takenByTheLastString);
        Check.says("player 0 has the first TURN", TermsEdgeTest::firstTurn);
        Check.says("the coins, at most two, that are taken by that are that player's", TermsEdgeTest::twoAtOnce);
        Check.says("If there are none, the other player has the turn.", TermsEdgeTest::turnGoesOver);
        Check.says("THE END is when no string is left.", TermsEdgeTest::theEnd);
        Check.says("LOONY = -1", () -> Check.same("LOONY", CoinStrings.LOONY, -1));
        Check.says("LOOP = 100", () -> Check.same("LOOP", CoinStrings.LOOP, 100));
    }

    private static void exceptions() {
        Check.says("Of several exceptions the one named first is thrown -- by add", TermsEdgeTest::firstNamedOfAdd);
        Check.says("Of several exceptions the one named first is thrown -- by board", TermsEdgeTest::firstNamedOfBoard);
        Check.says("Of several exceptions the one named first is thrown -- by cut", TermsEdgeTest::firstNamedOfCut);
        Check.says("a call that throws changes nothing", TermsEdgeTest::refusedCallsChangeNothing);
        Check.says("LANGUAGE.md 6: exactly what and where the document says, and nothing else ever reaches its caller",
                TermsEdgeTest::onlyNamedExceptions);
    }

    private static void manyCuts() {
        CoinStrings x = Check.begun(Check.strung(0, 1));
        for (int calls = 2; calls < 512; calls += 2) {
            Check.same("cut(0)", x.cut(0), 2);
            Check.same("undo()", x.undo(), 0);
        }
        CoinStrings y = Check.begun(Check.board(2, 2));
        for (int calls = 2; calls + 24 <= 512; calls += 24) {
            for (int i = 0; i < 12; i++) {
                y.cut(i);
            }
            for (int i = 11; i >= 0; i--) {
                Check.same("undo()", y.undo(), i);
            }
        }
        Check.state(y, 4095, 0, 0, 0);
    }

    private static void manyGames() {
        CoinStrings x = new CoinStrings();
        for (int calls = 0; calls < 512; calls += 8) {
            x.clear();
            Check.same("board(2, 2)", x.board(2, 2), 12);
            x.begin();
            Check.same("margin()", x.margin(), 2);
            Check.same("nim()", x.nim(), 0);
            Check.same("good()", x.good(), 3763);
            Check.same("mad()", x.mad(), 0);
            Check.same("play()", x.play(), 1);
        }
    }

    private static void manyRefusals() {
        CoinStrings x = Check.begun(Check.strung(0, 1, 1, -1));
        for (int calls = 3; calls + 6 < 508; calls += 6) {
            Check.throwing("add(8, 0)", Check.ARGUMENT, () -> x.add(8, 0));
            Check.throwing("board(1, 1)", Check.STATE, () -> x.board(1, 1));
            Check.throwing("begin()", Check.STATE, x::begin);
            Check.throwing("cut(2)", Check.INDEX, () -> x.cut(2));
            Check.throwing("undo()", Check.ELEMENT, x::undo);
            Check.throwing("at(0)", Check.INDEX, () -> x.at(0));
        }
        Check.state(x, 3, 0, 0, 0);
    }

    private static void manyTexts() {
        CoinStrings x = Check.board(2, 2);
        for (int calls = 1; calls + 3 <= 512; calls += 3) {
            Check.same("show()", x.show(), 66);
            Check.same("at(0)", x.at(0), (int) '0');
            Check.same("at(65)", x.at(65), (int) ';');
        }
    }

    private static void eightCoins() {
        CoinStrings x = Check.strung(0, 1, 2, 3, 4, 5, 6, 7);
        for (int coin = 0; coin < 8; coin++) {
            Check.same("strings(" + coin + ")", x.strings(coin), 1);
        }
        x.begin();
        Check.same("margin()", x.margin(), 8);
        Check.throwing("strings(8)", Check.INDEX, () -> x.strings(8));
        Check.throwing("strings(-1)", Check.INDEX, () -> x.strings(-1));
    }

    private static void twelveStrings() {
        CoinStrings x = new CoinStrings();
        for (int i = 0; i < 12; i++) {
            Check.same("add", x.add(i % 8, (i + 1) % 8), i);
        }
        Check.throwing("a thirteenth", Check.STATE, () -> x.add(0, 4));
        x.begin();
        for (int i = 0; i < 12; i++) {
            x.cut(i);
        }
        Check.same("left()", x.left(), 0);
        Check.same("all takings", x.taken(0) + x.taken(1), 8);
    }

    private static void differentCoins() {
        CoinStrings x = new CoinStrings();
        Check.throwing("add(0, 0)", Check.ARGUMENT, () -> x.add(0, 0));
        Check.throwing("add(7, 7)", Check.ARGUMENT, () -> x.add(7, 7));
        Check.same("add(7, 0)", x.add(7, 0), 0);
    }

    private static void groundIsNoCoin() {
        CoinStrings x = Check.begun(Check.strung(0, -1));
        Check.throwing("strings(-1)", Check.INDEX, () -> x.strings(-1));
        Check.same("cut(0)", x.cut(0), 1);
        CoinStrings y = new CoinStrings();
        Check.throwing("add(-1, 0)", Check.ARGUMENT, () -> y.add(-1, 0));
        Check.throwing("add(-1, -1)", Check.ARGUMENT, () -> y.add(-1, -1));
    }

    private static void severalStrings() {
        CoinStrings x = new CoinStrings();
        for (int i = 0; i < 12; i++) {
            Check.same("add", i % 2 == 0 ? x.add(2, 6) : x.add(6, 2), i);
        }
        Check.same("strings(2)", x.strings(2), 12);
        Check.same("strings(6)", x.strings(6), 12);
        x.begin();
        for (int i = 0; i < 11; i++) {
            Check.same("cut(" + i + ")", x.cut(i), 0);
        }
        Check.same("cut(11)", x.cut(11), 2);
        Check.state(x, 0, 1, 0, 2);
    }

    private static void severalToTheGround() {
        CoinStrings x = new CoinStrings();
        for (int i = 0; i < 12; i++) {
            Check.same("add(5, -1)", x.add(5, -1), i);
        }
        Check.same("strings(5)", x.strings(5), 12);
        x.begin();
        Check.same("margin()", x.margin(), -1);
        Check.same("nim()", x.nim(), 1);
        for (int i = 11; i > 0; i--) {
            Check.same("cut(" + i + ")", x.cut(i), 0);
        }
        Check.same("cut(0)", x.cut(0), 1);
    }

    private static void coinsNotInTheGame() {
        CoinStrings x = Check.begun(Check.strung(3, -1));
        Check.state(x, 1, 0, 0, 0);
        Check.same("margin()", x.margin(), 1);
        Check.same("cut(0)", x.cut(0), 1);
        Check.state(x, 0, 0, 1, 0);
    }

    private static void firstAddedThenBegun() {
        CoinStrings x = Check.strung(0, 1);
        Check.throwing("cut(0) before begin", Check.STATE, () -> x.cut(0));
        Check.same("add(1, 2) before begin", x.add(1, 2), 1);
        x.begin();
        Check.throwing("add(2, 3) after begin", Check.STATE, () -> x.add(2, 3));
        Check.same("cut(0) after begin", x.cut(0), 1);
    }

    private static void cutOnce() {
        CoinStrings x = Check.begun(Check.strung(0, 1, 0, 1));
        Check.same("cut(0)", x.cut(0), 0);
        Check.throwing("cut(0) again", Check.ELEMENT, () -> x.cut(0));
        Check.same("cut(1)", x.cut(1), 2);
        Check.throwing("cut(1) again", Check.ELEMENT, () -> x.cut(1));
        Check.state(x, 0, 1, 0, 2);
    }

    private static void belongsToBoth() {
        CoinStrings x = Check.begun(Check.strung(7, 0, 7, -1, 0, -1));
        Check.same("strings(0)", x.strings(0), 2);
        Check.same("strings(7)", x.strings(7), 2);
        x.cut(0);
        Check.same("strings(0) after cut(0)", x.strings(0), 1);
        Check.same("strings(7) after cut(0)", x.strings(7), 1);
        x.cut(1);
        Check.same("strings(0) after cut(1)", x.strings(0), 1);
        Check.same("strings(7) after cut(1)", x.strings(7), 0);
    }

    private static void takenByTheLastString() {
        // The coin with the lesser number hangs on its last string in the first cut, the other one in the second.
        CoinStrings x = Check.begun(Check.strung(2, 4, 4, -1));
        Check.same("cut(0)", x.cut(0), 1);
        Check.same("cut(1)", x.cut(1), 1);
        CoinStrings y = Check.begun(Check.strung(2, 4, 2, -1));
        Check.same("cut(0)", y.cut(0), 1);
        Check.same("cut(1)", y.cut(1), 1);
        CoinStrings z = Check.begun(Check.strung(2, 4, 2, -1, 4, -1));
        Check.same("cut(0) with a string more on both", z.cut(0), 0);
    }

    private static void firstTurn() {
        CoinStrings x = Check.begun(Check.strung(0, -1));
        Check.same("turn()", x.turn(), 0);
        x.cut(0);
        Check.same("taken(0)", x.taken(0), 1);
    }

    private static void twoAtOnce() {
        CoinStrings x = Check.begun(Check.strung(0, 1, 2, 3, 4, -1, 4, -1));
        Check.same("cut(0)", x.cut(0), 2);
        Check.state(x, 14, 0, 2, 0);
        x.cut(2);
        Check.same("cut(1)", x.cut(1), 2);
        Check.state(x, 8, 1, 2, 2);
    }

    private static void turnGoesOver() {
        CoinStrings x = Check.begun(Check.strung(0, -1, 0, -1, 0, -1, 1, -1));
        x.cut(0);
        Check.same("turn() after none", x.turn(), 1);
        x.cut(3);
        Check.same("turn() after one", x.turn(), 1);
        x.cut(1);
        Check.same("turn() after none", x.turn(), 0);
        x.cut(2);
        Check.same("turn() after the last", x.turn(), 0);
        Check.state(x, 0, 0, 1, 1);
    }

    private static void theEnd() {
        CoinStrings x = Check.begun(Check.strung(0, 1, 2, -1));
        x.cut(0);
        Check.same("play() before the end", x.play(), 1);
        Check.same("play() at the end", x.play(), 0);
        Check.same("show() at the end", x.show(), 0);
        Check.same("groups() at the end", x.groups(), 0);
        Check.throwing("cut(1) at the end", Check.ELEMENT, () -> x.cut(1));
        Check.same("undo() at the end", x.undo(), 1);
        Check.same("play() after undo()", x.play(), 1);
    }

    private static void firstNamedOfAdd() {
        CoinStrings begun = Check.begun(Check.strung(0, 1));
        CoinStrings full = Check.board(2, 2);
        CoinStrings fullAndBegun = Check.begun(Check.board(2, 2));
        int[][] wrong = {{-1, 0}, {8, 0}, {0, -2}, {0, 8}, {3, 3}, {Integer.MIN_VALUE, Integer.MAX_VALUE}};
        for (CoinStrings x : List.of(begun, full, fullAndBegun)) {
            for (int[] ends : wrong) {
                Check.throwing("add(" + ends[0] + ", " + ends[1] + ")", Check.ARGUMENT, () -> x.add(ends[0], ends[1]));
            }
            Check.throwing("add(0, 1)", Check.STATE, () -> x.add(0, 1));
        }
    }

    private static void firstNamedOfBoard() {
        CoinStrings begun = Check.begun(Check.strung(0, 1));
        int[][] wrong = {{0, 1}, {1, 0}, {1, 4}, {3, 2}, {Integer.MIN_VALUE, 1},
            {Integer.MAX_VALUE, Integer.MAX_VALUE}};
        for (CoinStrings x : List.of(begun, Check.strung(0, 1), Check.board(2, 2))) {
            for (int[] sides : wrong) {
                Check.throwing("board(" + sides[0] + ", " + sides[1] + ")", Check.ARGUMENT,
                        () -> x.board(sides[0], sides[1]));
            }
            Check.throwing("board(1, 1)", Check.STATE, () -> x.board(1, 1));
        }
    }

    private static void firstNamedOfCut() {
        CoinStrings cleared = Check.begun(Check.strung(0, 1));
        cleared.cut(0);
        cleared.clear();
        for (CoinStrings x : List.of(new CoinStrings(), Check.strung(0, 1), cleared)) {
            for (int i : Check.andFar(-1, 0, 1, 12)) {
                Check.throwing("cut(" + i + ") before the game has begun", Check.STATE, () -> x.cut(i));
            }
        }
        CoinStrings end = Check.begun(Check.strung(0, 1));
        end.cut(0);
        for (int i : Check.andFar(-1, 1, 12)) {
            Check.throwing("cut(" + i + ") at the end", Check.INDEX, () -> end.cut(i));
        }
    }

    private static void refusedCallsChangeNothing() {
        int refusals = 0;
        for (State state : states()) {
            List<Object> due = Check.past(state.make().get());
            for (Call call : calls()) {
                CoinStrings x = state.make().get();
                if (!call.outcome(x).equals(0)) {
                    refusals++;
                    Check.same(state.name() + " after " + call.name(), Check.past(x), due);
                }
            }
        }
        Check.same("whether calls were refused", refusals > 1000, true);
    }

    private static void onlyNamedExceptions() {
        for (State state : states()) {
            for (Call call : calls()) {
                List<Object> due = named(call.name().substring(0, call.name().indexOf('(')));
                Object answer = call.outcome(state.make().get());
                Check.same(state.name() + ": whether " + call.name() + " names " + answer, due.contains(answer), true);
            }
        }
    }

    /** An answer, or one of the exceptions that the face names for a method. */
    private static List<Object> named(String name) {
        List<Object> outcomes = new ArrayList<>();
        outcomes.add(0);
        for (Method method : CoinStrings.class.getMethods()) {
            if (method.getName().equals(name)) {
                for (Class<?> exception : method.getExceptionTypes()) {
                    outcomes.add(exception.getName());
                }
            }
        }
        return outcomes;
    }

    private static List<State> states() {
        return List.of(
                new State("a new object", CoinStrings::new),
                new State("two strings", () -> shown(Check.strung(0, 1, 1, -1))),
                new State("twelve strings", () -> Check.board(2, 2)),
                new State("a begun game", () -> shown(Check.begun(Check.strung(0, 1, 1, -1)))),
                new State("a game in its midst", () -> inItsMidst(2)),
                new State("a game at its end", () -> inItsMidst(4)),
                new State("a cleared game", TermsEdgeTest::cleared));
    }

    private static CoinStrings shown(CoinStrings x) {
        x.show();
        return x;
    }

    private static CoinStrings inItsMidst(int cuts) {
        CoinStrings x = shown(Check.begun(Check.strung(0, 1, 2, 3, 2, -1, 2, -1)));
        int[] order = {3, 0, 1, 2};
        for (int k = 0; k < cuts; k++) {
            x.cut(order[k]);
        }
        return x;
    }

    private static CoinStrings cleared() {
        CoinStrings x = inItsMidst(3);
        x.clear();
        return x;
    }

    private static List<Call> calls() {
        List<Call> calls = new ArrayList<>();
        int[] wide = {Integer.MIN_VALUE, -2, -1, 0, 1, 4, 7, 8, 12, 32, Integer.MAX_VALUE};
        for (int i : wide) {
            for (int j : wide) {
                calls.add(new Call("add(" + i + ", " + j + ")", x -> x.add(i, j)));
                calls.add(new Call("board(" + i + ", " + j + ")", x -> x.board(i, j)));
            }
            calls.add(new Call("cut(" + i + ")", x -> x.cut(i)));
            calls.add(new Call("taken(" + i + ")", x -> x.taken(i)));
            calls.add(new Call("strings(" + i + ")", x -> x.strings(i)));
            calls.add(new Call("group(" + i + ")", x -> x.group(i)));
            calls.add(new Call("at(" + i + ")", x -> x.at(i)));
        }
        calls.add(new Call("begin()", CoinStrings::begin));
        calls.add(new Call("clear()", CoinStrings::clear));
        calls.add(new Call("turn()", CoinStrings::turn));
        calls.add(new Call("left()", CoinStrings::left));
        calls.add(new Call("groups()", CoinStrings::groups));
        calls.add(new Call("show()", CoinStrings::show));
        calls.add(new Call("undo()", CoinStrings::undo));
        calls.add(new Call("play()", CoinStrings::play));
        calls.add(new Call("margin()", CoinStrings::margin));
        calls.add(new Call("good()", CoinStrings::good));
        calls.add(new Call("nim()", CoinStrings::nim));
        calls.add(new Call("mad()", CoinStrings::mad));
        return calls;
    }
}
