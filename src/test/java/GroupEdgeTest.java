import java.util.List;

/** Promises 17 and 18 at their edges, with the terms of groups: each sentence that names one has a test of its own. */
public final class GroupEdgeTest {
    public static void main(String[] args) {
        Check.says("17: How many groups there are. -- none", GroupEdgeTest::noGroups);
        Check.says("17: How many groups there are. -- the most that can be", GroupEdgeTest::sixGroups);
        Check.says("the coins to which exactly two strings belong", GroupEdgeTest::exactlyTwoStrings);
        Check.says("in one group if a string that is left joins them", GroupEdgeTest::joinedByAString);
        Check.says("a string that is left -- not one that was cut", GroupEdgeTest::joinedByACutString);
        Check.says("or both are in one group with a third one", GroupEdgeTest::joinedByAThirdCoin);
        Check.says("a LOOP if all strings that belong to its coins join two of its coins", GroupEdgeTest::loops);
        Check.says("otherwise a CHAIN", GroupEdgeTest::chains);
        Check.says("otherwise a CHAIN -- with both ends at one coin", GroupEdgeTest::chainsThatLookLikeLoops);
        Check.says("Groups are numbered 0, 1, .. by their least coins.", GroupEdgeTest::orderOfGroups);
        Check.says("18: The length of group g -- 1 and 8", GroupEdgeTest::leastAndGreatestLengths);
        Check.says("18: and LOOP more if it is a loop -- of 2 and 8", GroupEdgeTest::leastAndGreatestLoops);
        Check.says("18: IndexOutOfBoundsException when there is no such group", GroupEdgeTest::noSuchGroup);
        Check.says("18: IndexOutOfBoundsException when there is no such group -- any more",
                GroupEdgeTest::groupThatWas);
        Check.end();
    }

    private static void due(CoinStrings x, Integer... groups) {
        Check.same("the groups", Check.groups(x), List.of(groups));
    }

    private static void noGroups() {
        due(new CoinStrings());
        due(Check.board(2, 2));
        due(Check.strung(0, 1));
        CoinStrings x = Check.begun(Check.strung(0, -1, 0, -1));
        x.cut(0);
        x.cut(1);
        due(x);
        x.clear();
        due(x);
    }

    private static void sixGroups() {
        due(Check.strung(0, -1, 0, -1, 1, -1, 1, -1, 2, -1, 2, -1, 3, -1, 3, -1, 4, -1, 4, -1, 7, -1, 7, -1),
                1, 1, 1, 1, 1, 1);
    }

    private static void exactlyTwoStrings() {
        due(Check.strung(3, -1));
        due(Check.strung(3, -1, 3, -1), 1);
        due(Check.strung(3, -1, 3, -1, 3, -1));
        due(Check.strung(3, 4, 3, 4, 3, 4));
        CoinStrings x = Check.begun(Check.strung(3, -1, 3, -1, 3, -1));
        x.cut(2);
        due(x, 1);
        x.cut(1);
        due(x);
        x.undo();
        due(x, 1);
    }

    private static void joinedByAString() {
        due(Check.strung(0, -1, 0, 7, 7, -1), 2);
        due(Check.strung(0, -1, 0, -1, 7, -1, 7, -1), 1, 1);
        // Joined to a coin on three strings, they are not joined to one another.
        due(Check.strung(0, -1, 0, 3, 3, -1, 3, 7, 7, -1), 1, 1);
    }

    private static void joinedByACutString() {
        CoinStrings x = Check.begun(Check.strung(0, 7, 0, -1, 0, -1, 7, -1, 7, -1));
        due(x);
        x.cut(0);
        due(x, 1, 1);
    }

    private static void joinedByAThirdCoin() {
        due(Check.strung(5, 0, 5, 1, 0, -1, 1, -1), 3);
        due(Check.strung(7, 6, 5, 4, 3, 2, 6, 5, 4, 3, 2, 0, 0, -1, 7, -1), 7);
        due(Check.strung(0, 7, 7, 1, 1, 6, 6, 2, 2, 5, 5, 3, 3, 4, 4, -1, 0, -1), 8);
    }

    private static void loops() {
        due(Check.strung(5, 3, 3, 1, 1, 5), 103);
        due(Check.strung(0, 1, 1, 2, 2, 0, 5, 6, 6, 7, 7, 5), 103, 103);
        CoinStrings x = Check.begun(Check.strung(0, 1, 1, 2, 2, 0, 0, -1));
        due(x, 2);
        x.cut(3);
        due(x, 103);
    }

    private static void chains() {
        // Between ground and ground, ground and coin, coin and coin.
        due(Check.strung(2, -1, 2, 3, 3, -1), 2);
        due(Check.strung(2, -1, 2, 3, 3, 4), 2);
        due(Check.strung(5, 2, 2, 3, 3, 4), 2);
        due(Check.strung(5, 2, 2, 4), 1);
    }

    private static void chainsThatLookLikeLoops() {
        due(Check.strung(4, -1, 4, -1), 1);
        due(Check.strung(4, 5, 4, 5, 5, -1), 1);
        due(Check.strung(4, 3, 4, 3, 3, -1), 1);
        due(Check.strung(0, 1, 1, 2, 2, 0, 0, -1), 2);
        due(Check.strung(7, 1, 1, 2, 2, 7, 7, -1), 2);
    }

    private static void orderOfGroups() {
        due(Check.strung(1, -1, 1, -1, 0, 2, 0, 2), 102, 1);
        due(Check.strung(7, 2, 7, 2, 0, 5, 5, 6, 6, 0), 103, 102);
        due(Check.strung(7, -1, 7, 0, 0, -1, 1, -1, 1, -1, 5, 3, 3, 4, 4, 5), 2, 1, 103);
    }

    private static void leastAndGreatestLengths() {
        due(Check.strung(7, -1, 7, -1), 1);
        due(Check.strung(0, -1, 0, -1), 1);
        due(Check.strung(0, -1, 0, 1, 1, 2, 2, 3, 3, 4, 4, 5, 5, 6, 6, 7, 7, -1), 8);
    }

    private static void leastAndGreatestLoops() {
        due(Check.strung(0, 1, 0, 1), CoinStrings.LOOP + 2);
        due(Check.strung(7, 6, 6, 7), CoinStrings.LOOP + 2);
        due(Check.strung(0, 1, 1, 2, 2, 3, 3, 4, 4, 5, 5, 6, 6, 7, 7, 0), CoinStrings.LOOP + 8);
    }

    private static void noSuchGroup() {
        CoinStrings two = Check.strung(0, 1, 0, 1, 4, -1, 4, -1);
        for (int g : Check.andFar(-1, -2, 2, 3, 4, 7, 8)) {
            Check.throwing("group(" + g + ") of two", Check.INDEX, () -> two.group(g));
        }
        due(two, 102, 1);
        for (CoinStrings x : List.of(new CoinStrings(), Check.board(2, 2), Check.begun(Check.strung(0, 1)))) {
            for (int g : Check.andFar(-1, 0, 1, 8)) {
                Check.throwing("group(" + g + ") of none", Check.INDEX, () -> x.group(g));
            }
        }
    }

    private static void groupThatWas() {
        CoinStrings x = Check.begun(Check.strung(0, -1, 0, -1, 1, -1, 1, -1));
        due(x, 1, 1);
        x.cut(0);
        Check.throwing("group(1) after a cut", Check.INDEX, () -> x.group(1));
        Check.same("group(0) after a cut", x.group(0), 1);
        x.clear();
        Check.throwing("group(0) after clear", Check.INDEX, () -> x.group(0));
    }
}
