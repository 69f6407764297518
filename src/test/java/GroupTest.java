import java.util.ArrayList;
import java.util.List;

/** Promises 17 and 18: groups, group. */
public final class GroupTest {
    public static void main(String[] args) {
        loops();
        chains();
        coinsThatAreInNoGroup();
        unitedLate();
        groupsFollowTheCuts();
        noSuchGroup();
        Check.end();
    }

    private static List<Integer> all(CoinStrings x) {
        List<Integer> answers = new ArrayList<>();
        for (int g = 0; g < x.groups(); g++) {
            answers.add(x.group(g));
        }
        return answers;
    }

    private static void loops() {
        Check.same("a loop of two", all(Check.strung(0, 1, 0, 1)), List.of(102));
        Check.same("a loop of three", all(Check.strung(5, 3, 3, 1, 1, 5)), List.of(103));
        Check.same("a loop of eight",
                all(Check.strung(0, 1, 1, 2, 2, 3, 3, 4, 4, 5, 5, 6, 6, 7, 7, 0)), List.of(108));
        Check.same("two loops", all(Check.strung(7, 2, 7, 2, 0, 5, 5, 6, 6, 0)), List.of(103, 102));
    }

    private static void chains() {
        Check.same("a chain of one", all(Check.strung(4, -1, 4, -1)), List.of(1));
        Check.same("a chain of two", all(Check.strung(4, -1, 4, 2, 2, -1)), List.of(2));
        Check.same("a chain of two by string 0", all(Check.strung(0, 1, 0, -1, 1, -1)), List.of(2));
        Check.same("a chain of one by the last of twelve",
                all(Check.strung(0, 1, 0, 1, 0, 1, 0, 1, 0, 1, 0, 1, 0, 1, 0, 1, 0, 1, 0, 1, 2, 3, 2, -1)), List.of(1));
        Check.same("a chain to a coin on one string", all(Check.strung(0, 1, 1, -1)), List.of(1));
        Check.same("a coin tied twice to one on three", all(Check.strung(0, 1, 0, 1, 1, -1)), List.of(1));
        Check.same("a coin tied twice, the greater", all(Check.strung(0, 1, 0, 1, 0, -1)), List.of(1));
        Check.same("coins 1 and 2 between one on three", all(Check.strung(0, 1, 1, 2, 2, 0, 0, -1)), List.of(2));
        Check.same("a chain and a loop", all(Check.strung(1, -1, 1, -1, 0, 2, 0, 2)), List.of(102, 1));
    }

    private static void coinsThatAreInNoGroup() {
        Check.same("a board has none", all(Check.board(2, 2)), List.of());
        Check.same("coins on one string", all(Check.strung(0, 1, 2, -1)), List.of());
        Check.same("coins on three strings", all(Check.strung(0, 1, 0, 1, 0, 1)), List.of());
    }

    private static void unitedLate() {
        // Three pieces that the last strings join, whose least coin comes last.
        Check.same("pieces united", all(Check.strung(7, 6, 5, 4, 3, 2, 6, 5, 4, 3, 2, 0, 0, 7)), List.of(107));
        Check.same("pieces apart", all(Check.strung(7, -1, 7, 0, 0, -1, 6, -1, 6, 1, 1, -1)), List.of(2, 2));
    }

    private static void groupsFollowTheCuts() {
        CoinStrings x = Check.begun(Check.strung(0, 1, 1, 2, 2, 0, 0, -1));
        Check.same("before", all(x), List.of(2));
        x.cut(3);
        Check.same("a loop by a cut", all(x), List.of(103));
        x.cut(1);
        Check.same("a chain by a cut", all(x), List.of(1));
        x.cut(0);
        Check.same("no more group", all(x), List.of());
        x.undo();
        x.undo();
        Check.same("a loop by undo", all(x), List.of(103));
        x.clear();
        Check.same("no group after clear", x.groups(), 0);
    }

    private static void noSuchGroup() {
        CoinStrings x = Check.strung(0, 1, 0, 1, 4, -1, 4, -1);
        List<Object> before = Check.seen(x);
        for (int g : new int[] {-1, 2, 8, Integer.MAX_VALUE, Integer.MIN_VALUE}) {
            Check.throwing("group(" + g + ")", Check.INDEX, () -> x.group(g));
        }
        Check.same("state after wrong groups", Check.seen(x), before);
        Check.throwing("group(0) of a new object", Check.INDEX, () -> new CoinStrings().group(0));
    }
}
