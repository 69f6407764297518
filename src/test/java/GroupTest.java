import java.util.List;

/** Promises 17 and 18 on ordinary games, with the terms of groups: groups, group. */
public final class GroupTest {
    public static void main(String[] args) {
        Check.says("A group is a LOOP if all strings that belong to its coins join two of its coins", GroupTest::loops);
        Check.says("otherwise a CHAIN", GroupTest::chains);
        Check.says("GROUPS of a position: the coins to which exactly two strings belong",
                GroupTest::coinsThatAreInNoGroup);
        Check.says("two of them are in one group if a string that is left joins them, or both are in one group with a"
                + " third one", GroupTest::unitedLate);
        Check.says("17: How many groups there are.", GroupTest::howManyGroups);
        Check.says("18: The length of group g (how many coins it has), and LOOP more if it is a loop.",
                GroupTest::groupsFollowTheCuts);
        Check.says("`LOOP = 100`: What group() answers for a loop besides its length.", GroupTest::theConstant);
        Check.end();
    }

    private static void loops() {
        Check.same("a loop of two", Check.groups(Check.strung(0, 1, 0, 1)), List.of(102));
        Check.same("a loop of three", Check.groups(Check.strung(5, 3, 3, 1, 1, 5)), List.of(103));
        Check.same("a loop of eight",
                Check.groups(Check.strung(0, 1, 1, 2, 2, 3, 3, 4, 4, 5, 5, 6, 6, 7, 7, 0)), List.of(108));
        Check.same("two loops", Check.groups(Check.strung(7, 2, 7, 2, 0, 5, 5, 6, 6, 0)), List.of(103, 102));
    }

    private static void chains() {
        Check.same("a chain of one", Check.groups(Check.strung(4, -1, 4, -1)), List.of(1));
        Check.same("a chain of two", Check.groups(Check.strung(4, -1, 4, 2, 2, -1)), List.of(2));
        Check.same("a chain of two by string 0", Check.groups(Check.strung(0, 1, 0, -1, 1, -1)), List.of(2));
        Check.same("a chain of one by the last of twelve",
                Check.groups(Check.strung(0, 1, 0, 1, 0, 1, 0, 1, 0, 1, 0, 1, 0, 1, 0, 1, 0, 1, 0, 1, 2, 3, 2, -1)),
                List.of(1));
        Check.same("a chain to a coin on one string", Check.groups(Check.strung(0, 1, 1, -1)), List.of(1));
        Check.same("a coin tied twice to one on three", Check.groups(Check.strung(0, 1, 0, 1, 1, -1)), List.of(1));
        Check.same("a coin tied twice, the greater", Check.groups(Check.strung(0, 1, 0, 1, 0, -1)), List.of(1));
        Check.same("coins 1 and 2 between one on three",
                Check.groups(Check.strung(0, 1, 1, 2, 2, 0, 0, -1)), List.of(2));
        Check.same("a chain and a loop", Check.groups(Check.strung(1, -1, 1, -1, 0, 2, 0, 2)), List.of(102, 1));
    }

    private static void coinsThatAreInNoGroup() {
        Check.same("a board has none", Check.groups(Check.board(2, 2)), List.of());
        Check.same("coins on one string", Check.groups(Check.strung(0, 1, 2, -1)), List.of());
        Check.same("coins on three strings", Check.groups(Check.strung(0, 1, 0, 1, 0, 1)), List.of());
    }

    private static void unitedLate() {
        // Three pieces that the last strings join, whose least coin comes last.
        Check.same("pieces united", Check.groups(Check.strung(7, 6, 5, 4, 3, 2, 6, 5, 4, 3, 2, 0, 0, 7)), List.of(107));
        Check.same("pieces apart", Check.groups(Check.strung(7, -1, 7, 0, 0, -1, 6, -1, 6, 1, 1, -1)), List.of(2, 2));
    }

    private static void groupsFollowTheCuts() {
        CoinStrings x = Check.begun(Check.strung(0, 1, 1, 2, 2, 0, 0, -1));
        Check.same("before", Check.groups(x), List.of(2));
        x.cut(3);
        Check.same("a loop by a cut", Check.groups(x), List.of(103));
        x.cut(1);
        Check.same("a chain by a cut", Check.groups(x), List.of(1));
        x.cut(0);
        Check.same("no more group", Check.groups(x), List.of());
        x.undo();
        x.undo();
        Check.same("a loop by undo", Check.groups(x), List.of(103));
        x.clear();
        Check.same("no group after clear", x.groups(), 0);
    }

    private static void howManyGroups() {
        CoinStrings x = Check.begun(Check.strung(0, -1, 0, -1, 4, 5, 5, 4, 7, -1));
        Check.same("groups()", x.groups(), 2);
        x.cut(0);
        Check.same("groups() after a cut", x.groups(), 1);
        x.undo();
        Check.same("groups() after undo()", x.groups(), 2);
    }

    private static void theConstant() {
        CoinStrings x = Check.strung(0, 1, 1, 2, 2, 0);
        Check.same("group(0) of a loop of three", x.group(0), CoinStrings.LOOP + 3);
        Check.same("group(0) of a loop of three, in figures", x.group(0), 103);
        Check.same("group(0) of a chain of three", Check.strung(0, -1, 0, 1, 1, 2, 2, -1).group(0), 3);
    }
}
