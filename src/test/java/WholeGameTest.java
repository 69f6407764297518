import java.util.ArrayList;
import java.util.List;
import java.util.Set;
import java.util.TreeSet;
import java.util.function.Consumer;

/** 'What it is' and the terms of values: what the answers come to when many games are played on from many positions. */
public final class WholeGameTest {
    private static final int GAMES = 150;
    private static final int LOONY = CoinStrings.LOONY;

    public static void main(String[] args) {
        Check.says("two players cut strings in turn, whoever frees a coin takes it and cuts again",
                () -> inEachGame(WholeGameTest::cutToTheEnd));
        Check.says("the exact value of each position", () -> inEachGame(WholeGameTest::playToTheEnd));
        Check.says("the cuts that keep it", () -> inEachGame(WholeGameTest::tryEachCut));
        Check.says("the greatest number that a cut of one of its strings gives: with t the coins that it takes and"
                + " m the margin of what is left then", () -> inEachGame(WholeGameTest::greatestOfTheCuts));
        Check.says("Let A be the nim values of the positions left by its cuts that take nothing, B that of those left"
                + " by its cuts that take something.", () -> inEachGame(WholeGameTest::nimValueByTheCuts));
        Check.says("16: The strings whose cuts take nothing and leave a position that is LOONY.",
                () -> inEachGame(WholeGameTest::madCuts));
        Check.says("and the values of the same game when it is only about who cuts last", WholeGameTest::whoCutsLast);
        Check.says("the values of the same game when it is only about who cuts last -- of two games side by side",
                WholeGameTest::sideBySide);
        Check.says("A POSITION is a set of strings that are left.", WholeGameTest::ordersOfCuts);
        Check.end();
    }

    /** A test of boards and of games of all sizes, each with none, some or all of its strings cut. */
    private static void inEachGame(Consumer<CoinStrings> test) {
        int[][] boards = {{1, 1}, {1, 2}, {2, 1}, {1, 3}, {3, 1}, {2, 2}};
        for (int[] board : boards) {
            test.accept(Check.begun(Check.board(board[0], board[1])));
        }
        for (int game = 0; game < GAMES; game++) {
            Numbers numbers = new Numbers(game);
            int strings = numbers.next(1, 12);
            CoinStrings x = Check.begun(Check.strung(numbers.ends(strings, 0, numbers.next(1, 7))));
            for (int cuts = numbers.next(0, strings); cuts > 0; cuts--) {
                List<Integer> left = stringsOf(x.left());
                x.cut(left.get(numbers.next(0, left.size() - 1)));
            }
            test.accept(x);
        }
    }

    private static List<Integer> stringsOf(int set) {
        List<Integer> strings = new ArrayList<>();
        for (int i = 0; i < 12; i++) {
            if ((set >> i & 1) == 1) {
                strings.add(i);
            }
        }
        return strings;
    }

    private static void cutToTheEnd(CoinStrings x) {
        for (int i : stringsOf(x.left())) {
            int player = x.turn();
            int mine = x.taken(player);
            int others = x.taken(1 - player);
            int coins = x.cut(i);
            Check.same("turn()", x.turn(), coins > 0 ? player : 1 - player);
            Check.same("taken by who cut", x.taken(player), mine + coins);
            Check.same("taken by the other one", x.taken(1 - player), others);
        }
    }

    /** How many coins more than the other one a player has taken. */
    private static int lead(CoinStrings x, int player) {
        return x.taken(player) - x.taken(1 - player);
    }

    private static void playToTheEnd(CoinStrings x) {
        int player = x.turn();
        int margin = x.margin();
        int before = lead(x, player);
        for (int plays = 0; plays < 12; plays++) {
            x.play();
        }
        Check.same("left() after the plays", x.left(), 0);
        Check.same("what both players' good cuts come to", lead(x, player) - before, margin);
    }

    private static int given(CoinStrings x, int i) {
        int coins = x.cut(i);
        int rest = x.margin();
        x.undo();
        return coins > 0 ? coins + rest : -rest;
    }

    private static void tryEachCut(CoinStrings x) {
        int margin = x.margin();
        List<Integer> good = stringsOf(x.good());
        for (int i : stringsOf(x.left())) {
            Check.same("whether cut " + i + " of " + Check.text(x) + " keeps the margin", given(x, i) == margin,
                    good.contains(i));
        }
        Check.same("whether all good strings are left", stringsOf(x.left()).containsAll(good), true);
    }

    private static void greatestOfTheCuts(CoinStrings x) {
        int greatest = x.left() == 0 ? 0 : -100;
        for (int i : stringsOf(x.left())) {
            greatest = Math.max(greatest, given(x, i));
        }
        Check.same("margin() of " + Check.text(x), x.margin(), greatest);
    }

    private static void nimValueByTheCuts(CoinStrings x) {
        Set<Integer> a = new TreeSet<>();
        Set<Integer> b = new TreeSet<>();
        for (int i : stringsOf(x.left())) {
            (x.cut(i) == 0 ? a : b).add(x.nim());
            x.undo();
        }
        int due = 0;
        if (b.isEmpty()) {
            while (a.contains(due)) {
                due++;
            }
        } else {
            int only = b.iterator().next();
            due = b.contains(LOONY) || b.size() > 1 || a.contains(only) ? LOONY : only;
        }
        Check.same("nim() of " + Check.text(x), x.nim(), due);
    }

    private static void madCuts(CoinStrings x) {
        List<Integer> mad = new ArrayList<>();
        for (int i : stringsOf(x.left())) {
            if (x.cut(i) == 0 && x.nim() == LOONY) {
                mad.add(i);
            }
            x.undo();
        }
        Check.same("mad() of " + Check.text(x), stringsOf(x.mad()), mad);
    }

    /** Who has the turn can leave the last cut to the other one unless the nim value is 0. */
    private static void whoCutsLast() {
        for (int game = 0; game < GAMES; game++) {
            Numbers numbers = new Numbers(game);
            int[] ends = numbers.ends(numbers.next(1, 8), 0, numbers.next(1, 7));
            CoinStrings x = Check.begun(Check.strung(ends));
            Check.same("whether nim() of " + Check.text(x) + " is not 0", x.nim() != 0,
                    canLeaveTheLastCut(ends, x.left()));
        }
    }

    /** By trying every cut of every game from a position on; at the end who has the turn has cut last. */
    private static boolean canLeaveTheLastCut(int[] ends, int position) {
        for (int i : stringsOf(position)) {
            int rest = position & ~(1 << i);
            boolean cutsAgain = isFree(ends, rest, ends[2 * i]) || isFree(ends, rest, ends[2 * i + 1]);
            if (canLeaveTheLastCut(ends, rest) == cutsAgain) {
                return true;
            }
        }
        return false;
    }

    private static boolean isFree(int[] ends, int position, int coin) {
        for (int i : stringsOf(position)) {
            if (ends[2 * i] == coin || ends[2 * i + 1] == coin) {
                return false;
            }
        }
        return coin != -1;
    }

    private static void sideBySide() {
        int loony = 0;
        for (int game = 0; game < GAMES; game++) {
            Numbers numbers = new Numbers(game);
            int[] one = numbers.ends(numbers.next(1, 6), 0, 3);
            int[] two = numbers.ends(numbers.next(1, 6), 4, 7);
            int[] both = new int[one.length + two.length];
            System.arraycopy(one, 0, both, 0, one.length);
            System.arraycopy(two, 0, both, one.length, two.length);
            int first = Check.begun(Check.strung(one)).nim();
            int second = Check.begun(Check.strung(two)).nim();
            int due = first == LOONY || second == LOONY ? LOONY : first ^ second;
            loony += due == LOONY ? 1 : 0;
            CoinStrings x = Check.begun(Check.strung(both));
            Check.same("nim() of " + Check.text(x), x.nim(), due);
        }
        Check.same("whether some were LOONY and some were not", loony > 10 && loony < GAMES - 10, true);
    }

    private static void ordersOfCuts() {
        int[] ends = {0, 1, 0, -1, 1, -1, 2, -1, 2, 3, 3, 4, 4, -1, 5, -1, 5, -1};
        int[][] orders = {{0, 1, 2}, {0, 2, 1}, {1, 0, 2}, {1, 2, 0}, {2, 0, 1}, {2, 1, 0}};
        Set<String> values = new TreeSet<>();
        Set<Integer> turns = new TreeSet<>();
        for (int[] order : orders) {
            CoinStrings x = Check.begun(Check.strung(ends));
            for (int i : order) {
                x.cut(i);
            }
            turns.add(x.turn());
            values.add(x.left() + " " + x.margin() + " " + x.good() + " " + x.nim() + " " + x.mad() + " "
                    + Check.groups(x) + " " + Check.text(x));
        }
        Check.same("who can have the turn", turns.toString(), "[0, 1]");
        // A chain of three and a coin on 2, to cut a string of which gives its coin for the chain's three.
        Check.same("what is answered of the same strings", values.toString(),
                "[504 2 384 1 120 [3, 1] 3:2=;4:2-3;5:3-4;6:4=;7:5=;8:5=;]");
    }
}
