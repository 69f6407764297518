import java.util.ArrayList;
import java.util.HashMap;
import java.util.List;
import java.util.Map;
import java.util.NoSuchElementException;
import java.util.Set;
import java.util.TreeSet;

/** The document's words again, as plainly and slowly as they can be said: every answer is worked out from the start. */
final class Reference {
    private record Link(int a, int b) {
        boolean touches(int coin) {
            return a == coin || b == coin;
        }
    }

    private final List<Link> links = new ArrayList<>();
    private final List<Integer> cuts = new ArrayList<>();
    private final Map<Set<Integer>, Integer> marginsKnown = new HashMap<>();
    private final Map<Set<Integer>, Integer> nimsKnown = new HashMap<>();
    private boolean begun = false;
    private String text = "";

    int add(int a, int b) {
        if (a < 0 || a > 7 || b < -1 || b > 7 || a == b) {
            throw new IllegalArgumentException();
        }
        if (begun || links.size() == 12) {
            throw new IllegalStateException();
        }
        links.add(new Link(a, b));
        return links.size() - 1;
    }

    int board(int rows, int columns) {
        long count = 2L * rows * columns + rows + columns;
        if (rows < 1 || columns < 1 || count > 12) {
            throw new IllegalArgumentException();
        }
        if (begun || !links.isEmpty()) {
            throw new IllegalStateException();
        }
        for (int box = 0; box < rows * columns; box++) {
            if (box < columns) {
                links.add(new Link(box, -1));
            }
            if (box % columns == 0) {
                links.add(new Link(box, -1));
            }
            links.add(new Link(box, (box + 1) % columns == 0 ? -1 : box + 1));
            links.add(new Link(box, box + columns >= rows * columns ? -1 : box + columns));
        }
        return links.size();
    }

    int begin() {
        if (begun || links.isEmpty()) {
            throw new IllegalStateException();
        }
        begun = true;
        return 0;
    }

    int clear() {
        links.clear();
        cuts.clear();
        marginsKnown.clear();
        nimsKnown.clear();
        begun = false;
        return 0;
    }

    int cut(int i) {
        mustBeBegun();
        if (i < 0 || i >= links.size()) {
            throw new IndexOutOfBoundsException();
        }
        if (cuts.contains(i)) {
            throw new NoSuchElementException();
        }
        int taken = takes(position(), i);
        cuts.add(i);
        return taken;
    }

    int undo() {
        if (cuts.isEmpty()) {
            throw new NoSuchElementException();
        }
        return cuts.remove(cuts.size() - 1);
    }

    int play() {
        mustBeBegun();
        int player = turn();
        int count = 0;
        while (turn() == player && !position().isEmpty()) {
            cut(goodOf(position()).iterator().next());
            count++;
        }
        return count;
    }

    int turn() {
        return replay()[2];
    }

    int taken(int player) {
        if (player != 0 && player != 1) {
            throw new IndexOutOfBoundsException();
        }
        return replay()[player];
    }

    int left() {
        return bits(position());
    }

    int strings(int coin) {
        if (coin < 0 || coin > 7) {
            throw new IndexOutOfBoundsException();
        }
        return of(coin, position()).size();
    }

    int margin() {
        mustBeBegun();
        return marginOf(position());
    }

    int good() {
        mustBeBegun();
        return bits(goodOf(position()));
    }

    int nim() {
        mustBeBegun();
        return nimOf(position());
    }

    int mad() {
        mustBeBegun();
        Set<Integer> found = new TreeSet<>();
        for (int i : position()) {
            if (takes(position(), i) == 0 && nimOf(without(position(), i)) == -1) {
                found.add(i);
            }
        }
        return bits(found);
    }

    int groups() {
        return groupList().size();
    }

    int group(int g) {
        List<Set<Integer>> list = groupList();
        if (g < 0 || g >= list.size()) {
            throw new IndexOutOfBoundsException();
        }
        Set<Integer> coins = list.get(g);
        boolean loop = true;
        for (int coin : coins) {
            for (int i : of(coin, position())) {
                loop &= coins.contains(links.get(i).a()) && coins.contains(links.get(i).b());
            }
        }
        return coins.size() + (loop ? 100 : 0);
    }

    int show() {
        StringBuilder made = new StringBuilder();
        for (int i : position()) {
            Link link = links.get(i);
            if (link.b() == -1) {
                made.append(i + ":" + link.a() + "=;");
            } else {
                made.append(i + ":" + Math.min(link.a(), link.b()) + "-" + Math.max(link.a(), link.b()) + ";");
            }
        }
        text = made.toString();
        return text.length();
    }

    int at(int i) {
        if (i < 0 || i >= text.length()) {
            throw new IndexOutOfBoundsException();
        }
        return text.charAt(i);
    }

    private void mustBeBegun() {
        if (!begun) {
            throw new IllegalStateException();
        }
    }

    private Set<Integer> everyString() {
        Set<Integer> all = new TreeSet<>();
        for (int i = 0; i < links.size(); i++) {
            all.add(i);
        }
        return all;
    }

    private Set<Integer> position() {
        Set<Integer> rest = everyString();
        rest.removeAll(cuts);
        return rest;
    }

    /** The takings of both players, and who has the turn. */
    private int[] replay() {
        int[] state = new int[3];
        Set<Integer> rest = everyString();
        for (int i : cuts) {
            int taken = takes(rest, i);
            state[state[2]] += taken;
            if (taken == 0) {
                state[2] = 1 - state[2];
            }
            rest.remove(i);
        }
        return state;
    }

    private Set<Integer> of(int coin, Set<Integer> position) {
        Set<Integer> found = new TreeSet<>();
        for (int i : position) {
            if (links.get(i).touches(coin)) {
                found.add(i);
            }
        }
        return found;
    }

    private int takes(Set<Integer> position, int i) {
        int taken = 0;
        for (int coin = 0; coin < 8; coin++) {
            if (links.get(i).touches(coin) && of(coin, position).size() == 1) {
                taken++;
            }
        }
        return taken;
    }

    private int marginOf(Set<Integer> position) {
        if (position.isEmpty()) {
            return 0;
        }
        Integer known = marginsKnown.get(position);
        if (known == null) {
            known = -100;
            for (int i : position) {
                known = Math.max(known, gives(position, i));
            }
            marginsKnown.put(position, known);
        }
        return known;
    }

    private int gives(Set<Integer> position, int i) {
        int t = takes(position, i);
        int m = marginOf(without(position, i));
        return t > 0 ? t + m : -m;
    }

    private Set<Integer> goodOf(Set<Integer> position) {
        Set<Integer> found = new TreeSet<>();
        for (int i : position) {
            if (gives(position, i) == marginOf(position)) {
                found.add(i);
            }
        }
        return found;
    }

    private int nimOf(Set<Integer> position) {
        Integer known = nimsKnown.get(position);
        if (known != null) {
            return known;
        }
        Set<Integer> quiet = new TreeSet<>();
        Set<Integer> taking = new TreeSet<>();
        for (int i : position) {
            (takes(position, i) == 0 ? quiet : taking).add(nimOf(without(position, i)));
        }
        int value = 0;
        if (taking.isEmpty()) {
            while (quiet.contains(value)) {
                value++;
            }
        } else if (taking.contains(-1) || taking.size() > 1 || quiet.containsAll(taking)) {
            value = -1;
        } else {
            value = taking.iterator().next();
        }
        nimsKnown.put(position, value);
        return value;
    }

    private List<Set<Integer>> groupList() {
        List<Set<Integer>> list = new ArrayList<>();
        Set<Integer> seen = new TreeSet<>();
        for (int coin = 0; coin < 8; coin++) {
            if (strings(coin) == 2 && !seen.contains(coin)) {
                Set<Integer> coins = new TreeSet<>();
                gather(coin, coins);
                seen.addAll(coins);
                list.add(coins);
            }
        }
        return list;
    }

    private void gather(int coin, Set<Integer> coins) {
        if (coin == -1 || strings(coin) != 2 || !coins.add(coin)) {
            return;
        }
        for (int i : of(coin, position())) {
            gather(links.get(i).a(), coins);
            gather(links.get(i).b(), coins);
        }
    }

    private static Set<Integer> without(Set<Integer> position, int i) {
        Set<Integer> rest = new TreeSet<>(position);
        rest.remove(i);
        return rest;
    }

    private static int bits(Set<Integer> set) {
        int sum = 0;
        for (int i : set) {
            sum += 1 << i;
        }
        return sum;
    }
}
