import java.util.ArrayList;
import java.util.Arrays;
import java.util.List;

/**
 * The document's terms written down as they stand, without any thought of speed: every matching
 * and every order of going round is made and looked at.
 */
final class SlowHouse implements House {
    private List<List<Integer>> lists = new ArrayList<>();
    private int[] draft = {};
    private List<int[]> stable;
    private int[][] oddParties;

    private int count() {
        return lists.size();
    }

    private void changed() {
        stable = null;
        oddParties = null;
        for (int p = 0; p < count(); p++) {
            if (draft[p] != p && !possible(p, draft[p])) {
                draft[p] = p;
            }
        }
    }

    private boolean possible(int a, int b) {
        return a == b || lists.get(a).contains(b) && lists.get(b).contains(a);
    }

    private boolean prefers(int p, int a, int b) {
        if (!possible(p, a) || !possible(p, b) || a == b || a == p) {
            return false;
        }
        return b == p || lists.get(p).indexOf(a) < lists.get(p).indexOf(b);
    }

    private boolean block(int a, int b, int[] had) {
        return a != b && possible(a, b) && had[a] != b
                && prefers(a, b, had[a]) && prefers(b, a, had[b]);
    }

    private void person(int p) {
        if (p < 0 || p >= count()) {
            throw new IndexOutOfBoundsException();
        }
    }

    private void within(int i, int length) {
        if (i < 0 || i >= length) {
            throw new IndexOutOfBoundsException();
        }
    }

    @Override
    public int people(int n) {
        if (n < 0 || n > 8) {
            throw new IllegalArgumentException();
        }
        int before = count();
        lists = new ArrayList<>();
        draft = new int[n];
        for (int p = 0; p < n; p++) {
            lists.add(new ArrayList<>());
            draft[p] = p;
        }
        changed();
        return before;
    }

    @Override
    public int put(int p, int o) {
        person(p);
        person(o);
        if (p == o) {
            throw new IllegalArgumentException();
        }
        if (lists.get(p).contains(o)) {
            throw new IllegalStateException();
        }
        lists.get(p).add(o);
        changed();
        return lists.get(p).size();
    }

    @Override
    public int remove(int p, int i) {
        person(p);
        within(i, lists.get(p).size());
        int who = lists.get(p).remove(i);
        changed();
        return who;
    }

    @Override
    public int move(int p, int i, int j) {
        person(p);
        within(i, lists.get(p).size());
        within(j, lists.get(p).size());
        int who = lists.get(p).remove(i);
        lists.get(p).add(j, who);
        changed();
        return who;
    }

    @Override
    public int at(int p, int i) {
        person(p);
        if (i < 0) {
            throw new IndexOutOfBoundsException();
        }
        return i < lists.get(p).size() ? lists.get(p).get(i) : -1;
    }

    @Override
    public int place(int p, int o) {
        person(p);
        person(o);
        return lists.get(p).indexOf(o);
    }

    @Override
    public int pair(int a, int b) {
        person(a);
        person(b);
        if (a == b) {
            throw new IllegalArgumentException();
        }
        if (!possible(a, b)) {
            throw new IllegalStateException();
        }
        join(a, b);
        return blocking();
    }

    private void join(int a, int b) {
        for (int p = 0; p < count(); p++) {
            if (draft[p] == a || draft[p] == b) {
                draft[p] = p;
            }
        }
        draft[a] = b;
        draft[b] = a;
    }

    @Override
    public int partner(int p) {
        person(p);
        return draft[p];
    }

    @Override
    public int blocking() {
        int found = 0;
        for (int a = 0; a < count(); a++) {
            for (int b = a + 1; b < count(); b++) {
                found += block(a, b, draft) ? 1 : 0;
            }
        }
        return found;
    }

    @Override
    public int satisfy() {
        for (int code = 0; code < 64; code++) {
            int a = code / 8;
            int b = code % 8;
            if (a < b && b < count() && block(a, b, draft)) {
                join(a, b);
                return code;
            }
        }
        return -1;
    }

    private List<int[]> stable() {
        if (stable == null) {
            stable = new ArrayList<>();
            forEachOrder(new int[count()], 0, 0, true);
        }
        return stable;
    }

    private int[][] oddParties() {
        if (oddParties == null) {
            forEachOrder(new int[count()], 0, 0, false);
            if (oddParties == null) {
                throw new AssertionError("there always is a partition");
            }
        }
        return oddParties;
    }

    private void forEachOrder(int[] next, int p, int taken, boolean matchings) {
        if (p == next.length) {
            if (matchings) {
                lookAtMatching(next);
            } else {
                lookAtOrder(next);
            }
            return;
        }
        for (int q = 0; q < next.length; q++) {
            if ((taken >> q & 1) == 0 && possible(p, q)) {
                next[p] = q;
                forEachOrder(next, p + 1, taken | 1 << q, matchings);
            }
        }
    }

    private void lookAtMatching(int[] mates) {
        for (int a = 0; a < mates.length; a++) {
            if (mates[mates[a]] != a) {
                return;
            }
            for (int b = 0; b < mates.length; b++) {
                if (block(a, b, mates)) {
                    return;
                }
            }
        }
        stable.add(mates.clone());
    }

    private void lookAtOrder(int[] next) {
        int[] last = new int[next.length];
        for (int p = 0; p < next.length; p++) {
            last[next[p]] = p;
        }
        for (int a = 0; a < next.length; a++) {
            if (prefers(a, last[a], next[a])) {
                return;
            }
            for (int b = 0; b < next.length; b++) {
                if (a != b && possible(a, b)
                        && prefers(a, b, last[a]) && prefers(b, a, last[b])) {
                    return;
                }
            }
        }
        keepOddParties(next);
    }

    private void keepOddParties(int[] next) {
        int[][] odd = new int[2][next.length];
        for (int p = 0; p < next.length; p++) {
            int size = 1;
            for (int q = next[p]; q != p; q = next[q]) {
                size++;
            }
            odd[0][p] = size % 2 == 1 ? size : 0;
            odd[1][p] = size % 2 == 1 ? next[p] : -1;
        }
        if (oddParties != null && !Arrays.deepEquals(oddParties, odd)) {
            throw new AssertionError("the odd parties are the same in every partition");
        }
        oddParties = odd;
    }

    @Override
    public int matchings() {
        return stable().size();
    }

    @Override
    public int matched(int p) {
        person(p);
        if (stable().isEmpty()) {
            return -1;
        }
        int[] first = stable().get(0);
        for (int[] mates : stable()) {
            if (comesBefore(mates, first)) {
                first = mates;
            }
        }
        return first[p];
    }

    private boolean comesBefore(int[] one, int[] other) {
        for (int p = 0; p < one.length; p++) {
            if (one[p] != other[p]) {
                return prefers(p, one[p], other[p]);
            }
        }
        return false;
    }

    @Override
    public int extreme(int p, boolean worst) {
        person(p);
        int found = -1;
        for (int[] mates : stable()) {
            if (found == -1
                    || (worst ? prefers(p, found, mates[p]) : prefers(p, mates[p], found))) {
                found = mates[p];
            }
        }
        return found;
    }

    @Override
    public int together(int a, int b) {
        person(a);
        person(b);
        int found = 0;
        for (int[] mates : stable()) {
            found += mates[a] == b ? 1 : 0;
        }
        return found;
    }

    @Override
    public int party(int p) {
        person(p);
        return oddParties()[0][p];
    }

    @Override
    public int next(int p) {
        person(p);
        return oddParties()[1][p];
    }

    @Override
    public int parties(boolean three) {
        int[] members = new int[9];
        for (int size : oddParties()[0]) {
            members[size]++;
        }
        int found = 0;
        for (int size = three ? 3 : 1; size <= 8; size++) {
            found += members[size] / size;
        }
        return found;
    }

    @Override
    public int size() {
        return count();
    }

    @Override
    public int astray() {
        return 0;
    }
}
