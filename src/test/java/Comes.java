import java.util.ArrayDeque;
import java.util.ArrayList;
import java.util.Deque;
import java.util.HashSet;
import java.util.List;
import java.util.Set;

/**
 * What values come to, straight from the document's words and by no step from one value to the next: the tests hold
 * the class against it.
 */
final class Comes {
    static final int NOTHING = Integer.MIN_VALUE;
    static final int[] NUMBERS = {4, 2, 2, 4, 5, 4, 7, 5, 3, 1};

    private Comes() {
    }

    static int[] to(int operation, List<Integer> values, int[] letters, int[] table) {
        switch (operation) {
            case 0:
                return greatest(values);
            case 1:
                return share(values);
            case 2:
                return line(values);
            case 3:
                return run(values);
            case 4:
                return letters(values, letters);
            case 5:
                return nest(values);
            case 6:
                return like(values);
            case 7:
                return steps(values);
            case 8:
                return spread(values);
            default:
                return table(values, table);
        }
    }

    private static int[] greatest(List<Integer> values) {
        int most = values.stream().mapToInt(v -> v).max().getAsInt();
        int many = (int) values.stream().filter(v -> v == most).count();
        return new int[] {most, many, values.indexOf(most), values.size()};
    }

    private static int[] share(List<Integer> values) {
        int share = 0;
        for (int by = 1; by <= 1000; by++) {
            int divisor = by;
            if (values.stream().allMatch(v -> v % divisor == 0)) {
                share = by;
            }
        }
        int many = (int) values.stream().filter(v -> v != 0).count();
        return new int[] {many == 0 ? 0 : share, many};
    }

    private static int[] line(List<Integer> values) {
        int ofZero = along(0, values);
        return new int[] {Math.floorMod(along(1, values) - ofZero, 997), ofZero};
    }

    private static int along(int start, List<Integer> values) {
        int x = start;
        for (int v : values) {
            x = Math.floorMod(Math.floorMod(v, 997) * x + Math.floorMod(7 * v + 1, 997), 997);
        }
        return x;
    }

    private static int[] run(List<Integer> values) {
        int n = values.size();
        int[] upTo = new int[n + 1];
        for (int i = 0; i < n; i++) {
            upTo[i + 1] = upTo[i] + values.get(i);
        }
        int any = NOTHING;
        int first = NOTHING;
        int last = NOTHING;
        for (int from = 0; from < n; from++) {
            for (int to = from + 1; to <= n; to++) {
                any = Math.max(any, upTo[to] - upTo[from]);
            }
            first = Math.max(first, upTo[from + 1]);
            last = Math.max(last, upTo[n] - upTo[from]);
        }
        return new int[] {any, upTo[n], first, last};
    }

    private static int[] letters(List<Integer> values, int[] letters) {
        int[] numbers = new int[5];
        Set<Integer> ends = new HashSet<>();
        for (int s = 0; s < 4; s++) {
            int state = s;
            for (int v : values) {
                int sends = letters[Math.floorMod(v, 8)];
                for (int digit = 0; digit < state; digit++) {
                    sends /= 4;
                }
                state = sends % 4;
            }
            numbers[s] = state;
            ends.add(state);
        }
        numbers[4] = ends.size();
        return numbers;
    }

    private static int[] nest(List<Integer> values) {
        Deque<Integer> open = new ArrayDeque<>();
        int unmatched = 0;
        int couples = 0;
        int excess = 0;
        int opens = 0;
        int shuts = 0;
        for (int v : values) {
            if (v >= 0) {
                open.push(v);
                opens++;
            } else {
                shuts++;
                if (open.isEmpty()) {
                    unmatched++;
                } else {
                    open.pop();
                    couples++;
                }
            }
            excess = Math.max(excess, opens - shuts);
        }
        return new int[] {unmatched, open.size(), couples, excess};
    }

    private static int[] like(List<Integer> values) {
        List<int[]> rows = new ArrayList<>();
        for (int v : values) {
            if (!rows.isEmpty() && rows.get(rows.size() - 1)[0] == v) {
                rows.get(rows.size() - 1)[1]++;
            } else {
                rows.add(new int[] {v, 1});
            }
        }
        int[] longest = rows.get(0);
        for (int[] row : rows) {
            longest = row[1] > longest[1] ? row : longest;
        }
        int[] first = rows.get(0);
        int[] last = rows.get(rows.size() - 1);
        return new int[] {longest[1], longest[0], rows.size(), first[1], last[1], first[0], last[0]};
    }

    private static int[] steps(List<Integer> values) {
        int n = values.size();
        int less = 0;
        int greater = 0;
        for (int i = 1; i < n; i++) {
            less += values.get(i) < values.get(i - 1) ? 1 : 0;
            greater += values.get(i) > values.get(i - 1) ? 1 : 0;
        }
        int most = 1;
        for (int from = 0; from < n; from++) {
            int to = from;
            while (to + 1 < n && values.get(to + 1) >= values.get(to)) {
                to++;
            }
            most = Math.max(most, to - from + 1);
        }
        return new int[] {less, greater, values.get(0), values.get(n - 1), most};
    }

    private static int[] spread(List<Integer> values) {
        int above = values.stream().filter(v -> v > 0).mapToInt(v -> v).min().orElse(NOTHING);
        int below = values.stream().filter(v -> v < 0).mapToInt(v -> v).max().orElse(NOTHING);
        return new int[] {above, below, (int) values.stream().filter(v -> v == 0).count()};
    }

    private static int[] table(List<Integer> values, int[] table) {
        int product = Math.floorMod(values.get(values.size() - 1), 4);
        for (int i = values.size() - 2; i >= 0; i--) {
            product = table[4 * Math.floorMod(values.get(i), 4) + product];
        }
        return new int[] {product};
    }
}
