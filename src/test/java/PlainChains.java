import java.util.ArrayList;
import java.util.List;

/** Waits and firsts from the states that a row of lots goes through, without any formula for overlaps. */
final class PlainChains {
    private PlainChains() {}

    static String signsOf(int told) {
        return Integer.toBinaryString(told).substring(1);
    }

    static Ratio wait(String pattern, int odds) {
        List<String> states = starts(pattern);
        Ratio[][] rows = new Ratio[states.size()][];
        for (int s = 0; s < states.size(); s++) {
            Ratio[] row = equation(states, s);
            row[states.size()] = Ratio.ONE;
            for (int sign = 0; sign <= 1; sign++) {
                String seen = states.get(s) + sign;
                if (!seen.endsWith(pattern)) {
                    leadOn(row, states, seen, chance(sign, odds));
                }
            }
            rows[s] = row;
        }
        return solveFirst(rows);
    }

    static Ratio first(String a, String b, int odds) {
        List<String> states = starts(a);
        for (String start : starts(b)) {
            if (!states.contains(start)) {
                states.add(start);
            }
        }
        Ratio[][] rows = new Ratio[states.size()][];
        for (int s = 0; s < states.size(); s++) {
            Ratio[] row = equation(states, s);
            for (int sign = 0; sign <= 1; sign++) {
                String seen = states.get(s) + sign;
                if (seen.endsWith(a)) {
                    row[states.size()] = row[states.size()].plus(chance(sign, odds));
                } else if (!seen.endsWith(b)) {
                    leadOn(row, states, seen, chance(sign, odds));
                }
            }
            rows[s] = row;
        }
        return solveFirst(rows);
    }

    private static List<String> starts(String pattern) {
        List<String> starts = new ArrayList<>();
        for (int i = 0; i < pattern.length(); i++) {
            starts.add(pattern.substring(0, i));
        }
        return starts;
    }

    private static Ratio chance(int sign, int odds) {
        return Ratio.of(sign == 1 ? odds : 16 - odds, 16);
    }

    private static Ratio[] equation(List<String> states, int s) {
        Ratio[] row = new Ratio[states.size() + 1];
        java.util.Arrays.fill(row, Ratio.ZERO);
        row[s] = Ratio.ONE;
        return row;
    }

    /** What was seen is in the state of its longest end that is a state. */
    private static void leadOn(Ratio[] row, List<String> states, String seen, Ratio chance) {
        for (int from = 0; from <= seen.length(); from++) {
            int state = states.indexOf(seen.substring(from));
            if (state >= 0) {
                row[state] = row[state].minus(chance);
                return;
            }
        }
    }

    private static Ratio solveFirst(Ratio[][] rows) {
        int n = rows.length;
        for (int column = 0; column < n; column++) {
            int pivot = column;
            while (rows[pivot][column].isZero()) {
                pivot++;
            }
            Ratio[] swapped = rows[pivot];
            rows[pivot] = rows[column];
            rows[column] = swapped;
            for (int row = 0; row < n; row++) {
                if (row != column) {
                    takeAway(rows[row], swapped, column);
                }
            }
        }
        return rows[0][n].by(rows[0][0]);
    }

    private static void takeAway(Ratio[] row, Ratio[] pivot, int column) {
        Ratio factor = row[column].by(pivot[column]);
        for (int i = column; i < row.length; i++) {
            row[i] = row[i].minus(factor.times(pivot[i]));
        }
    }
}
