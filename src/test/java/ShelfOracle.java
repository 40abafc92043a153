import java.util.ArrayList;
import java.util.Arrays;
import java.util.List;

/** The shelf by plain lists, each question answered by going through all that has happened. */
final class ShelfOracle {
    static final int NO_ANSWER = Integer.MIN_VALUE;

    private static final class Gate {
        int champion = -2;
        int rival = -2;
        int share = 0;
        int refused = 0;
        final List<Integer> formers = new ArrayList<>();
        final int[] byDay = new int[2001];
        final int[] low = new int[6];
        final int[] high = new int[6];
        final int[][] told = new int[6][4];

        Gate() {
            Arrays.fill(byDay, -2);
            Arrays.fill(low, -1000);
            Arrays.fill(high, 1000);
        }

        void set(int model, int today) {
            champion = model;
            Arrays.fill(byDay, today, 2001, model);
        }
    }

    private static final class Row {
        int[] kept;
        int[] told;
        int[] inputs;
    }

    private final List<TextOracle> models = new ArrayList<>();
    private final List<Gate> gates = new ArrayList<>();
    private final List<Row> rows = new ArrayList<>();
    private final int[] inputs = new int[6];
    private StringBuilder tape = new StringBuilder();
    private int[] latestSides = null;
    private List<Integer> latestDiffering = new ArrayList<>();
    private int today = 0;
    private int trouble = 0;
    private int fault = 0;
    private int place = 0;

    private int out(int why, int answer) {
        trouble = why;
        return answer;
    }

    private static boolean in(int v, int low, int high) {
        return v >= low && v <= high;
    }

    private boolean hasModel(int m) {
        return in(m, 0, models.size() - 1);
    }

    private boolean hasGate(int d) {
        return in(d, 0, gates.size() - 1);
    }

    private boolean hasRow(int i) {
        return in(i, 0, rows.size() - 1);
    }

    int feed(int[] words) {
        if (tape.length() > 280) {
            return -1;
        }
        for (int word : words) {
            for (int i = 3; i >= 0; i--) {
                tape.append((char) (word >> 8 * i & 255));
            }
        }
        return tape.length();
    }

    int model(int n) {
        if (!in(n, 0, tape.length())) {
            return out(2, -1);
        }
        TextOracle read = new TextOracle(tape.substring(0, n));
        tape = new StringBuilder();
        fault = read.fault;
        place = read.place;
        if (fault != 0) {
            return out(4, -1);
        }
        if (models.size() == 20) {
            return out(3, -1);
        }
        models.add(read);
        return out(0, models.size() - 1);
    }

    int fault() {
        return fault;
    }

    int where() {
        return trouble == 4 ? place : -1;
    }

    int parts(int m) {
        return hasModel(m) ? models.get(m).parts : -1;
    }

    int asks(int m) {
        return hasModel(m) ? models.get(m).asks : -1;
    }

    int input(int k, int v) {
        if (!in(k, 0, 5) || !in(v, -1000, 1000)) {
            return out(2, 0);
        }
        inputs[k] = v;
        return out(0, 1);
    }

    int tell(int m) {
        return hasModel(m) ? out(0, models.get(m).tell(inputs)) : out(1, NO_ANSWER);
    }

    int door() {
        if (gates.size() == 4) {
            return out(3, -1);
        }
        gates.add(new Gate());
        return out(0, gates.size() - 1);
    }

    int guard(int d, int k, int low, int high) {
        if (!hasGate(d) || !in(k, 0, 5)) {
            return out(1, 0);
        }
        if (!in(low, -1000, 1000) || !in(high, -1000, 1000) || low > high) {
            return out(2, 0);
        }
        gates.get(d).low[k] = low;
        gates.get(d).high[k] = high;
        return out(0, 1);
    }

    int crown(int d, int m) {
        if (!hasGate(d) || !hasModel(m)) {
            return out(1, 0);
        }
        Gate gate = gates.get(d);
        if (gate.champion == m) {
            return out(5, 0);
        }
        if (gate.champion != -2) {
            gate.formers.add(gate.champion);
        }
        if (gate.formers.size() > 20) {
            gate.formers.remove(0);
        }
        gate.set(m, today);
        if (gate.rival == m) {
            gate.rival = -2;
            gate.share = 0;
        }
        return out(0, 1);
    }

    int rival(int d, int m, int share) {
        if (!hasGate(d) || !hasModel(m)) {
            return out(1, 0);
        }
        if (!in(share, 0, 100)) {
            return out(2, 0);
        }
        Gate gate = gates.get(d);
        if (gate.champion == -2 || gate.champion == m) {
            return out(5, 0);
        }
        gate.rival = m;
        gate.share = share;
        return out(0, 1);
    }

    int leave(int d) {
        if (!hasGate(d)) {
            return out(1, 0);
        }
        boolean had = gates.get(d).rival != -2;
        gates.get(d).rival = -2;
        gates.get(d).share = 0;
        return had ? out(0, 1) : out(5, 0);
    }

    int back(int d) {
        if (!hasGate(d)) {
            return out(1, 0);
        }
        Gate gate = gates.get(d);
        if (gate.formers.isEmpty()) {
            return out(5, 0);
        }
        gate.set(gate.formers.remove(gate.formers.size() - 1), today);
        gate.rival = -2;
        gate.share = 0;
        return out(0, 1);
    }

    int champion(int d, int day) {
        return hasGate(d) && in(day, 0, today) ? gates.get(d).byDay[day] : -1;
    }

    int about(int d, int what) {
        if (!hasGate(d) || !in(what, 0, 5)) {
            return -1;
        }
        Gate gate = gates.get(d);
        int kept = (int) rows.stream().filter(row -> row.kept[0] == d).count();
        return new int[] {gate.champion, gate.rival, gate.share, kept, gate.refused, gate.formers.size()}[what];
    }

    int pass(int days) {
        if (!in(days, 1, 400) || today + days > 2000) {
            return out(2, -1);
        }
        today += days;
        return out(0, today);
    }

    int ask(int d, int key) {
        if (!hasGate(d)) {
            return out(1, -1);
        }
        Gate gate = gates.get(d);
        if (key < 0) {
            return out(2, -1);
        }
        if (gate.champion == -2) {
            return out(5, -1);
        }
        for (int k = 0; k < 6; k++) {
            if (!in(inputs[k], gate.low[k], gate.high[k])) {
                gate.refused++;
                return out(6, -1);
            }
        }
        if (rows.size() == 200) {
            return out(3, -1);
        }
        boolean byRival = gate.rival != -2 && key % 100 < gate.share;
        int first = models.get(gate.champion).tell(inputs);
        int second = gate.rival == -2 ? NO_ANSWER : models.get(gate.rival).tell(inputs);
        Row row = new Row();
        row.kept = new int[] {d, key, today, byRival ? gate.rival : gate.champion, gate.champion, gate.rival};
        row.told = new int[] {byRival ? second : first, first, second, NO_ANSWER};
        row.inputs = inputs.clone();
        rows.add(row);
        return out(0, rows.size() - 1);
    }

    int kept(int i, int what) {
        return hasRow(i) && in(what, 0, 5) ? rows.get(i).kept[what] : -1;
    }

    int answer(int i, int what) {
        return hasRow(i) && in(what, 0, 3) ? rows.get(i).told[what] : NO_ANSWER;
    }

    int again(int i, int m) {
        return hasRow(i) && hasModel(m) ? out(0, models.get(m).tell(rows.get(i).inputs)) : out(1, NO_ANSWER);
    }

    int truth(int i, int v) {
        if (!hasRow(i)) {
            return out(1, 0);
        }
        if (!in(v, -1000000000, 1000000000)) {
            return out(2, 0);
        }
        rows.get(i).told[3] = v;
        return out(0, 1);
    }

    int side(int d) {
        if (!hasGate(d)) {
            return out(1, -1);
        }
        Gate gate = gates.get(d);
        if (gate.rival == -2) {
            return out(5, -1);
        }
        int all = 0;
        int[] found = new int[5];
        for (Row row : rows) {
            if (row.kept[0] == d && row.kept[4] == gate.champion && row.kept[5] == gate.rival) {
                all++;
                found[0] += row.told[1] == row.told[2] ? 1 : 0;
                if (row.told[3] != NO_ANSWER) {
                    int nearer = Long.compare(Math.abs((long) row.told[1] - row.told[3]), Math.abs((long) row.told[2] - row.told[3]));
                    found[1] += nearer > 0 ? 1 : 0;
                    found[2] += nearer < 0 ? 1 : 0;
                    found[3]++;
                }
            }
        }
        double lead = found[1] - found[2];
        found[4] = lead > 0 && lead > 2 * Math.sqrt(found[1] + found[2]) ? 1 : 0;
        latestSides = found;
        return out(0, all);
    }

    int sides(int what) {
        return latestSides != null && in(what, 0, 4) ? latestSides[what] : -1;
    }

    int expect(int d, int k, int bin, int count) {
        if (!hasGate(d) || !in(k, 0, 5) || !in(bin, 0, 3)) {
            return out(1, 0);
        }
        if (!in(count, 0, 1000)) {
            return out(2, 0);
        }
        gates.get(d).told[k][bin] = count;
        return out(0, 1);
    }

    int seen(int d, int k, int bin) {
        if (!hasGate(d) || !in(k, 0, 5) || !in(bin, 0, 3)) {
            return -1;
        }
        int[] lows = {-1000, -500, 0, 500, 1001};
        return (int) rows.stream().filter(r -> r.kept[0] == d && in(r.inputs[k], lows[bin], lows[bin + 1] - 1)).count();
    }

    int drift(int d, int k) {
        if (!hasGate(d) || !in(k, 0, 5)) {
            return -1;
        }
        long told = Arrays.stream(gates.get(d).told[k]).sum();
        long seen = about(d, 3);
        long most = 0;
        for (int bin = 0; bin < 4; bin++) {
            most = Math.max(most, Math.abs(seen(d, k, bin) * told - gates.get(d).told[k][bin] * seen));
        }
        return told * seen == 0 ? 0 : (int) (most * 1000 / (told * seen));
    }

    int gave(int m, int from, int to) {
        return hasModel(m) ? (int) rows.stream().filter(r -> r.kept[3] == m && in(r.kept[2], from, to)).count() : -1;
    }

    int differs(int d, int m) {
        if (!hasGate(d) || !hasModel(m)) {
            return -1;
        }
        latestDiffering = new ArrayList<>();
        for (int i = 0; i < rows.size(); i++) {
            if (rows.get(i).kept[0] == d && models.get(m).tell(rows.get(i).inputs) != rows.get(i).told[0]) {
                latestDiffering.add(i);
            }
        }
        return latestDiffering.size();
    }

    /** NO_ANSWER stands for the exception: it is no ANSWER's number. */
    int differing(int i) {
        return in(i, 0, latestDiffering.size() - 1) ? latestDiffering.get(i) : NO_ANSWER;
    }

    int count(int what) {
        return in(what, 0, 4) ? new int[] {models.size(), gates.size(), rows.size(), today, tape.length()}[what] : -1;
    }

    int trouble() {
        return trouble;
    }
}
