import java.util.ArrayList;
import java.util.List;
import java.util.regex.Pattern;

/**
 * Long runs of mixed calls, each answer held against a model that is written another way: rows of
 * the machine's own lanes, riders of real kinds, a search by writing out every row, days told from
 * their beginning each time. The runs are the same each time.
 */
public final class GlassHillAgainstModel {
    private static final int RUNS = 400, CALLS = 512;

    private static long seed = 20261119;
    private static int wrong = 0;

    public static void main(String[] args) {
        for (int run = 0; run < RUNS && wrong < 20; run++) {
            new Run(run).go();
        }
        System.out.println(wrong == 0 ? "all answers are as the model's" : wrong + " answers are not the model's");
        if (wrong != 0) {
            System.exit(1);
        }
    }

    private static int next(int bound) {
        seed = seed * 6364136223846793005L + 1442695040888963407L;
        return (int) ((seed >>> 33) % bound);
    }

    /** Mostly 0 .. bound - 1, now and then just outside, rarely far outside. */
    private static int near(int bound) {
        int chance = next(40);
        if (chance == 0) {
            return -1;
        }
        if (chance == 1) {
            return bound;
        }
        if (chance == 2 && next(8) == 0) {
            return next(2) == 0 ? Integer.MIN_VALUE : Integer.MAX_VALUE;
        }
        return next(bound);
    }

    // ---- the model

    private static class Rider {
        int speed;
        int nails;

        int kind() {
            return 0;
        }

        int taken(int slick, int scratches) {
            int rest = slick - scratches - nails;
            return rest > 0 ? rest : 0;
        }

        int leaves() {
            return 1;
        }
    }

    private static class Night extends Rider {
        @Override
        int kind() {
            return 1;
        }

        @Override
        int taken(int slick, int scratches) {
            int rest = super.taken(slick, scratches);
            return rest > 0 ? rest - 1 : 0;
        }
    }

    private static final class Lad extends Night {
        @Override
        int kind() {
            return 2;
        }

        @Override
        int taken(int slick, int scratches) {
            int rest = slick - scratches - nails;
            return rest > 0 ? rest : 0;
        }

        @Override
        int leaves() {
            return 2;
        }
    }

    private static Rider riderOf(int kind, int speed, int nails) {
        Rider made = kind == 0 ? new Rider() : kind == 1 ? new Night() : new Lad();
        made.speed = speed;
        made.nails = nails;
        return made;
    }

    /** What days came to, or where they were wrong. */
    private static final class Told {
        int[] scratches;
        Integer[] heights;
        boolean[] up;
        int wrongAt = -9;
        int firstUp = -9;

        int upSet() {
            int set = 0;
            for (int r = 0; r < up.length; r++) {
                set += up[r] ? 1 << r : 0;
            }
            return set;
        }
    }

    private static final class Model {
        List<Integer> slick = new ArrayList<>();
        List<Integer> laid = new ArrayList<>();
        List<Rider> riders = new ArrayList<>();
        List<int[]> readings = new ArrayList<>();
        Object[] sheets = new Object[4];
        int trace;
        int fault;

        int refuse(int number) {
            fault = 0;
            return number;
        }

        int meet(int number) {
            fault = number;
            return -10 - number;
        }

        boolean rider(int r) {
            return r >= 0 && r < riders.size();
        }

        boolean pace(int p) {
            return p >= 0 && p < slick.size();
        }

        static boolean in(int v, int least, int most) {
            return least <= v && v <= most;
        }

        static int lane(Object row) {
            return row instanceof byte[] ? 0 : row instanceof short[] ? 1 : 2;
        }

        static int length(Object row) {
            return row == null ? 0 : java.lang.reflect.Array.getLength(row);
        }

        static int at(Object row, int i) {
            return java.lang.reflect.Array.getInt(row, i);
        }

        int cells(int sheet, int lane, int i, int n, boolean ofSize) {
            Object row = sheets[sheet];
            if (row != null && lane(row) != lane) {
                return meet(2);
            }
            if (row == null) {
                return meet(1);
            }
            if (ofSize && n < 0) {
                return meet(4);
            }
            long end = (long) i + n;
            if (i < 0 || i > length(row) || end > length(row)) {
                return meet(3);
            }
            return refuse(0);
        }

        int hill(int sheet, int lane, int i, int n) {
            if (!in(sheet, 0, 3)) {
                return refuse(-1);
            }
            if (!in(lane, 0, 2)) {
                return refuse(-2);
            }
            int met = cells(sheet, lane, i, n, true);
            if (met != 0) {
                return met;
            }
            StringBuilder text = new StringBuilder();
            for (int c = 0; c < n; c++) {
                int code = at(sheets[sheet], i + c);
                text.append(in(code, 0, 127) ? (char) code : '?');
            }
            int place = firstFault(text.toString());
            if (place >= 0) {
                return -100 - place;
            }
            take(text.toString());
            return riders.size();
        }

        /** By regular expressions: the longest beginning with which some text goes on. */
        static int firstFault(String text) {
            if (isWhole(text)) {
                return -1;
            }
            for (int end = 1; end <= text.length(); end++) {
                if (!isBeginning(text.substring(0, end))) {
                    return end - 1;
                }
            }
            return text.length();
        }

        static boolean isWhole(String text) {
            for (int paces = 2; paces <= 8; paces++) {
                if (Pattern.matches("a" + paces + "\\d{" + paces + "}(,[rnl]\\d{3}){1,5}", text)) {
                    return true;
                }
            }
            return false;
        }

        static boolean isBeginning(String text) {
            for (int paces = 2; paces <= 8; paces++) {
                String like = "a" + paces + "0".repeat(paces) + ",r000".repeat(5);
                for (int r = 1; r <= 5; r++) {
                    int letter = 2 + paces + 5 * r - 4;
                    if (text.length() > letter && "nl".indexOf(text.charAt(letter)) >= 0) {
                        like = like.substring(0, letter) + text.charAt(letter) + like.substring(letter + 1);
                    }
                }
                if (text.length() <= like.length()
                        && isWhole(text + like.substring(text.length()))) {
                    return true;
                }
            }
            return false;
        }

        void take(String text) {
            int paces = text.charAt(1) - '0';
            slick.clear();
            laid.clear();
            riders.clear();
            readings.clear();
            for (char c : text.substring(2, 2 + paces).toCharArray()) {
                slick.add(c - '0');
                laid.add(0);
            }
            for (String told : text.substring(3 + paces).split(",")) {
                riders.add(riderOf("rnl".indexOf(told.charAt(0)),
                        Integer.parseInt(told.substring(1, 3)), told.charAt(3) - '0'));
            }
        }

        /** Days from their beginning; where they are kind, a wrong try is of no matter. */
        Told days(List<Integer> steps, boolean kind) {
            Told told = new Told();
            told.scratches = laid.stream().mapToInt(v -> v).toArray();
            told.heights = new Integer[riders.size()];
            told.up = new boolean[riders.size()];
            int[] tries = new int[riders.size()];
            for (int s = 0; s < steps.size(); s++) {
                int step = steps.get(s);
                if (step == 5) {
                    for (int p = 0; p < told.scratches.length; p++) {
                        told.scratches[p] -= told.scratches[p] > 0 ? 1 : 0;
                    }
                } else if (told.up[step]) {
                    if (!kind) {
                        told.wrongAt = s;
                        return told;
                    }
                } else {
                    tryOnce(told, step, tries[step]++);
                    if (told.up[step] && told.firstUp == -9) {
                        told.firstUp = s;
                    }
                }
            }
            return told;
        }

        void tryOnce(Told told, int r, int ahead) {
            Rider who = riders.get(r);
            int left = who.speed > ahead ? who.speed - ahead : 0;
            int height = 0;
            while (height < slick.size()) {
                int price = who.taken(slick.get(height), told.scratches[height]);
                if (price > left) {
                    break;
                }
                left -= price;
                height++;
            }
            told.heights[r] = height;
            told.up[r] = height == slick.size();
            for (int p = 0; p < height && !told.up[r]; p++) {
                int more = told.scratches[p] + who.leaves();
                told.scratches[p] = more > 9 ? 9 : more;
            }
        }

        List<Integer> taken;

        int stepsOf(int sheet, int lane, int i, int n, boolean told) {
            if (!in(sheet, 0, 3)) {
                return refuse(-1);
            }
            if (!in(lane, 0, 2) || !told) {
                return refuse(-2);
            }
            int met = cells(sheet, lane, i, n, false);
            if (met != 0) {
                return met;
            }
            if (slick.isEmpty()) {
                return refuse(-3);
            }
            taken = new ArrayList<>();
            for (int c = i; c < i + n; c++) {
                int step = at(sheets[sheet], c);
                if (step != 5 && !rider(step)) {
                    return refuse(-1);
                }
                taken.add(step);
            }
            return 0;
        }

        int daysOf(int sheet, int lane, int i, int n, int what) {
            boolean told = in(what, 0, 2) || in(what, 10, 17) || in(what, 20, 24);
            int refused = stepsOf(sheet, lane, i, n, told && in(n, 0, 30));
            if (refused != 0) {
                return refused;
            }
            Told end = days(taken, false);
            if (what == 1) {
                return end.wrongAt;
            }
            if (end.wrongAt != -9) {
                return -100 - end.wrongAt;
            }
            if (what == 0) {
                return end.upSet();
            }
            if (what == 2) {
                return end.firstUp;
            }
            if (what < 20) {
                return pace(what - 10) ? end.scratches[what - 10] : -9;
            }
            boolean tried = rider(what - 20) && end.heights[what - 20] != null;
            return tried ? end.heights[what - 20] : -9;
        }

        /** Writes out every row of each length, in their order. */
        int fewest(int r, int k) {
            if (!rider(r) || k < -1) {
                return -1;
            }
            int base = riders.size();
            int rows = 1;
            for (int length = 1; length <= 6; length++) {
                rows *= base;
                for (int row = 0; row < rows; row++) {
                    List<Integer> steps = new ArrayList<>();
                    for (int rest = row, c = 0; c < length; c++, rest /= base) {
                        steps.add(0, rest % base);
                    }
                    Told end = days(steps, false);
                    if (end.wrongAt == -9 && end.up[r]) {
                        return k == -1 ? length : k < length ? steps.get(k) : -9;
                    }
                }
            }
            return -9;
        }

        int sand(int r) {
            if (!rider(r)) {
                return -1;
            }
            List<Integer> kept = new ArrayList<>(slick);
            for (int size = 0; size <= kept.size(); size++) {
                for (int set = 0; set < 1 << kept.size(); set++) {
                    if (Integer.bitCount(set) == size) {
                        // A slick of -9 takes nothing of anybody.
                        for (int p = 0; p < kept.size(); p++) {
                            slick.set(p, (set >> p & 1) == 1 ? -9 : kept.get(p));
                        }
                        boolean up = days(List.of(r), false).up[r];
                        slick = new ArrayList<>(kept);
                        if (up) {
                            return set;
                        }
                    }
                }
            }
            return -9;
        }

        int game(int r, int other, int n) {
            if (!rider(r) || !rider(other)) {
                return -1;
            }
            if (r == other || !in(n, 0, 10)) {
                return -2;
            }
            return play(new int[] {r, other}, 0, n, new ArrayList<>());
        }

        /** Who wins, by what was tried up to here. */
        int play(int[] both, int turn, int turns, List<Integer> tried) {
            Told now = days(tried, false);
            if (now.up[both[0]]) {
                return 1;
            }
            if (now.up[both[1]]) {
                return 2;
            }
            if (turn == turns) {
                return 0;
            }
            int wait = play(both, turn + 1, turns, tried);
            tried.add(both[turn % 2]);
            int trying = play(both, turn + 1, turns, tried);
            tried.remove(tried.size() - 1);
            int own = turn % 2 + 1;
            if (wait == own || trying == own) {
                return own;
            }
            return wait == 0 || trying == 0 ? 0 : 3 - own;
        }

        int worth(int r) {
            if (!rider(r)) {
                return -1;
            }
            List<Integer> all = new ArrayList<>();
            List<Integer> others = new ArrayList<>();
            for (int who = 0; who < riders.size(); who++) {
                all.add(who);
                if (who != r) {
                    others.add(who);
                }
            }
            int sum = 100;
            Told with = days(all, false);
            Told without = days(others, false);
            for (int who : others) {
                sum += with.heights[who] - without.heights[who];
            }
            return sum;
        }

        boolean isSeen() {
            Told end = days(taken, false);
            if (end.wrongAt != -9) {
                return false;
            }
            for (int[] one : readings) {
                if (end.heights[one[0]] == null || end.heights[one[0]] != one[1]) {
                    return false;
                }
            }
            return true;
        }

        int seen(char of, int number, int sheet, int lane, int i, int n, int which) {
            if (of == 'p' ? !pace(number) : !rider(number)) {
                return refuse(-1);
            }
            boolean told = in(n, 0, 30) && (of != 's' || in(which, 0, 1));
            int refused = stepsOf(sheet, lane, i, n, told);
            if (refused != 0) {
                return refused;
            }
            List<Integer> fit = new ArrayList<>();
            int most = of == 's' ? 99 : of == 'k' ? 2 : 9;
            for (int v = 0; v <= most; v++) {
                List<Rider> riderWas = new ArrayList<>(riders);
                List<Integer> slickWas = new ArrayList<>(slick);
                if (of == 'p') {
                    slick.set(number, v);
                } else {
                    Rider it = riders.get(number);
                    riders.set(number, riderOf(of == 'k' ? v : it.kind(),
                            of == 's' ? v : it.speed, of == 'n' ? v : it.nails));
                }
                if (isSeen()) {
                    fit.add(v);
                }
                riders = riderWas;
                slick = slickWas;
            }
            if (of == 's') {
                return which == 0 ? fit.size() : fit.isEmpty() ? -9 : fit.get(0);
            }
            return fit.stream().mapToInt(v -> 1 << v).sum();
        }

        long odds(int r, int sheet, int lane, int i, int n, int which) {
            if (!rider(r)) {
                refuse(-1);
                return Long.MIN_VALUE;
            }
            if (stepsOf(sheet, lane, i, n, in(n, 0, 10) && in(which, 0, 1)) != 0) {
                return Long.MIN_VALUE;
            }
            long upper = 0;
            long lower = 1L << n;
            for (int weather = 0; weather < lower; weather++) {
                List<Integer> all = new ArrayList<>();
                for (int s = 0; s < n; s++) {
                    if ((weather >> s & 1) == 1) {
                        all.add(5);
                    }
                    all.add(taken.get(s));
                }
                upper += days(all, true).up[r] ? 1 : 0;
            }
            long common = java.math.BigInteger.valueOf(upper)
                    .gcd(java.math.BigInteger.valueOf(lower)).longValue();
            return which == 0 ? upper / common : lower / common;
        }

        int sheet(int k, int lane, int n) {
            if (!in(k, 0, 3)) {
                return refuse(-1);
            }
            if (!in(lane, 0, 2) || n > 60) {
                return refuse(-2);
            }
            if (n < 0) {
                return meet(4);
            }
            sheets[k] = lane == 0 ? new byte[n] : lane == 1 ? new short[n] : new int[n];
            return 1 + refuse(0);
        }

        int lose(int k) {
            if (!in(k, 0, 3)) {
                return -1;
            }
            int had = sheets[k] == null ? 0 : 1;
            sheets[k] = null;
            return had;
        }

        int put(int k, int i, int v) {
            if (!in(k, 0, 3)) {
                return refuse(-1);
            }
            if (sheets[k] == null) {
                return meet(1);
            }
            if (!in(i, 0, length(sheets[k]) - 1)) {
                return meet(3);
            }
            if (sheets[k] instanceof byte[] bytes) {
                bytes[i] = (byte) v;
            } else if (sheets[k] instanceof short[] shorts) {
                shorts[i] = (short) v;
            } else if (sheets[k] instanceof int[] ints) {
                ints[i] = v;
            }
            return 1 + refuse(0);
        }

        long cell(int k, int i, int lane) {
            if (!in(k, 0, 3) || !in(lane, 0, 2)) {
                refuse(-1);
                return Long.MIN_VALUE;
            }
            return cells(k, lane, i, 1, false) != 0 ? Long.MIN_VALUE : at(sheets[k], i);
        }

        int copy(int k, int i, int other, int j, int n) {
            if (!in(k, 0, 3) || !in(other, 0, 3)) {
                return refuse(-1);
            }
            if (sheets[k] == null || sheets[other] == null) {
                return meet(1);
            }
            if (lane(sheets[k]) != lane(sheets[other])) {
                return meet(2);
            }
            try {
                System.arraycopy(sheets[k], i, sheets[other], j, n);
            } catch (IndexOutOfBoundsException beyond) {
                return meet(3);
            }
            refuse(0);
            return n;
        }

        int leave(int number, int answer) {
            trace = 31 * trace + number;
            return answer;
        }

        int tell(int r) {
            if (!rider(r)) {
                return -1;
            }
            Rider who = riders.get(r);
            int[] bodies = who.kind() == 0 ? new int[] {1}
                    : who.kind() == 1 ? new int[] {2, 1} : new int[] {3, 2, 1, 1};
            for (int body : bodies) {
                leave(body, 0);
            }
            return who.kind() == 0 ? who.nails : who.kind() == 1 ? who.nails + 100 : 2 * who.nails + 100;
        }

        int cheer(int r) {
            if (!rider(r)) {
                return -1;
            }
            return riders.get(r) instanceof Lad ? leave(5, 80) : leave(4, r);
        }

        int as(int r, int kind) {
            if (!rider(r)) {
                return refuse(-1);
            }
            if (!in(kind, 0, 2)) {
                return refuse(-2);
            }
            Rider who = riders.get(r);
            boolean is = kind == 0 || kind == 1 && who instanceof Night || who instanceof Lad;
            return is ? 1 + refuse(0) : meet(2);
        }
    }

    // ---- the runs

    private static final class Run {
        final int number;
        final GlassHill x = new GlassHill();
        final Model m = new Model();
        final StringBuilder told = new StringBuilder();
        int calls = 0;

        Run(int number) {
            this.number = number;
        }

        void go() {
            while (calls < CALLS - 80 && wrong < 20) {
                if (m.slick.isEmpty() ? next(3) != 0 : next(60) == 0) {
                    writeHill();
                }
                if (next(4) == 0) {
                    writeSteps();
                }
                one();
            }
        }

        void hold(String call, long got, long want) {
            calls++;
            told.append(call).append('\n');
            if (got != want) {
                wrong++;
                System.out.println("run " + number + ": " + call + " answered " + got + ", the model " + want);
                if (wrong == 1) {
                    System.out.println(told);
                }
            }
            hold("trace", x.trace(), m.trace, x.fault(), m.fault);
        }

        void hold(String call, long trace, long traceDue, long fault, long faultDue) {
            calls += 2;
            if (trace != traceDue || fault != faultDue) {
                wrong++;
                System.out.println("run " + number + ": trace " + trace + " for " + traceDue
                        + ", fault " + fault + " for " + faultDue + " behind " + told);
            }
        }

        void write(int k, int lane, int[] row) {
            x.sheet(k, lane, row.length);
            m.sheet(k, lane, row.length);
            for (int i = 0; i < row.length; i++) {
                x.put(k, i, row[i]);
                m.put(k, i, row[i]);
            }
            calls += 1 + row.length;
            told.append("sheet ").append(k).append(" of lane ").append(lane).append(": ")
                    .append(java.util.Arrays.toString(row)).append('\n');
        }

        void writeHill() {
            int paces = 2 + next(7);
            StringBuilder text = new StringBuilder("a").append(paces);
            int dear = 1 + next(10);
            int dearness = 0;
            for (int p = 0; p < paces; p++) {
                int slick = next(dear);
                dearness += slick;
                text.append(slick);
            }
            // Most have a little too little speed: they are up by some tries, and not by others.
            for (int r = 1 + next(5); r > 0; r--) {
                int nails = next(4) == 0 ? next(10) : next(2);
                int speed = next(4) == 0 ? next(100)
                        : Math.max(0, dearness - paces * nails - next(paces + 4) + 1);
                text.append(',').append("rnl".charAt(next(3))).append(speed / 10)
                        .append(speed % 10).append(nails);
            }
            int[] row = text.chars().toArray();
            if (next(5) == 0) {
                row[next(row.length)] = next(2) == 0 ? '0' + next(10) : next(300) - 100;
            }
            int lane = next(3);
            write(0, lane, row);
            int n = next(6) == 0 ? near(row.length + 1) : row.length;
            hold("hill(0, " + lane + ", 0, " + n + ")", x.hill(0, lane, 0, n), m.hill(0, lane, 0, n));
        }

        void writeSteps() {
            int[] row = new int[next(12)];
            for (int i = 0; i < row.length; i++) {
                row[i] = next(4) == 0 ? 5 : next(m.riders.size() + 1 - (next(8) == 0 ? 0 : 1) + 1);
                if (row[i] == m.riders.size() && next(4) != 0) {
                    row[i] = 5;
                }
            }
            write(1 + next(3), next(3), row);
        }

        void one() {
            int r = near(Math.max(1, m.riders.size()));
            int p = near(Math.max(1, m.slick.size()));
            int k = near(4);
            int lane = next(8) == 0 || !Model.in(k, 0, 3) ? near(3) : Model.lane(m.sheets[k]);
            int cells = Model.in(k, 0, 3) ? Model.length(m.sheets[k]) : 0;
            int i = next(2) == 0 ? 0 : near(cells + 1);
            int n = next(2) == 0 ? cells : near(Math.max(0, cells - Math.max(0, i)) + 1);
            String row = k + ", " + lane + ", " + i + ", " + n;
            switch (next(34)) {
                case 0 -> {
                    int what = near(2);
                    int want = !m.pace(p) ? -1 : !Model.in(what, 0, 1) ? -2
                            : what == 0 ? m.slick.get(p) : m.laid.get(p);
                    hold("ofPace(" + p + ", " + what + ")", x.ofPace(p, what), want);
                }
                case 1 -> {
                    int what = near(3);
                    int want = !m.rider(r) ? -1 : !Model.in(what, 0, 2) ? -2
                            : what == 0 ? m.riders.get(r).kind()
                            : what == 1 ? m.riders.get(r).speed : m.riders.get(r).nails;
                    hold("ofRider(" + r + ", " + what + ")", x.ofRider(r, what), want);
                }
                case 2, 3 -> {
                    int v = near(10);
                    boolean is = m.pace(p) && Model.in(v, 0, 9);
                    int want = !m.pace(p) ? -1 : is ? m.laid.set(p, v) : -2;
                    hold("scratch(" + p + ", " + v + ")", x.scratch(p, v), want);
                }
                case 4 -> {
                    int v = near(next(4) == 0 ? 100 : 30);
                    int want = !m.rider(r) ? -1 : v < 0 || v > 99 ? -2 : m.riders.get(r).speed;
                    if (want >= 0) {
                        m.riders.get(r).speed = v;
                    }
                    hold("speed(" + r + ", " + v + ")", x.speed(r, v), want);
                }
                case 5 -> {
                    int v = near(10);
                    int want = !m.rider(r) ? -1 : v < 0 || v > 9 ? -2 : m.riders.get(r).nails;
                    if (want >= 0) {
                        m.riders.get(r).nails = v;
                    }
                    hold("shoe(" + r + ", " + v + ")", x.shoe(r, v), want);
                }
                case 6 -> {
                    int s = near(10);
                    int want = !m.rider(r) || !m.pace(p) ? -1 : s < 0 || s > 9 ? -2
                            : m.riders.get(r).taken(m.slick.get(p), s);
                    hold("takes(" + r + ", " + p + ", " + s + ")", x.takes(r, p, s), want);
                }
                case 7, 8, 9, 10 -> {
                    int[] whats = {0, 1, 2, 10, 11, 12, 13, 14, 15, 16, 17, 20, 21, 22, 23, 24};
                    int what = next(12) == 0 ? near(26) : whats[next(whats.length)];
                    hold("days(" + row + ", " + what + ")", x.days(k, lane, i, n, what),
                            m.daysOf(k, lane, i, n, what));
                }
                case 11 -> {
                    int step = near(8) - 1;
                    if (m.riders.size() < 4 || next(6) == 0) {
                        hold("fewest(" + r + ", " + step + ")", x.fewest(r, step), m.fewest(r, step));
                    }
                }
                case 12 -> hold("sand(" + r + ")", x.sand(r), m.sand(r));
                case 13, 31 -> {
                    int other = near(Math.max(1, m.riders.size()));
                    int turns = near(11);
                    hold("game(" + r + ", " + other + ", " + turns + ")", x.game(r, other, turns),
                            m.game(r, other, turns));
                }
                case 14 -> hold("worth(" + r + ")", x.worth(r), m.worth(r));
                case 15, 16 -> readingOf(r, k, lane, i, n);
                case 17 -> {
                    int back = near(next(3) + 1);
                    int want = back < 0 || back > m.readings.size() ? -2 : m.readings.size() - back;
                    while (want >= 0 && m.readings.size() > want) {
                        m.readings.remove(m.readings.size() - 1);
                    }
                    hold("back(" + back + ")", x.back(back), want);
                }
                case 18, 19 -> {
                    int which = near(2);
                    hold("speeds(" + r + ", " + row + ", " + which + ")",
                            x.speeds(r, k, lane, i, n, which), m.seen('s', r, k, lane, i, n, which));
                }
                case 20 -> hold("nails(" + r + ", " + row + ")", x.nails(r, k, lane, i, n),
                        m.seen('n', r, k, lane, i, n, 0));
                case 21 -> hold("slicks(" + p + ", " + row + ")", x.slicks(p, k, lane, i, n),
                        m.seen('p', p, k, lane, i, n, 0));
                case 22 -> hold("kinds(" + r + ", " + row + ")", x.kinds(r, k, lane, i, n),
                        m.seen('k', r, k, lane, i, n, 0));
                case 23, 24 -> {
                    int which = near(2);
                    hold("odds(" + r + ", " + row + ", " + which + ")",
                            x.odds(r, k, lane, i, n, which), m.odds(r, k, lane, i, n, which));
                }
                case 25 -> {
                    int length = near(next(6) == 0 ? 62 : 20);
                    int newLane = near(3);
                    hold("sheet(" + k + ", " + newLane + ", " + length + ")",
                            x.sheet(k, newLane, length), m.sheet(k, newLane, length));
                }
                case 26 -> {
                    if (next(3) == 0) {
                        hold("lose(" + k + ")", x.lose(k), m.lose(k));
                    }
                }
                case 27 -> {
                    int v = next(3) == 0 ? next(Integer.MAX_VALUE) - (1 << 30) : next(6);
                    hold("put(" + k + ", " + i + ", " + v + ")", x.put(k, i, v), m.put(k, i, v));
                }
                case 28 -> hold("cell(" + k + ", " + i + ", " + lane + ")", x.cell(k, i, lane),
                        m.cell(k, i, lane));
                case 29 -> {
                    int other = next(2) == 0 ? k : near(4);
                    int j = near(Math.max(1, cells));
                    hold("copy(" + k + ", " + i + ", " + other + ", " + j + ", " + n + ")",
                            x.copy(k, i, other, j, n), m.copy(k, i, other, j, n));
                }
                case 30 -> {
                    int kind = near(3);
                    hold("tell(" + r + ")", x.tell(r), m.tell(r));
                    hold("cheer(" + r + ")", x.cheer(r), m.cheer(r));
                    hold("as(" + r + ", " + kind + ")", x.as(r, kind), m.as(r, kind));
                }
                default -> {
                    int what = near(3);
                    int want = what == 0 ? m.riders.size() : what == 1 ? m.slick.size()
                            : what == 2 ? m.readings.size() : -2;
                    hold("many(" + what + ")", x.many(what), want);
                }
            }
        }

        /** Half of the readings are such as the days of a sheet give, so that some can be. */
        void readingOf(int r, int k, int lane, int i, int n) {
            int height = near(9);
            if (next(4) != 0 && m.rider(r)) {
                int was = m.fault;
                int seen = m.daysOf(k, lane, i, n, 20 + r);
                m.fault = was;
                height = seen >= 0 ? seen : height;
            }
            int want = !m.rider(r) ? -1 : !Model.in(height, 0, 8) ? -2
                    : m.readings.size() == 8 ? -4 : m.readings.size();
            if (want >= 0) {
                m.readings.add(new int[] {r, height});
            }
            hold("reading(" + r + ", " + height + ")", x.reading(r, height), want);
        }
    }
}
