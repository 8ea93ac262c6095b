import java.util.ArrayList;
import java.util.List;

/**
 * The document once more, told as plainly as a test may: it keeps what was told, and works out each answer
 * from the beginning, the figure as a written row of ticks. Calls answer a long, or the class of what is thrown.
 */
final class Model {
    static final String[] NAMES = {"sign", "nearest", "written", "loses", "item", "clear", "face", "shown",
        "standsFor", "rule", "except", "signed", "at", "readBack", "take", "make", "allow", "withdraw", "persons",
        "mark", "agree"};
    private static final Object NO_SUCH = IndexOutOfBoundsException.class;
    private static final Object BAD_ARGUMENT = IllegalArgumentException.class;
    private static final Object BAD_STATE = IllegalStateException.class;
    private static final int[] LOCI = {3, 5, 0, 2};

    private final List<int[]> signs = new ArrayList<>();
    private final List<int[]> items = new ArrayList<>();
    private final List<int[]> faces = new ArrayList<>();
    private final List<Integer> rules = new ArrayList<>();
    private final List<List<Integer>> exceptions = new ArrayList<>();
    /** {persons, purpose, one, other, 1 if it is gone}. */
    private final List<int[]> clips = new ArrayList<>();
    private final List<int[]> marks = new ArrayList<>();
    private final boolean[][] refused = new boolean[6][3];

    Object call(String name, int[] a) {
        switch (name) {
            case "sign": return sign(a);
            case "nearest": return nearest(a[0], a[1]);
            case "written":
                return !in(a[0], signs.size()) ? NO_SUCH : !in(a[1], 3) ? BAD_ARGUMENT : (Object) code(a[0], a[1]);
            case "loses": return loses(a[0], a[1]);
            case "item": return item(a[0], a[1], a[2], a[3]);
            case "clear": return clear();
            case "face": return face(a[0], a[1], a[2]);
            case "shown":
                return !in(a[0], items.size()) ? NO_SUCH : !in(a[1], 3) ? BAD_ARGUMENT : (Object) shown(a[0], a[1]);
            case "standsFor":
                return !in(a[0], items.size()) || !in(a[1], 4) ? NO_SUCH : (Object) (long) standing(a[0] + 1)[a[1]];
            case "rule": return rule(a[0]);
            case "except": return except(a[0], a[1]);
            case "signed": return signed(a[0], a[1]);
            case "at": return at(a[0], a[1]);
            case "readBack": return readBack(a[0], a[1]);
            case "take": return take(a[0]);
            case "make": return make(a[0], a[1], a[2]);
            case "allow": return allow(a[0], a[1], a[2] != 0);
            case "withdraw": return !in(a[0], 6) ? NO_SUCH : (Object) remove(a[0], -1);
            case "persons": return !in(a[0], clips.size()) ? NO_SUCH : (Object) (long) (there(a[0]) ? clips.get(a[0])[0] : 0);
            case "mark": return mark(a);
            default: return agree(a);
        }
    }

    private static boolean in(int x, int bound) {
        return x > -1 && x < bound;
    }

    private static int apart(int p, int q) {
        return Math.abs(p / 3 - q / 3) + Math.abs(p % 3 - q % 3);
    }

    private Object sign(int[] a) {
        int[] bounds = {8, 9, 9, 4, 4, 3};
        for (int i = 0; i < 6; i++) {
            if (!in(a[i], bounds[i])) {
                return BAD_ARGUMENT;
            }
        }
        if (a[5] == 2 && !(in(a[6], 8) && (a[6] < 4 || a[6] == a[0]))) {
            return BAD_ARGUMENT;
        }
        int[] told = a.clone();
        told[6] = a[5] == 2 ? a[6] : 0;
        if (signs.size() == 30 || !like(told).isEmpty()) {
            return BAD_STATE;
        }
        signs.add(told);
        return signs.size() - 1L;
    }

    private List<Integer> like(int[] hands) {
        List<Integer> found = new ArrayList<>();
        for (int[] sign : signs) {
            if (java.util.Arrays.equals(sign, hands)) {
                found.add(signs.indexOf(sign));
            }
        }
        return found;
    }

    private Object nearest(int sign, int what) {
        if (!in(sign, signs.size())) {
            return NO_SUCH;
        }
        if (!in(what, 2)) {
            return BAD_ARGUMENT;
        }
        for (int unlike = 0; unlike <= 6; unlike++) {
            for (int i = 0; i < signs.size(); i++) {
                int count = 0;
                for (int k = 0; k < 6; k++) {
                    count += signs.get(i)[k] != signs.get(sign)[k] ? 1 : 0;
                }
                if (i != sign && count == unlike) {
                    return (long) (what == 0 ? i : unlike);
                }
            }
        }
        return -1L;
    }

    private long code(int sign, int school) {
        int[] s = signs.get(sign);
        if (school == 0) {
            return s[0] * 81 + s[1] * 9 + s[2];
        }
        if (school == 1) {
            return s[0] * 48 + s[3] * 12 + s[4] * 3 + s[5];
        }
        return (s[0] <= 3 ? 9 : 0) + 3 * (Integer.compare(s[2] / 3, s[1] / 3) + 1)
                + Integer.compare(s[2] % 3, s[1] % 3) + 1;
    }

    private Object loses(int school, int other) {
        if (!in(school, 3) || !in(other, 3)) {
            return BAD_ARGUMENT;
        }
        long twice = 0;
        for (int i = 0; i < signs.size(); i++) {
            for (int j = 0; j < signs.size(); j++) {
                twice += code(i, school) != code(j, school) && code(i, other) == code(j, other) ? 1 : 0;
            }
        }
        return twice / 2;
    }

    private int[] standing(int count) {
        int[] loci = {-1, -1, -1, -1};
        for (int[] item : items.subList(0, count)) {
            if (item[0] == 1) {
                loci[item[1]] = item[2];
            } else if (item[0] == 3) {
                loci[item[1]] = -1;
            }
        }
        return loci;
    }

    private Object item(int kind, int one, int other, int last) {
        boolean isPointing = kind >= 1 && kind <= 3;
        boolean ofSign = kind == 0 || kind == 4;
        if (ofSign && !in(one, signs.size()) || isPointing && !in(one, 4)
                || kind == 4 && (!in(other, 4) || !in(last, 4))) {
            return NO_SUCH;
        }
        if (!in(kind, 6) || kind == 1 && !in(other, 10) || kind == 5 && !in(one, 26) || kind == 4 && other == last) {
            return BAD_ARGUMENT;
        }
        int[] now = standing(items.size());
        boolean stands = true;
        if (kind == 1) {
            stands = now[one] == -1;
            for (int referent : now) {
                stands &= referent != other;
            }
        } else if (isPointing) {
            stands = now[one] != -1;
        } else if (kind == 4) {
            stands = now[other] != -1 && now[last] != -1;
        }
        if (items.size() == 14 || !stands) {
            return BAD_STATE;
        }
        items.add(new int[] {kind, one, other, last});
        return (long) items.size();
    }

    private Object clear() {
        long had = items.size();
        items.clear();
        faces.clear();
        return had;
    }

    private static int articulator(int face) {
        return new int[] {0, 0, 1, 2}[face];
    }

    private Object face(int face, int from, int to) {
        if (!in(from, items.size()) || !in(to, items.size())) {
            return NO_SUCH;
        }
        if (!in(face, 4) || from > to) {
            return BAD_ARGUMENT;
        }
        boolean busy = faces.size() == 8;
        for (int i = from; i <= to; i++) {
            for (int[] told : faces) {
                busy |= articulator(told[0]) == articulator(face) && told[1] <= i && i <= told[2];
            }
        }
        if (busy) {
            return BAD_STATE;
        }
        faces.add(new int[] {face, from, to});
        return (long) faces.size();
    }

    /** Forwards: writes each face over its span and on behind it, then the spans once more over all. */
    private long shown(int item, int articulator) {
        int[] row = new int[items.size()];
        java.util.Arrays.fill(row, -1);
        boolean[] spanned = new boolean[items.size()];
        for (int[] told : faces) {
            for (int i = told[1]; articulator(told[0]) == articulator && i <= told[2]; i++) {
                spanned[i] = true;
                row[i] = told[0];
            }
        }
        for (int[] told : faces) {
            int i = told[2] + 1;
            while (articulator(told[0]) == articulator && i < items.size() && !spanned[i]
                    && items.get(i)[0] >= 1 && items.get(i)[0] <= 3) {
                row[i++] = told[0];
            }
        }
        return row[item];
    }

    private Object rule(int kind) {
        if (!in(kind, 5)) {
            return BAD_ARGUMENT;
        }
        if (rules.size() == 6) {
            return BAD_STATE;
        }
        rules.add(kind);
        exceptions.add(new ArrayList<>());
        return rules.size() - 1L;
    }

    private Object except(int rule, int sign) {
        if (!in(rule, rules.size()) || !in(sign, signs.size())) {
            return NO_SUCH;
        }
        List<Integer> row = exceptions.get(rule);
        if (row.remove((Integer) sign)) {
            return 0L;
        }
        row.add(sign);
        return 1L;
    }

    /** Rows of shape, from, to, begin, end, second and base. */
    private int[][] hands() {
        int n = items.size();
        int[][] h = new int[n][];
        for (int i = 0; i < n; i++) {
            int[] it = items.get(i);
            if (it[0] == 5) {
                h[i] = new int[] {it[1] & 7, 4, 4, it[1] >> 3, it[1] >> 3, 0, 0};
            } else if (it[0] == 0 || it[0] == 4) {
                h[i] = signs.get(it[1]).clone();
                if (it[0] == 4) {
                    h[i][1] = LOCI[it[2]];
                    h[i][2] = LOCI[it[3]];
                }
            } else {
                h[i] = new int[] {1, LOCI[it[1]], LOCI[it[1]], 0, 0, 0, 0};
            }
        }
        for (int r = 0; r < rules.size(); r++) {
            for (int i = 0; i < n; i++) {
                int[] it = items.get(i);
                if ((it[0] == 0 || it[0] == 4) && exceptions.get(r).contains(it[1])) {
                    continue;
                }
                h[i] = changed(rules.get(r), i, it, i == 0 ? null : h[i - 1], h[i], i == n - 1 ? null : h[i + 1]);
            }
        }
        return h;
    }

    private int[] changed(int rule, int i, int[] item, int[] ahead, int[] now, int[] behind) {
        int[] next = now.clone();
        boolean isPointing = item[0] >= 1 && item[0] <= 3;
        if (rule == 0 && now[5] == 1 && (ahead == null || ahead[5] == 0) && (behind == null || behind[5] == 0)) {
            next[5] = 0;
        }
        if (rule == 1 && isPointing) {
            next[0] = behind != null ? behind[0] : ahead != null ? ahead[0] : now[0];
        }
        if (rule == 2 && ahead != null && (ahead[4] ^ now[3]) == 2) {
            next[3] = ahead[4];
        }
        if (rule == 3 && item[0] == 0 && ahead != null && apart(ahead[2], now[2]) < apart(ahead[2], now[1])) {
            next[1] = now[2];
            next[2] = now[1];
        }
        if (rule == 4 && i > 0 && item[0] == 5 && items.get(i - 1)[0] == 5 && items.get(i - 1)[1] == item[1]) {
            next[2] = 5;
        }
        return next;
    }

    /** Rows of shape, place, turn, second, item, and 1 in a passing. */
    private List<int[]> figure() {
        List<int[]> ticks = new ArrayList<>();
        int[][] h = hands();
        for (int i = 0; i < h.length; i++) {
            int[] x = h[i];
            if (i > 0 && !(h[i - 1][0] == x[0] && h[i - 1][2] == x[1] && h[i - 1][4] == x[3])) {
                for (int place : way(h[i - 1][2], x[1])) {
                    ticks.add(new int[] {x[0], place, x[3], 0, i, 1});
                }
            }
            boolean moves = x[1] != x[2] || x[3] != x[4];
            for (int k = 0; k < (moves ? 2 : 3); k++) {
                ticks.add(new int[] {x[0], x[1], x[3], x[5], i, 0});
            }
            if (moves) {
                for (int place : way(x[1], x[2])) {
                    ticks.add(new int[] {x[0], place, x[4], x[5], i, 0});
                }
                for (int k = 0; k < 2; k++) {
                    ticks.add(new int[] {x[0], x[2], x[4], x[5], i, 0});
                }
            }
        }
        return ticks;
    }

    private static List<Integer> way(int from, int to) {
        List<Integer> places = new ArrayList<>();
        int place = from;
        while (place != to) {
            if (place % 3 != to % 3) {
                place += place % 3 < to % 3 ? 1 : -1;
            } else {
                place += place < to ? 3 : -3;
            }
            places.add(place);
        }
        if (places.isEmpty()) {
            places.add(to);
        }
        return places;
    }

    private Object signed(int item, int what) {
        if (!in(item, items.size())) {
            return NO_SUCH;
        }
        if (!in(what, 9)) {
            return BAD_ARGUMENT;
        }
        if (what < 6) {
            return (long) hands()[item][what];
        }
        List<int[]> ticks = figure();
        for (int t = 0; t < ticks.size(); t++) {
            int[] tick = ticks.get(t);
            if (tick[4] == item && (what == 6 || what == 7 && tick[5] == 0)) {
                return (long) t;
            }
            if (what == 8 && tick[4] > item) {
                return (long) t;
            }
        }
        return (long) ticks.size();
    }

    private Object at(int tick, int what) {
        if (tick < 0) {
            return NO_SUCH;
        }
        if (!in(what, 8)) {
            return BAD_ARGUMENT;
        }
        List<int[]> ticks = figure();
        if (tick >= ticks.size()) {
            return -1L;
        }
        int[] row = ticks.get(tick);
        return what < 4 ? row[what] : what == 7 ? (long) row[4] : shown(row[4], what - 4);
    }

    private Object readBack(int item, int what) {
        if (!in(item, items.size())) {
            return NO_SUCH;
        }
        if (!in(what, 3)) {
            return BAD_ARGUMENT;
        }
        int[] h = hands()[item];
        int kind = items.get(item)[0];
        if (kind != 0 && kind != 4) {
            for (int locus = 0; locus < 4; locus++) {
                if (java.util.Arrays.equals(h, new int[] {1, LOCI[locus], LOCI[locus], 0, 0, 0, 0})) {
                    return new Object[] {2L, (long) locus, 0L}[what];
                }
            }
            for (int c = 0; c < 26; c++) {
                if (java.util.Arrays.equals(h, new int[] {c % 8, 4, 4, c / 8, c / 8, 0, 0})) {
                    return new Object[] {5L, (long) c, 0L}[what];
                }
            }
        }
        List<Integer> found = like(h);
        if (found.isEmpty()) {
            return what == 2 ? 0L : -1L;
        }
        return new Object[] {0L, (long) found.get(0), (long) found.size()}[what];
    }

    private boolean there(int clip) {
        return in(clip, clips.size()) && clips.get(clip)[4] == 0;
    }

    private Object take(int person) {
        if (!in(person, 6)) {
            return NO_SUCH;
        }
        if (clips.size() == 24) {
            return BAD_STATE;
        }
        clips.add(new int[] {1 << person, -1, -1, -1, 0});
        return clips.size() - 1L;
    }

    private Object make(int purpose, int clip, int other) {
        if (!there(clip) || other != -1 && !there(other)) {
            return NO_SUCH;
        }
        if (!in(purpose, 3)) {
            return BAD_ARGUMENT;
        }
        int from = clips.get(clip)[0] | (other == -1 ? 0 : clips.get(other)[0]);
        boolean isRefused = clips.size() == 24;
        for (int person = 0; person < 6; person++) {
            isRefused |= (from & 1 << person) != 0 && refused[person][purpose];
        }
        if (isRefused) {
            return BAD_STATE;
        }
        clips.add(new int[] {from, purpose, clip, other, 0});
        return clips.size() - 1L;
    }

    private Object allow(int person, int purpose, boolean isAllowed) {
        if (!in(person, 6)) {
            return NO_SUCH;
        }
        if (!in(purpose, 3)) {
            return BAD_ARGUMENT;
        }
        refused[person][purpose] = !isAllowed;
        return isAllowed ? (Object) 0L : (Object) remove(person, purpose);
    }

    /** Until nothing goes any more: what is meant, and what is made of what is gone. */
    private long remove(int person, int purpose) {
        long gone = 0;
        boolean isGoing = true;
        while (isGoing) {
            isGoing = false;
            for (int[] clip : clips) {
                boolean isMeant = (clip[0] & 1 << person) != 0 && (purpose == -1 || clip[1] == purpose);
                boolean ofGone = clip[2] != -1 && !there(clip[2]) || clip[3] != -1 && !there(clip[3]);
                if (clip[4] == 0 && (isMeant || ofGone)) {
                    clip[4] = 1;
                    gone++;
                    isGoing = true;
                }
            }
        }
        return gone;
    }

    private int[] tier(int clip, int coder, int tier) {
        int[] values = new int[200];
        java.util.Arrays.fill(values, -1);
        for (int[] mark : marks) {
            for (int t = mark[3]; mark[0] == clip && mark[1] == coder && mark[2] == tier && t < mark[4]; t++) {
                values[t] = mark[5];
            }
        }
        return values;
    }

    private Object mark(int[] a) {
        if (!there(a[0]) || !in(a[1], 3) || !in(a[2], 4)) {
            return NO_SUCH;
        }
        if (a[3] < 0 || a[4] > 200 || a[3] >= a[4] || !in(a[5], 10)) {
            return BAD_ARGUMENT;
        }
        long had = 0;
        for (int[] mark : marks) {
            had += mark[0] == a[0] && mark[1] == a[1] && mark[2] == a[2] ? 1 : 0;
        }
        boolean isBusy = had == 10;
        int[] values = tier(a[0], a[1], a[2]);
        for (int t = a[3]; t < a[4]; t++) {
            isBusy |= values[t] != -1;
        }
        if (isBusy) {
            return BAD_STATE;
        }
        marks.add(a.clone());
        return had + 1;
    }

    private Object agree(int[] a) {
        if (!there(a[0]) || !in(a[1], 3) || !in(a[2], 3) || !in(a[3], 4)) {
            return NO_SUCH;
        }
        if (!in(a[4], 3)) {
            return BAD_ARGUMENT;
        }
        int[] one = tier(a[0], a[1], a[3]);
        int[] other = tier(a[0], a[2], a[3]);
        long same = 0;
        long any = 0;
        for (int t = 0; t < 200; t++) {
            same += one[t] >= 0 && one[t] == other[t] ? 1 : 0;
            any += one[t] >= 0 || other[t] >= 0 ? 1 : 0;
        }
        long shared = 0;
        for (int[] mark : marks) {
            if (mark[0] == a[0] && mark[1] == a[1] && mark[2] == a[3]) {
                double by = 0;
                for (int t = mark[3]; t < mark[4]; t++) {
                    by += other[t] == mark[5] ? 1 : 0;
                }
                shared += by / (mark[4] - mark[3]) > 0.5 ? 1 : 0;
            }
        }
        return a[4] == 0 ? same : a[4] == 1 ? any : shared;
    }
}
