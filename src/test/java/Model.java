import java.math.BigInteger;
import java.util.ArrayList;
import java.util.List;

/**
 * The document's terms once more, worked out another way than the class does: rows are tried one by one,
 * deeds change little objects, nights go by one behind the other.
 */
final class Model {
    static final int COUGH = -1;

    static final class Duchy {
        final List<int[]> reeds = new ArrayList<>();
        final List<Integer> players = new ArrayList<>();
        final List<int[]> questions = new ArrayList<>();
        int cold;
        final int[] means = {0, 1, 0, 1, 0, 1, 0, 1};

        boolean has(int reed, int player, int question) {
            return hasReed(reed) && hasPlayer(player) && hasQuestion(question);
        }

        boolean hasReed(int r) {
            return 0 <= r && r < reeds.size();
        }

        boolean hasPlayer(int p) {
            return 0 <= p && p < players.size();
        }

        boolean hasQuestion(int q) {
            return 0 <= q && q < questions.size();
        }

        int note(int wet, int key, int cold, int player, int question) {
            int[] asked = questions.get(question);
            int breath = players.get(player);
            if (asked[0] > wet + breath) {
                return COUGH;
            }
            return Math.floorMod(wet + wet + wet + breath + key + 5 * asked[1] + asked[0] + 16 - cold, 8);
        }

        int note(int reed, int player, int question) {
            return note(reeds.get(reed)[0], reeds.get(reed)[1], cold, player, question);
        }

        int answer(int note) {
            return note == COUGH ? -1 : means[note];
        }

        int answer(int reed, int player, int question) {
            return answer(note(reed, player, question));
        }
    }

    static final class State {
        final Duchy home;
        final int[] wet = new int[6];
        final int[] key = new int[6];
        final boolean[] cracked = new boolean[6];
        final int[] played = new int[4];
        final int[] allPlayed = new int[4];
        final int[] asked = new int[8];
        final Integer[] last = new Integer[8];
        int nights;
        int deaths;
        int marches;
        int clashes;
        int coughs;
        int cold;
        int lastNote = COUGH;
        int firstCrack = -1;
        int done;

        State(Duchy home) {
            this.home = home;
            cold = home.cold;
            for (int r = 0; r < home.reeds.size(); r++) {
                wet[r] = home.reeds.get(r)[0];
                key[r] = home.reeds.get(r)[1];
            }
        }

        boolean reed(int r) {
            return home.hasReed(r) && !cracked[r];
        }

        boolean player(int p) {
            return home.hasPlayer(p) && played[p] <= 2;
        }

        boolean act(int[] deed) {
            boolean can = actIf(deed);
            if (can) {
                done++;
            }
            return can;
        }

        private boolean actIf(int[] d) {
            if (d[0] == 0) {
                if (!reed(d[1]) || !player(d[2]) || !home.hasQuestion(d[3])) {
                    return false;
                }
                int note = sound(d[1], d[2], d[3]);
                lastNote = note;
                coughs += note == COUGH ? 1 : 0;
                deaths += note == 0 ? 1 : 0;
                int answer = home.answer(note);
                asked[d[3]]++;
                if (answer == 0 || answer == 1) {
                    Integer before = last[d[3]];
                    if (before != null && before != answer) {
                        cracked[d[1]] = true;
                        firstCrack = firstCrack < 0 ? done : firstCrack;
                    }
                    last[d[3]] = answer;
                }
                return true;
            }
            if (d[0] == 1) {
                boolean can = reed(d[1]) && reed(d[2]) && player(d[3]) && player(d[4]) && home.hasQuestion(d[5]);
                if (can) {
                    int a = home.answer(sound(d[1], d[3], d[5]));
                    int b = home.answer(sound(d[2], d[4], d[5]));
                    asked[d[5]]++;
                    marches += a >= 0 && a == b ? 1 : 0;
                    clashes += a >= 0 && b >= 0 && a + b == 1 ? 1 : 0;
                }
                return can;
            }
            if (d[0] == 2 || d[0] == 3) {
                if (!reed(d[1])) {
                    return false;
                }
                if (d[0] == 2) {
                    wet[d[1]] = wet[d[1]] > 6 ? 9 : wet[d[1]] + 3;
                } else {
                    key[d[1]] = key[d[1]] == 7 ? 0 : key[d[1]] + 1;
                }
                return true;
            }
            if (d[0] == 4) {
                cold = d[1];
                return true;
            }
            nights++;
            for (int r = 0; r < 6; r++) {
                wet[r] = wet[r] == 0 ? 0 : wet[r] - 1;
            }
            for (int p = 0; p < 4; p++) {
                played[p] = 0;
            }
            return true;
        }

        private int sound(int r, int p, int q) {
            int note = home.note(wet[r], key[r], cold, p, q);
            wet[r] = wet[r] == 0 ? 0 : wet[r] - 1;
            played[p]++;
            allPlayed[p]++;
            return note;
        }

        int what(int what) {
            int bits = 0;
            for (int r = 0; r < 6; r++) {
                bits += cracked[r] ? 1 << r : 0;
            }
            int[] heads = {nights, bits, deaths, marches, clashes, coughs, cold, lastNote};
            if (what >= 0 && what < heads.length) {
                return heads[what];
            }
            if (home.hasReed(what - 10)) {
                return wet[what - 10];
            }
            if (home.hasReed(what - 20)) {
                return key[what - 20];
            }
            if (home.hasPlayer(what - 30)) {
                return played[what - 30];
            }
            if (home.hasQuestion(what - 40)) {
                return last[what - 40] == null ? -1 : last[what - 40];
            }
            return -2;
        }
    }

    static State run(Duchy home, List<int[]> year, int most) {
        State state = new State(home);
        for (int i = 0; i < most && i < year.size(); i++) {
            if (!state.act(year.get(i))) {
                break;
            }
        }
        return state;
    }

    static State draw(Duchy home, int seed, int n) {
        State state = new State(home);
        long[] x = {seed & 0xffffffffL};
        for (int i = 0; i < n; i++) {
            int kind = number(x, 8);
            int reeds = home.reeds.size();
            if (kind == 7) {
                state.act(new int[] {5});
            } else if (kind == 6) {
                state.act(new int[] {4, number(x, 10)});
            } else if (kind >= 4) {
                if (reeds > 0) {
                    state.act(new int[] {kind == 4 ? 2 : 3, number(x, reeds)});
                }
            } else if (reeds > 0 && !home.players.isEmpty() && !home.questions.isEmpty()) {
                int r = number(x, reeds);
                int p = number(x, home.players.size());
                int q = number(x, home.questions.size());
                state.act(new int[] {0, r, p, q});
            }
        }
        return state;
    }

    private static int number(long[] x, int n) {
        x[0] = (x[0] * 1103515245L + 12345L) & 0xffffffffL;
        return (int) ((x[0] >> 16) % n);
    }

    /** The acts, or null if it never answers so. */
    static List<Integer> ready(Duchy d, int r, int p, int q, int answer) {
        boolean ever = false;
        for (int s = 0; s < 800; s++) {
            ever |= d.answer(d.note(s / 80, s / 10 % 8, s % 10, p, q)) == answer;
        }
        if (!ever) {
            return null;
        }
        for (int length = 0;; length++) {
            List<Integer> row = new ArrayList<>();
            if (extend(d, new int[] {d.reeds.get(r)[0], d.reeds.get(r)[1], d.cold, p, q, answer}, length, row)) {
                return row;
            }
        }
    }

    private static boolean extend(Duchy d, int[] s, int length, List<Integer> row) {
        if (length == 0) {
            return d.answer(d.note(s[0], s[1], s[2], s[3], s[4])) == s[5];
        }
        for (int act = 0; act < 5; act++) {
            int[] t = s.clone();
            if (act == 0) {
                t[0] = Math.min(9, t[0] + 3);
            } else if (act == 1) {
                t[1] = (t[1] + 1) % 8;
            } else if (act == 2) {
                t[0] = Math.max(0, t[0] - 1);
            } else if (act == 3) {
                t[2] = Math.max(0, t[2] - 1);
            } else {
                t[2] = Math.min(9, t[2] + 1);
            }
            row.add(act);
            if (extend(d, t, length - 1, row)) {
                return true;
            }
            row.remove(row.size() - 1);
        }
        return false;
    }

    /** The row of reeds by questions; behind it how many answer so. */
    static int[] favour(Duchy d, int player, int answer) {
        int n = d.questions.size();
        int[] best = new int[n + 1];
        best[n] = -1;
        tryRows(d, player, answer, new int[n], 0, best);
        return best;
    }

    private static void tryRows(Duchy d, int player, int answer, int[] row, int q, int[] best) {
        if (q == row.length) {
            int hits = 0;
            for (int i = 0; i < q; i++) {
                hits += row[i] < 6 && d.answer(row[i], player, i) == answer ? 1 : 0;
            }
            if (hits > best[q]) {
                System.arraycopy(row, 0, best, 0, q);
                best[q] = hits;
            }
            return;
        }
        for (int r = 0; r <= 6; r++) {
            boolean free = r == 6 || d.hasReed(r);
            for (int i = 0; i < q && r < 6; i++) {
                free &= row[i] != r;
            }
            if (free) {
                row[q] = r;
                tryRows(d, player, answer, row, q + 1, best);
            }
        }
    }

    private static boolean bad(Duchy d, int r, int p, int q, int before) {
        int note = d.note(Math.max(0, d.reeds.get(r)[0] - before), d.reeds.get(r)[1], d.cold, p, q);
        return note == COUGH || note == 0;
    }

    /** DARE, and what he asks first. */
    static int[] dare(Duchy d, int r, int p) {
        int[] result = dareFrom(d, r, p, new boolean[d.questions.size()], 0);
        return result;
    }

    private static int[] dareFrom(Duchy d, int r, int p, boolean[] asked, int before) {
        int best = -1;
        int first = -1;
        int[] rank = {0, 2, 1};
        for (int q = 0; q < asked.length; q++) {
            if (asked[q]) {
                continue;
            }
            int mine = 0;
            if (!bad(d, r, p, q, before)) {
                asked[q] = true;
                int his = dareFrom(d, r, p, asked, before + 1)[0];
                asked[q] = false;
                mine = his == 2 ? 2 : 1 - his;
            }
            if (first < 0 || rank[mine] > rank[best]) {
                best = mine;
                first = q;
            }
        }
        return first < 0 ? new int[] {2, -1} : new int[] {best, first};
    }

    static List<Integer> program(Duchy d, int r, int p) {
        List<Integer> best = new ArrayList<>();
        programFrom(d, r, p, new ArrayList<>(), best);
        return best;
    }

    private static void programFrom(Duchy d, int r, int p, List<Integer> row, List<Integer> best) {
        if (row.size() > best.size()) {
            best.clear();
            best.addAll(row);
        }
        for (int q = 0; q < d.questions.size(); q++) {
            if (!row.contains(q) && !bad(d, r, p, q, row.size())) {
                row.add(q);
                programFrom(d, r, p, row, best);
                row.remove(row.size() - 1);
            }
        }
    }

    /** The first set, by numbers, of those of the best size; -1 without. */
    static int choir(Duchy d, int p) {
        for (int size = 0; size <= d.reeds.size(); size++) {
            for (int set = 0; set < 1 << d.reeds.size(); set++) {
                boolean all = Integer.bitCount(set) == size;
                for (int q = 0; q < d.questions.size() && all; q++) {
                    boolean one = false;
                    for (int r = 0; r < d.reeds.size(); r++) {
                        one |= (set & 1 << r) != 0 && d.note(r, p, q) != COUGH;
                    }
                    all = one;
                }
                if (all) {
                    return set;
                }
            }
        }
        return -1;
    }

    static int peace(Duchy d, int p) {
        for (int size = d.reeds.size();; size--) {
            for (int set = 0; set < 1 << d.reeds.size(); set++) {
                boolean calm = Integer.bitCount(set) == size;
                for (int q = 0; q < d.questions.size() && calm; q++) {
                    boolean[] said = new boolean[3];
                    for (int r = 0; r < d.reeds.size(); r++) {
                        if ((set & 1 << r) != 0 && d.answer(r, p, q) >= 0) {
                            said[d.answer(r, p, q)] = true;
                        }
                    }
                    calm = !(said[0] && said[1]);
                }
                if (calm) {
                    return set;
                }
            }
        }
    }

    static int marched(Duchy d, int q) {
        int marches = 0;
        for (int a = 0; a < d.reeds.size(); a++) {
            for (int b = a + 1; b < d.reeds.size(); b++) {
                for (int p = 0; p < d.players.size(); p++) {
                    for (int o = 0; o < d.players.size(); o++) {
                        boolean both = d.note(a, p, q) != COUGH && d.note(b, o, q) != COUGH;
                        marches += o != p && both && d.answer(a, p, q) == d.answer(b, o, q) ? 1 : 0;
                    }
                }
            }
        }
        return marches;
    }

    static int chords(Duchy d, int p, int q) {
        int chords = 0;
        int n = d.reeds.size();
        for (int a = 0; a < n; a++) {
            for (int b = a + 1; b < n; b++) {
                for (int c = b + 1; c < n; c++) {
                    int[] notes = {d.note(a, p, q), d.note(b, p, q), d.note(c, p, q)};
                    chords += isChord(notes) ? 1 : 0;
                }
            }
        }
        return chords;
    }

    private static boolean isChord(int[] notes) {
        int[][] orders = {{0, 1, 2}, {0, 2, 1}, {1, 0, 2}, {1, 2, 0}, {2, 0, 1}, {2, 1, 0}};
        for (int[] o : orders) {
            int low = notes[o[0]];
            if (low >= 0 && notes[o[1]] == (low + 2) % 8 && notes[o[2]] == (low + 4) % 8) {
                return true;
            }
        }
        return false;
    }

    /** Which reed each player has, asking round by round. */
    static int[] has(Duchy d) {
        int n = d.players.size();
        int[] has = new int[n];
        boolean[][] asked = new boolean[n][d.reeds.size()];
        java.util.Arrays.fill(has, -1);
        boolean moved = true;
        while (moved) {
            moved = false;
            for (int p = 0; p < n; p++) {
                if (has[p] >= 0) {
                    continue;
                }
                int wish = wish(d, p, asked[p]);
                if (wish < 0) {
                    continue;
                }
                moved = true;
                asked[p][wish] = true;
                int rival = -1;
                for (int o = 0; o < n; o++) {
                    rival = has[o] == wish ? o : rival;
                }
                boolean wins = rival < 0 || d.players.get(p) > d.players.get(rival)
                    || d.players.get(p).equals(d.players.get(rival)) && p < rival;
                if (wins) {
                    has[p] = wish;
                    if (rival >= 0) {
                        has[rival] = -1;
                    }
                }
            }
        }
        return has;
    }

    private static int wish(Duchy d, int p, boolean[] asked) {
        int wish = -1;
        int most = -1;
        for (int r = 0; r < asked.length; r++) {
            int heard = 0;
            for (int q = 0; q < d.questions.size(); q++) {
                heard += d.note(r, p, q) != COUGH ? 1 : 0;
            }
            if (!asked[r] && heard > most) {
                most = heard;
                wish = r;
            }
        }
        return wish;
    }

    static boolean knows(Duchy d, List<int[]> log) {
        for (int[] fact : log) {
            if (!d.hasPlayer(fact[0]) || !d.hasQuestion(fact[1])) {
                return false;
            }
        }
        return true;
    }

    static boolean fits(Duchy d, List<int[]> log, int wet, int key) {
        int now = wet;
        for (int[] fact : log) {
            if (d.note(now, key, d.cold, fact[0], fact[1]) != fact[2]) {
                return false;
            }
            now = now > 0 ? now - 1 : 0;
        }
        return true;
    }

    static List<Integer> fitting(Duchy d, List<int[]> log) {
        List<Integer> all = new ArrayList<>();
        for (int wet = 0; wet < 10; wet++) {
            for (int key = 0; key < 8; key++) {
                if (fits(d, log, wet, key)) {
                    all.add(8 * wet + key);
                }
            }
        }
        return all;
    }

    static int noteNext(Duchy d, List<int[]> log, int suspect, int p, int q) {
        return d.note(Math.max(0, suspect / 8 - log.size()), suspect % 8, d.cold, p, q);
    }

    static int next(Duchy d, List<int[]> log) {
        int best = -1;
        int least = Integer.MAX_VALUE;
        List<Integer> all = fitting(d, log);
        for (int p = 0; p < d.players.size(); p++) {
            for (int q = 0; q < d.questions.size(); q++) {
                int greatest = 0;
                for (int note = -1; note < 8; note++) {
                    int same = 0;
                    for (int suspect : all) {
                        same += noteNext(d, log, suspect, p, q) == note ? 1 : 0;
                    }
                    greatest = Math.max(greatest, same);
                }
                if (greatest < least) {
                    least = greatest;
                    best = 10 * p + q;
                }
            }
        }
        return all.isEmpty() ? -1 : best;
    }

    /** Numerator and denominator, night by night. */
    static BigInteger[] left(int n, int k, int y, int p) {
        BigInteger[] sound = new BigInteger[n + 1];
        java.util.Arrays.fill(sound, BigInteger.ZERO);
        sound[n] = BigInteger.ONE;
        for (int night = 0; night < y; night++) {
            sound = night(sound, n, p);
        }
        BigInteger hits = BigInteger.ZERO;
        for (int j = k; j <= n; j++) {
            hits = hits.add(sound[j]);
        }
        BigInteger all = BigInteger.TEN.pow(n * y);
        BigInteger divisor = hits.gcd(all);
        return new BigInteger[] {hits.divide(divisor), all.divide(divisor)};
    }

    /** Each of n counts ten to the n-th more behind a night, so that all cases keep one denominator. */
    private static BigInteger[] night(BigInteger[] before, int n, int p) {
        BigInteger[] behind = new BigInteger[n + 1];
        java.util.Arrays.fill(behind, BigInteger.ZERO);
        for (int had = 0; had <= n; had++) {
            for (int set = 0; set < 1 << had; set++) {
                int cracked = Integer.bitCount(set);
                BigInteger ways = BigInteger.valueOf(p).pow(cracked)
                    .multiply(BigInteger.valueOf(10 - p).pow(had - cracked))
                    .multiply(BigInteger.TEN.pow(n - had));
                behind[had - cracked] = behind[had - cracked].add(before[had].multiply(ways));
            }
        }
        return behind;
    }
}
