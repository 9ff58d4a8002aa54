import java.math.BigInteger;
import java.util.ArrayList;
import java.util.List;
import java.util.Random;

/** Compares the class with Model on drawn duchies, years and logs: promises 6 to 38. */
public final class ModelTest {
    private static final int ROUNDS = 400;
    private final Bench bench = new Bench();
    private final Random random;
    private ReedOracles x;
    private Model.Duchy d;
    private List<int[]> year;
    private List<int[]> log;
    /** The texts of the round before. */
    private final String[] worn = {"", "", ""};

    private ModelTest(long seed) {
        random = new Random(seed);
    }

    public static void main(String[] args) {
        ModelTest test = new ModelTest(20261118L);
        for (int round = 0; round < ROUNDS; round++) {
            test.round();
        }
        test.lefts();
        test.bench.finish();
    }

    private void round() {
        x = new ReedOracles();
        d = drawDuchy();
        year = drawYear();
        log = drawLog();
        bench.due("text(0)", Bench.tell(x, 0, -1, write(d)), 0);
        bench.due("text(1)", Bench.tell(x, 1, -1, writeYear()), 0);
        bench.due("text(2)", Bench.tell(x, 2, -1, writeLog()), 0);
        duchies();
        years();
        logs();
        // An object is good for 512 calls: the others go to new ones.
        renew();
        singles();
        reeds();
        renew();
        players();
        renew();
        questions();
        for (int i = 0; i < 3; i++) {
            renew();
            triples();
        }
        renew();
        wholes();
        worn[0] = write(d);
        worn[1] = writeYear();
        worn[2] = writeLog();
    }

    /** The texts come in the place of others that were asked of, so that nothing of these may be left. */
    private void renew() {
        x = new ReedOracles();
        for (int sort = 0; sort < 3; sort++) {
            Bench.tell(x, sort, -1, worn[sort]);
        }
        wear();
        Bench.tell(x, 0, 0, write(d));
        Bench.tell(x, 1, 0, writeYear());
        Bench.tell(x, 2, 0, writeLog());
    }

    private void wear() {
        x.after(0, 0, 1);
        x.fits(0, 0, 4);
        x.favour(0, 0, 1, -1);
        x.program(0, 0, 0, -1);
        x.ready(0, 0, 0, 0, 1, -1);
        x.choir(0, 0, true);
        x.chords(0, 0, 0);
        x.owns(0, 0, false);
    }

    private int below(int n) {
        return random.nextInt(n);
    }

    /** Mostly near the places that count, now and then far away. */
    private int near(int most) {
        return below(40) == 0 ? (below(2) == 0 ? Integer.MIN_VALUE : Integer.MAX_VALUE) : below(most + 2) - 1;
    }

    private Model.Duchy drawDuchy() {
        Model.Duchy duchy = new Model.Duchy();
        int deep = below(3) == 0 ? 15 : 9;
        int reeds = below(8) == 0 ? 0 : 1 + below(6);
        for (int i = 0; i < reeds; i++) {
            boolean twin = i > 0 && below(4) == 0;
            duchy.reeds.add(twin ? duchy.reeds.get(below(i)) : new int[] {below(10), below(8)});
        }
        int players = below(8) == 0 ? 0 : 1 + below(4);
        for (int i = 0; i < players; i++) {
            duchy.players.add(1 + below(9));
        }
        int questions = below(8) == 0 ? 0 : 1 + below(below(4) == 0 ? 8 : 6);
        for (int i = 0; i < questions; i++) {
            duchy.questions.add(new int[] {1 + below(deep), below(4)});
        }
        duchy.cold = below(2) == 0 ? 0 : below(10);
        for (int i = below(9); i > 0; i--) {
            duchy.means[below(8)] = below(3);
        }
        return duchy;
    }

    private String blank() {
        return below(6) == 0 ? "\n" : " ";
    }

    private String close() {
        return (below(4) == 0 ? blank() : "") + ";" + (below(6) == 0 ? blank() : "");
    }

    private String number(int n) {
        return blank() + (n < 10 && below(5) == 0 ? "0" : "") + n;
    }

    private String write(Model.Duchy duchy) {
        List<List<String>> rows = new ArrayList<>();
        for (int i = 0; i < 4; i++) {
            rows.add(new ArrayList<>());
        }
        for (int[] reed : duchy.reeds) {
            rows.get(0).add("reed" + number(reed[0]) + number(reed[1]) + close());
        }
        for (int breath : duchy.players) {
            rows.get(1).add("player" + number(breath) + close());
        }
        for (int[] question : duchy.questions) {
            rows.get(2).add("question" + number(question[0]) + number(question[1]) + close());
        }
        if (duchy.cold != 0 || below(2) == 0) {
            rows.get(3).add("cold 9;");
            rows.get(3).add("cold" + number(duchy.cold) + close());
        }
        for (int n = 0; n < 8; n++) {
            if (duchy.means[n] != n % 2) {
                rows.get(3).add("means" + number(n) + blank() + new String[] {"no", "yes", "wait"}[duchy.means[n]] + close());
            }
        }
        StringBuilder text = new StringBuilder();
        while (!rows.isEmpty()) {
            int pick = below(rows.size());
            if (rows.get(pick).isEmpty()) {
                rows.remove(pick);
            } else {
                text.append(rows.get(pick).remove(0));
            }
        }
        return text.toString();
    }

    private List<int[]> drawYear() {
        List<int[]> deeds = new ArrayList<>();
        int wide = below(5) == 0 ? 1 : 0;
        int r = wide == 1 ? 6 : Math.max(1, d.reeds.size());
        int p = wide == 1 ? 4 : Math.max(1, d.players.size());
        int q = wide == 1 ? 8 : Math.max(1, below(3) == 0 ? d.questions.size() : Math.min(2, d.questions.size()));
        int many = below(31);
        for (int i = 0; i < many; i++) {
            int kind = below(10);
            if (kind < 5) {
                deeds.add(new int[] {0, below(r), below(p), below(q)});
            } else if (kind == 5 && r > 1 && p > 1) {
                int a = below(r);
                int o = below(p);
                deeds.add(new int[] {1, a, (a + 1 + below(r - 1)) % r, o, (o + 1 + below(p - 1)) % p, below(q)});
            } else if (kind == 6) {
                deeds.add(new int[] {2, below(r)});
            } else if (kind == 7) {
                deeds.add(new int[] {3, below(r)});
            } else if (kind == 8) {
                deeds.add(new int[] {4, below(10)});
            } else {
                deeds.add(new int[] {5});
            }
        }
        return deeds;
    }

    private String writeYear() {
        StringBuilder text = new StringBuilder();
        for (int[] deed : year) {
            text.append(new String[] {"ask", "duet", "wet", "cut", "cold", "night"}[deed[0]]);
            for (int i = 1; i < deed.length; i++) {
                text.append(number(deed[i]));
            }
            text.append(close());
        }
        return text.toString();
    }

    private List<int[]> drawLog() {
        List<int[]> facts = new ArrayList<>();
        int many = below(3) == 0 ? below(9) : below(4);
        boolean wild = below(4) == 0 || d.players.isEmpty() || d.questions.isEmpty();
        int wet = below(10);
        int key = below(8);
        if (!d.reeds.isEmpty() && below(2) == 0) {
            wet = d.reeds.get(0)[0];
            key = d.reeds.get(0)[1];
        }
        for (int i = 0; i < many; i++) {
            if (wild) {
                facts.add(new int[] {below(4), below(8), below(9) - 1});
            } else {
                int p = below(d.players.size());
                int q = below(d.questions.size());
                facts.add(new int[] {p, q, d.note(Math.max(0, wet - i), key, d.cold, p, q)});
            }
        }
        return facts;
    }

    private String writeLog() {
        StringBuilder text = new StringBuilder();
        for (int[] fact : log) {
            text.append(fact[2] < 0 ? "cough" : "heard").append(number(fact[0])).append(number(fact[1]));
            text.append(fact[2] < 0 ? "" : number(fact[2])).append(close());
        }
        return text.toString();
    }

    private void duchies() {
        for (int what = -2; what < 72; what++) {
            int want = -1;
            int i = Math.floorMod(what, 10);
            if (what >= 0 && what <= 3) {
                want = new int[] {d.reeds.size(), d.players.size(), d.questions.size(), d.cold}[what];
            } else if (what / 10 == 1 || what / 10 == 2) {
                want = d.hasReed(i) ? d.reeds.get(i)[what / 10 - 1] : -1;
            } else if (what / 10 == 3) {
                want = d.hasPlayer(i) ? d.players.get(i) : -1;
            } else if (what / 10 == 4 || what / 10 == 5) {
                want = d.hasQuestion(i) ? d.questions.get(i)[what / 10 - 4] : -1;
            } else if (what / 10 == 6) {
                want = i < 8 ? d.means[i] : -1;
            }
            bench.due("duchy " + what, x.duchy(0, what), want);
        }
        for (int sort = 0; sort < 3; sort++) {
            bench.due("count", x.count(sort), 1);
        }
    }

    private void years() {
        bench.due("deed", x.deed(0, -1, 0), year.size());
        for (int i = 0; i < 20; i++) {
            int k = near(year.size());
            int what = near(6);
            int want = -2;
            if (k == -1 && what == 0) {
                want = year.size();
            } else if (k >= 0 && k < year.size() && what >= 0 && what < 6) {
                want = what < year.get(k).length ? year.get(k)[what] : -1;
            }
            bench.due("deed " + k + " " + what, x.deed(0, k, what), want);
        }
        Model.State all = Model.run(d, year, year.size());
        bench.due("stop", x.stop(0, 0), all.done);
        for (int i = 0; i < 150; i++) {
            int n = i < 60 ? all.done : near(year.size());
            int what = i < 60 ? i - 2 : below(52) - 2;
            boolean is = n >= 0 && n <= all.done;
            int want = is ? Model.run(d, year, n).what(what) : -2;
            bench.due("state " + n + " " + what, x.state(0, 0, n, what), want);
        }
        bench.due("liar", x.after(0, 0, 0), all.firstCrack);
        bench.due("famous", x.after(0, 0, 1), firstMost(all.asked));
        bench.due("hoarse", x.after(0, 0, 2), firstMost(all.allPlayed));
        int driest = -1;
        for (int r = d.reeds.size() - 1; r >= 0; r--) {
            driest = driest < 0 || all.wet[r] <= all.wet[driest] ? r : driest;
        }
        bench.due("driest", x.after(0, 0, 3), driest);
        for (int i = 0; i < 60; i++) {
            int n = near(61);
            int seed = random.nextInt();
            int what = below(52) - 2;
            int want = n >= 0 && n <= 60 ? Model.draw(d, seed, n).what(what) : -2;
            bench.due("drawn " + seed + " " + n + " " + what, x.drawn(0, seed, n, what), want);
        }
    }

    private static int firstMost(int[] counts) {
        int best = -1;
        for (int i = counts.length - 1; i >= 0; i--) {
            best = counts[i] > 0 && (best < 0 || counts[i] >= counts[best]) ? i : best;
        }
        return best;
    }

    private void logs() {
        for (int i = 0; i < 20; i++) {
            int k = near(log.size());
            int what = near(3);
            int want = -2;
            if (k == -1 && what == 0) {
                want = log.size();
            } else if (k >= 0 && k < log.size() && what >= 0 && what < 3) {
                want = log.get(k)[what];
            }
            bench.due("fact " + k + " " + what, x.fact(0, k, what), want);
        }
        boolean knows = Model.knows(d, log);
        List<Integer> all = knows ? Model.fitting(d, log) : new ArrayList<>();
        int wet = all.isEmpty() ? -1 : all.get(0) / 8;
        int key = all.isEmpty() ? -1 : all.get(0) % 8;
        for (int suspect : all) {
            wet = suspect / 8 == wet ? wet : -1;
            key = suspect % 8 == key ? key : -1;
        }
        bench.due("fits", x.fits(0, 0, 0), knows ? all.size() : -2);
        bench.due("sure wet", x.fits(0, 0, 1), knows ? wet : -2);
        bench.due("sure key", x.fits(0, 0, 2), knows ? key : -2);
        int whose = 0;
        for (int r = 0; r < d.reeds.size(); r++) {
            whose |= all.contains(8 * d.reeds.get(r)[0] + d.reeds.get(r)[1]) ? 1 << r : 0;
        }
        bench.due("whose", x.fits(0, 0, 3), knows ? whose : -2);
        bench.due("next", x.fits(0, 0, 4), knows ? Model.next(d, log) : -2);
        for (int k = -5; k < 82; k += 1 + below(6)) {
            bench.due("fits " + (10 + k), x.fits(0, 0, 10 + k), k >= 0 && k < all.size() ? all.get(k) : -2);
        }
        for (int i = 0; i < 20; i++) {
            int p = near(d.players.size());
            int q = near(d.questions.size());
            int answer = near(3);
            long over = -1;
            long under = -1;
            boolean good = knows && !all.isEmpty() && d.hasPlayer(p) && d.hasQuestion(q) && answer >= 0 && answer < 3;
            if (good) {
                over = all.stream().filter(s -> d.answer(Model.noteNext(d, log, s, p, q)) == answer).count();
                long divisor = BigInteger.valueOf(over).gcd(BigInteger.valueOf(all.size())).longValue();
                over /= divisor;
                under = all.size() / divisor;
            }
            bench.due("odds over", x.odds(0, 0, p, q, answer, false), over);
            bench.due("odds under", x.odds(0, 0, p, q, answer, true), under);
        }
    }

    private void singles() {
        int n = d.reeds.size();
        for (int a = -1; a <= n; a++) {
            for (int b = -1; b <= n; b++) {
                int same = d.hasReed(a) && d.hasReed(b) ? 0 : -1;
                for (int p = 0; same >= 0 && p < d.players.size(); p++) {
                    for (int q = 0; q < d.questions.size(); q++) {
                        same += d.answer(a, p, q) == d.answer(b, p, q) ? 1 : 0;
                    }
                }
                bench.due("alike", x.alike(0, a, b), same);
            }
        }
        int lows = 0;
        int twins = 0;
        for (int r = 0; r < n; r++) {
            for (int p = 0; p < d.players.size(); p++) {
                for (int q = 0; q < d.questions.size(); q++) {
                    lows += d.note(r, p, q) == 0 ? 1 : 0;
                }
            }
            for (int o = r + 1; o < n; o++) {
                boolean twin = true;
                for (int p = 0; p < d.players.size(); p++) {
                    for (int q = 0; q < d.questions.size(); q++) {
                        twin &= d.note(r, p, q) == d.note(o, p, q);
                    }
                }
                twins += twin ? 1 : 0;
            }
        }
        bench.due("lows", x.lows(0), lows);
        bench.due("twins", x.twins(0, 0), twins);
        int cuts = Integer.MAX_VALUE;
        int key = -1;
        for (int k = 0; k < 8; k++) {
            int sum = 0;
            for (int[] reed : d.reeds) {
                for (int at = reed[1]; at != k; at = (at + 1) % 8) {
                    sum++;
                }
            }
            key = sum < cuts ? k : key;
            cuts = Math.min(cuts, sum);
        }
        bench.due("tune", x.twins(0, 1), cuts);
        bench.due("tune's key", x.twins(0, 2), key);
    }

    private void reeds() {
        for (int r = -1; r <= d.reeds.size(); r++) {
            renew();
            int wets = -1;
            for (int times = 3; d.hasReed(r) && times >= 0; times--) {
                boolean good = true;
                for (int p = 0; p < d.players.size(); p++) {
                    for (int q = 0; q < d.questions.size(); q++) {
                        good &= d.note(Math.min(9, d.reeds.get(r)[0] + 3 * times), 0, 0, p, q) != Model.COUGH;
                    }
                }
                wets = good ? times : wets;
            }
            bench.due("wets", x.wets(0, r), wets);
            for (int p = -1; p <= d.players.size(); p++) {
                boolean good = d.hasReed(r) && d.hasPlayer(p);
                couple(r, p, good);
            }
        }
    }

    private void couple(int r, int p, boolean good) {
        int deepest = -1;
        for (int depth = 15; good && deepest < 0 && depth > 0; depth--) {
            for (int q = d.questions.size() - 1; q >= 0; q--) {
                boolean is = d.questions.get(q)[0] == depth && d.note(r, p, q) != Model.COUGH;
                deepest = is ? q : deepest;
            }
        }
        bench.due("deepest", x.deepest(0, r, p), deepest);
        for (int answer = -1; answer <= 3; answer++) {
            int edit = good && answer >= 0 && answer < 3 ? 0 : -1;
            for (int note = 0; edit >= 0 && note < 8; note++) {
                boolean heard = false;
                for (int q = 0; q < d.questions.size(); q++) {
                    heard |= d.note(r, p, q) == note;
                }
                edit += heard && d.means[note] != answer ? 1 : 0;
            }
            bench.due("edit", x.edit(0, r, p, answer), edit);
        }
        if (below(6) == 0 || !good || d.questions.size() < 5) {
            int[] dare = good ? Model.dare(d, r, p) : new int[] {-2, -2};
            bench.due("dare", x.dare(0, r, p, false), dare[0]);
            bench.due("dare first", x.dare(0, r, p, true), dare[1]);
            List<Integer> program = good ? Model.program(d, r, p) : new ArrayList<>();
            bench.due("program", x.program(0, r, p, -1), good ? program.size() : -1);
            int k = near(program.size());
            if (k != -1) {
                bench.due("program " + k, x.program(0, r, p, k), k >= 0 && k < program.size() ? program.get(k) : -1);
            }
            for (k = 0; k < program.size(); k++) {
                bench.due("program " + k, x.program(0, r, p, k), program.get(k));
            }
        }
    }

    private void players() {
        for (int p = -1; p <= d.players.size(); p++) {
            boolean good = d.hasPlayer(p);
            int choir = good ? Model.choir(d, p) : -1;
            int peace = good ? Model.peace(d, p) : -1;
            bench.due("choir who", x.choir(0, p, true), choir);
            bench.due("choir", x.choir(0, p, false), choir < 0 ? -1 : Integer.bitCount(choir));
            bench.due("peace who", x.peace(0, p, true), peace);
            bench.due("peace", x.peace(0, p, false), peace < 0 ? -1 : Integer.bitCount(peace));
            for (int q = -1; q <= d.questions.size(); q++) {
                int chords = good && d.hasQuestion(q) ? Model.chords(d, p, q) : -1;
                bench.due("chords", x.chords(0, p, q), chords);
            }
            int answer = near(3);
            boolean can = good && answer >= 0 && answer < 3;
            int[] favour = can ? Model.favour(d, p, answer) : new int[] {-1};
            int n = d.questions.size();
            bench.due("favour", x.favour(0, p, answer, -1), can ? favour[n] : -1);
            for (int k = 0; k < n; k++) {
                bench.due("favour " + k, x.favour(0, p, answer, k), can ? favour[k] : -1);
            }
            bench.due("favour of none", x.favour(0, p, answer, n), -1);
            bench.due("favour of -2", x.favour(0, p, answer, -2), -1);
        }
        int[] has = Model.has(d);
        for (int p = -1; p <= d.players.size(); p++) {
            bench.due("owns", x.owns(0, p, false), d.hasPlayer(p) ? has[p] : -2);
        }
        for (int r = -1; r <= d.reeds.size(); r++) {
            int owner = d.hasReed(r) ? -1 : -2;
            for (int p = 0; p < has.length; p++) {
                owner = d.hasReed(r) && has[p] == r ? p : owner;
            }
            bench.due("owns reed", x.owns(0, r, true), owner);
        }
    }

    private void questions() {
        for (int q = -1; q <= d.questions.size(); q++) {
            boolean good = d.hasQuestion(q);
            int[] told = new int[4];
            int clearest = -1;
            int most = -1;
            for (int r = 0; good && r < d.reeds.size(); r++) {
                int[] heap = new int[4];
                for (int p = 0; p < d.players.size(); p++) {
                    heap[d.answer(r, p, q) < 0 ? 3 : d.answer(r, p, q)]++;
                }
                for (int i = 0; i < 4; i++) {
                    told[i] += heap[i];
                    if (i < 3 && heap[i] > most) {
                        most = heap[i];
                        clearest = r;
                    }
                }
            }
            for (int what = -1; what <= 4; what++) {
                bench.due("told", x.told(0, q, what), good && what >= 0 && what < 4 ? told[what] : -1);
            }
            bench.due("clearest", x.clearest(0, q, false), good ? clearest : -2);
            bench.due("clearest many", x.clearest(0, q, true), good ? Math.max(0, most) : -2);
            bench.due("marched", x.marched(0, q), good ? Model.marched(d, q) : -1);
        }
    }

    private void triples() {
        for (int i = 0; i < 40; i++) {
            int r = near(d.reeds.size());
            int p = near(d.players.size());
            int q = near(d.questions.size());
            int answer = near(3);
            boolean good = d.has(r, p, q);
            boolean can = good && answer >= 0 && answer < 3;
            bench.due("note", x.note(0, r, p, q, false), good ? d.note(r, p, q) : -2);
            bench.due("note answer", x.note(0, r, p, q, true), good ? d.answer(r, p, q) : -2);
            int colds = can ? 0 : -1;
            for (int cold = 0; can && cold < 10; cold++) {
                colds += d.answer(d.note(d.reeds.get(r)[0], d.reeds.get(r)[1], cold, p, q)) == answer ? 1 : 0;
            }
            bench.due("weather", x.weather(0, r, p, q, answer), colds);
            int n = near(21);
            int chant = -2;
            if (good && n >= 0 && n <= 20) {
                chant = d.note(Math.max(0, d.reeds.get(r)[0] - n), d.reeds.get(r)[1], d.cold, p, q);
            }
            bench.due("chant", x.chant(0, r, p, q, n), chant);
            int ripe = -1;
            for (int nights = 9; can && nights >= 0; nights--) {
                int wet = Math.max(0, d.reeds.get(r)[0] - nights);
                ripe = d.answer(d.note(wet, d.reeds.get(r)[1], d.cold, p, q)) == answer ? nights : ripe;
            }
            bench.due("ripe", x.ripe(0, r, p, q, answer), ripe);
            List<Integer> acts = can ? Model.ready(d, r, p, q, answer) : null;
            bench.due("ready", x.ready(0, r, p, q, answer, -1), acts == null ? -1 : acts.size());
            for (int k = 0; acts != null && k < acts.size(); k++) {
                bench.due("ready " + k, x.ready(0, r, p, q, answer, k), acts.get(k));
            }
            bench.due("ready beyond", x.ready(0, r, p, q, answer, acts == null ? 0 : acts.size()), -1);
            bench.due("ready -2", x.ready(0, r, p, q, answer, -2), -1);
        }
    }

    private void wholes() {
        for (int answer = -1; answer <= 3; answer++) {
            boolean good = answer >= 0 && answer < 3;
            int best = -1;
            int most = -1;
            for (int cold = 0; good && cold < 10; cold++) {
                int hits = 0;
                for (int[] reed : d.reeds) {
                    for (int p = 0; p < d.players.size(); p++) {
                        for (int q = 0; q < d.questions.size(); q++) {
                            hits += d.answer(d.note(reed[0], reed[1], cold, p, q)) == answer ? 1 : 0;
                        }
                    }
                }
                best = hits > most ? cold : best;
                most = Math.max(most, hits);
            }
            bench.due("fairest", x.fairest(0, answer, false), best);
            bench.due("fairest many", x.fairest(0, answer, true), most);
        }
    }

    private void lefts() {
        for (int n = -1; n <= 7; n++) {
            for (int k = -1; k <= 7; k++) {
                x = new ReedOracles();
                for (int y = -1; y <= 4; y++) {
                    for (int p = -1; p <= 11; p++) {
                        boolean good = n >= 0 && n <= 6 && k >= 0 && k <= 6 && y >= 0 && y <= 3 && p >= 0 && p <= 10;
                        BigInteger[] due = good ? Model.left(n, k, y, p) : null;
                        String call = "left " + n + " " + k + " " + y + " " + p;
                        bench.due(call, x.left(n, k, y, p, false), good ? due[0].longValueExact() : -1);
                        bench.due(call + " under", x.left(n, k, y, p, true), good ? due[1].longValueExact() : -1);
                    }
                }
            }
        }
    }
}
