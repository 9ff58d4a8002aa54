import java.util.Arrays;

/** Duchies, years and logs told as texts, and what the reeds of a duchy foretell. */
public final class ReedOracles {
    public static final int NONE = -1;

    private static final int MISSING = -2;
    private static final int MOST_BYTES = 600;
    private static final int BYTES_A_FEED = 20;
    private static final int SORTS = 3;
    private static final int MOST_TEXTS = 2;
    private static final int MOST_IMAGES = 3;
    private static final int MOST_REEDS = 6;
    private static final int MOST_PLAYERS = 4;
    private static final int MOST_QUESTIONS = 8;
    private static final int MOST_DEEDS = 40;
    private static final int MOST_FACTS = 8;
    private static final int MOST_DRAWN = 60;
    private static final int MOST_CHANTED = 20;
    private static final int MOST_PLAYS = 3;
    private static final int NOTES = 8;
    private static final int WETS = 10;
    private static final int KEYS = 8;
    private static final int COLDS = 10;
    private static final int ANSWERS = 3;
    private static final int NO = 0;
    private static final int YES = 1;
    private static final int WAIT = 2;
    private static final int NUMBERS_A_DEED = 5;

    private static final int ASK = 0;
    private static final int DUET = 1;
    private static final int WET = 2;
    private static final int CUT = 3;
    private static final int COLD = 4;
    private static final int NIGHT = 5;

    private final Told now;
    private final Told[] images;
    private final Reader reader;
    private final Course course;
    private final Acts acts;
    private final Plans plans;
    private final Suspects suspects;
    private final Survey survey;

    public ReedOracles() {
        now = new Told();
        images = new Told[MOST_IMAGES];
        reader = new Reader(now.tape);
        course = new Course();
        acts = new Acts();
        plans = new Plans();
        suspects = new Suspects();
        survey = new Survey();
    }

    public int feed(int a, int b, int c, int d, int e) {
        Tape tape = now.tape;
        if (tape.size > MOST_BYTES - BYTES_A_FEED) {
            return NONE;
        }
        tape.append(a);
        tape.append(b);
        tape.append(c);
        tape.append(d);
        tape.append(e);
        return tape.size;
    }

    public int end(int n) {
        if (n < 0 || n > now.tape.size) {
            return NONE;
        }
        now.tape.size = n;
        return n;
    }

    public int text(int sort, int at) {
        int number = numberFor(sort, at);
        if (number == MISSING) {
            now.endTape(0, NONE);
            return MISSING;
        }
        reader.read(sort);
        now.endTape(reader.fault, reader.place);
        if (reader.fault != 0) {
            return NONE;
        }
        now.put(sort, number, reader);
        return number;
    }

    public int fault(int what) {
        switch (what) {
            case 0: return now.fault;
            case 1: return now.place;
            default: return NONE;
        }
    }

    public int duchy(int duchy, int what) {
        Duchy home = now.duchyAt(duchy);
        return home == null ? NONE : home.detail(what);
    }

    public int note(int duchy, int reed, int player, int question, boolean answer) {
        Duchy home = now.duchyAt(duchy);
        if (home == null || !home.hasAll(reed, player, question)) {
            return MISSING;
        }
        int heard = home.noteOf(reed, player, question);
        return answer ? home.meaning(heard) : heard;
    }

    public int deed(int year, int k, int what) {
        Year deeds = now.yearAt(year);
        return deeds == null ? MISSING : deeds.detail(k, what);
    }

    public int stop(int duchy, int year) {
        Duchy home = now.duchyAt(duchy);
        Year deeds = now.yearAt(year);
        if (home == null || deeds == null) {
            return NONE;
        }
        course.run(home, deeds, deeds.size);
        return course.done;
    }

    public int state(int duchy, int year, int n, int what) {
        Duchy home = now.duchyAt(duchy);
        Year deeds = now.yearAt(year);
        if (home == null || deeds == null || n < 0 || n > deeds.size) {
            return MISSING;
        }
        course.run(home, deeds, n);
        return course.done < n ? MISSING : course.detail(home, what);
    }

    public int ready(int duchy, int reed, int player, int question, int answer, int k) {
        Duchy home = now.duchyAt(duchy);
        if (home == null || !home.hasAll(reed, player, question) || !isAnswer(answer)) {
            return NONE;
        }
        acts.seek(home, reed, player, question, answer);
        return k == NONE ? acts.length : acts.actAt(k);
    }

    public int favour(int duchy, int player, int answer, int k) {
        Duchy home = now.duchyAt(duchy);
        if (home == null || !home.hasPlayer(player) || !isAnswer(answer)) {
            return NONE;
        }
        if (k != NONE && !home.hasQuestion(k)) {
            return NONE;
        }
        plans.share(home, player, answer);
        return k == NONE ? plans.mostShared() : plans.sharedReed(home, k);
    }

    public int dare(int duchy, int reed, int player, boolean first) {
        Duchy home = now.duchyAt(duchy);
        if (home == null || !home.hasReed(reed) || !home.hasPlayer(player)) {
            return MISSING;
        }
        plans.play(home, reed, player);
        return first ? plans.firstDare(home) : plans.outcome();
    }

    public int alike(int duchy, int a, int b) {
        Duchy home = now.duchyAt(duchy);
        if (home == null || !home.hasReed(a) || !home.hasReed(b)) {
            return NONE;
        }
        return survey.sameAnswers(home, a, b);
    }

    public int lows(int duchy) {
        Duchy home = now.duchyAt(duchy);
        if (home == null) {
            return NONE;
        }
        survey.gatherNotes(home, home.cold);
        return survey.heap[0];
    }

    public int told(int duchy, int question, int what) {
        Duchy home = now.duchyAt(duchy);
        if (home == null || !home.hasQuestion(question) || what < 0 || what > ANSWERS) {
            return NONE;
        }
        return survey.tellers(home, question, what == ANSWERS ? NONE : what);
    }

    public int weather(int duchy, int reed, int player, int question, int answer) {
        Duchy home = now.duchyAt(duchy);
        if (home == null || !home.hasAll(reed, player, question) || !isAnswer(answer)) {
            return NONE;
        }
        return survey.fitColds(home, reed, player, question, answer);
    }

    public int fact(int log, int k, int what) {
        Log facts = now.logAt(log);
        return facts == null ? MISSING : facts.detail(k, what);
    }

    public int fits(int duchy, int log, int what) {
        Duchy home = now.duchyAt(duchy);
        Log facts = now.logAt(log);
        if (home == null || facts == null || !home.knows(facts)) {
            return MISSING;
        }
        suspects.gather(home, facts);
        switch (what) {
            case 0: return suspects.size;
            case 1: return suspects.sureWet();
            case 2: return suspects.sureKey();
            case 3: return suspects.whose(home, facts);
            case 4: return suspects.nextToAsk(home, facts.size);
            default: return what < 10 ? MISSING : suspects.suspectAt(what - 10);
        }
    }

    public long left(int n, int k, int y, int p, boolean under) {
        if (!within(n, 6) || !within(k, 6) || !within(y, 3) || !within(p, 10)) {
            return NONE;
        }
        long all = power(10, y);
        long sound = power(10 - p, y);
        long hits = 0;
        for (int j = k; j <= n; j++) {
            hits += choose(n, j) * power(sound, j) * power(all - sound, n - j);
        }
        return leastTerm(hits, power(all, n), under);
    }

    public int drawn(int duchy, int seed, int n, int what) {
        Duchy home = now.duchyAt(duchy);
        if (home == null || !within(n, MOST_DRAWN)) {
            return MISSING;
        }
        course.draw(home, seed, n);
        return course.detail(home, what);
    }

    public int chant(int duchy, int reed, int player, int question, int n) {
        Duchy home = now.duchyAt(duchy);
        if (home == null || !home.hasAll(reed, player, question) || !within(n, MOST_CHANTED)) {
            return MISSING;
        }
        return home.noteDried(reed, n, player, question);
    }

    public int ripe(int duchy, int reed, int player, int question, int answer) {
        Duchy home = now.duchyAt(duchy);
        if (home == null || !home.hasAll(reed, player, question) || !isAnswer(answer)) {
            return NONE;
        }
        return survey.nightsTill(home, reed, player, question, answer);
    }

    public int deepest(int duchy, int reed, int player) {
        Duchy home = now.duchyAt(duchy);
        if (home == null || !home.hasReed(reed) || !home.hasPlayer(player)) {
            return NONE;
        }
        return survey.deepestHeard(home, reed, player);
    }

    public int program(int duchy, int reed, int player, int k) {
        Duchy home = now.duchyAt(duchy);
        if (home == null || !home.hasReed(reed) || !home.hasPlayer(player)) {
            return NONE;
        }
        plans.compose(home, reed, player);
        return k == NONE ? plans.longest() : plans.programAt(home, k);
    }

    public int edit(int duchy, int reed, int player, int answer) {
        Duchy home = now.duchyAt(duchy);
        if (home == null || !home.hasReed(reed) || !home.hasPlayer(player) || !isAnswer(answer)) {
            return NONE;
        }
        return survey.changedNotes(home, reed, player, answer);
    }

    public int choir(int duchy, int player, boolean who) {
        Duchy home = now.duchyAt(duchy);
        if (home == null || !home.hasPlayer(player)) {
            return NONE;
        }
        int reeds = survey.leastChoir(home, player);
        return reeds == NONE || who ? reeds : Integer.bitCount(reeds);
    }

    public int peace(int duchy, int player, boolean who) {
        Duchy home = now.duchyAt(duchy);
        if (home == null || !home.hasPlayer(player)) {
            return NONE;
        }
        int reeds = survey.mostPeaceful(home, player);
        return who ? reeds : Integer.bitCount(reeds);
    }

    public int marched(int duchy, int question) {
        Duchy home = now.duchyAt(duchy);
        if (home == null || !home.hasQuestion(question)) {
            return NONE;
        }
        return survey.marches(home, question);
    }

    public int chords(int duchy, int player, int question) {
        Duchy home = now.duchyAt(duchy);
        if (home == null || !home.hasPlayer(player) || !home.hasQuestion(question)) {
            return NONE;
        }
        return survey.triads(home, player, question);
    }

    public int twins(int duchy, int what) {
        Duchy home = now.duchyAt(duchy);
        if (home == null || what < 0 || what > 2) {
            return NONE;
        }
        if (what == 0) {
            return survey.twinCouples(home);
        }
        int key = survey.bestKey(home);
        return what == 1 ? survey.cutsTo(home, key) : key;
    }

    public int fairest(int duchy, int answer, boolean many) {
        Duchy home = now.duchyAt(duchy);
        if (home == null || !isAnswer(answer)) {
            return NONE;
        }
        survey.gatherNotes(home, 0);
        int cold = survey.fairestCold(home, answer);
        return many ? survey.answersIn(home, cold, answer) : cold;
    }

    public int after(int duchy, int year, int what) {
        Duchy home = now.duchyAt(duchy);
        Year deeds = now.yearAt(year);
        if (home == null || deeds == null) {
            return MISSING;
        }
        course.run(home, deeds, deeds.size);
        switch (what) {
            case 0: return course.liar;
            case 1: return course.famous();
            case 2: return course.hoarse();
            case 3: return course.driest(home);
            default: return MISSING;
        }
    }

    public long odds(int duchy, int log, int player, int question, int answer, boolean under) {
        Duchy home = now.duchyAt(duchy);
        Log facts = now.logAt(log);
        if (home == null || facts == null || !home.knows(facts)) {
            return NONE;
        }
        if (!home.hasPlayer(player) || !home.hasQuestion(question) || !isAnswer(answer)) {
            return NONE;
        }
        suspects.gather(home, facts);
        int hits = suspects.answering(home, facts.size, player, question, answer);
        return leastTerm(hits, suspects.size, under);
    }

    public int owns(int duchy, int who, boolean reed) {
        Duchy home = now.duchyAt(duchy);
        if (home == null || !(reed ? home.hasReed(who) : home.hasPlayer(who))) {
            return MISSING;
        }
        survey.shareOut(home);
        return reed ? survey.ownerOf(home, who) : survey.owned[who];
    }

    public int wets(int duchy, int reed) {
        Duchy home = now.duchyAt(duchy);
        if (home == null || !home.hasReed(reed)) {
            return NONE;
        }
        return survey.wettings(home, reed);
    }

    public int clearest(int duchy, int question, boolean many) {
        Duchy home = now.duchyAt(duchy);
        if (home == null || !home.hasQuestion(question)) {
            return MISSING;
        }
        int reed = survey.clearestReed(home, question);
        if (!many) {
            return reed;
        }
        return reed == NONE ? 0 : survey.agreement(home, reed, question);
    }

    public int count(int sort) {
        return isSort(sort) ? now.counts[sort] : MISSING;
    }

    public boolean image(int k) {
        if (k < 0 || k >= MOST_IMAGES) {
            return false;
        }
        if (images[k] == null) {
            images[k] = new Told();
        }
        images[k].copy(now);
        return true;
    }

    public boolean again(int k) {
        if (k < 0 || k >= MOST_IMAGES || images[k] == null) {
            return false;
        }
        now.copy(images[k]);
        return true;
    }

    private int numberFor(int sort, int at) {
        if (!isSort(sort)) {
            return MISSING;
        }
        int number = at == NONE ? now.counts[sort] : at;
        int numbers = at == NONE ? MOST_TEXTS : now.counts[sort];
        return number >= 0 && number < numbers ? number : MISSING;
    }

    private static boolean isSort(int sort) {
        return sort >= 0 && sort < SORTS;
    }

    private static boolean isAnswer(int answer) {
        return answer >= 0 && answer < ANSWERS;
    }

    private static boolean within(int number, int most) {
        return number >= 0 && number <= most;
    }

    private static int dried(int wet, int times) {
        return Math.max(0, wet - times);
    }

    private static int wetted(int wet) {
        return Math.min(WETS - 1, wet + 3);
    }

    private static boolean areOpposed(int one, int other) {
        return one == YES && other == NO || one == NO && other == YES;
    }

    private static long power(long base, int times) {
        long product = 1;
        for (int i = 0; i < times; i++) {
            product *= base;
        }
        return product;
    }

    private static long choose(int n, int k) {
        long ways = 1;
        for (int i = 0; i < k; i++) {
            ways = ways * (n - i) / (i + 1);
        }
        return ways;
    }

    private static long leastTerm(long hits, long all, boolean under) {
        if (all <= 0) {
            return NONE;
        }
        long a = all;
        long b = hits;
        // Euclid's way on numbers below 2 to the 63rd is over in fewer than 100 steps.
        for (int i = 0; i < 100 && b != 0; i++) {
            long rest = a % b;
            a = b;
            b = rest;
        }
        return a == 0 ? NONE : (under ? all : hits) / a;
    }

    private static final class Tape {
        final byte[] bytes;
        int size;

        Tape() {
            bytes = new byte[MOST_BYTES];
        }

        void append(int word) {
            for (int shift = 24; shift >= 0 && size < MOST_BYTES; shift -= 8) {
                bytes[size] = (byte) (word >>> shift);
                size++;
            }
        }

        void copy(Tape other) {
            System.arraycopy(other.bytes, 0, bytes, 0, other.size);
            size = other.size;
        }
    }

    private static final class Duchy {
        int reeds;
        int players;
        int questions;
        int cold;
        final int[] wet;
        final int[] key;
        final int[] breath;
        final int[] depth;
        final int[] kind;
        final int[] means;

        Duchy() {
            wet = new int[MOST_REEDS];
            key = new int[MOST_REEDS];
            breath = new int[MOST_PLAYERS];
            depth = new int[MOST_QUESTIONS];
            kind = new int[MOST_QUESTIONS];
            means = new int[NOTES];
        }

        void reset() {
            reeds = 0;
            players = 0;
            questions = 0;
            cold = 0;
            for (int n = 0; n < NOTES; n++) {
                means[n] = n % 2 == 0 ? NO : YES;
            }
        }

        void copy(Duchy other) {
            reeds = other.reeds;
            players = other.players;
            questions = other.questions;
            cold = other.cold;
            System.arraycopy(other.wet, 0, wet, 0, MOST_REEDS);
            System.arraycopy(other.key, 0, key, 0, MOST_REEDS);
            System.arraycopy(other.breath, 0, breath, 0, MOST_PLAYERS);
            System.arraycopy(other.depth, 0, depth, 0, MOST_QUESTIONS);
            System.arraycopy(other.kind, 0, kind, 0, MOST_QUESTIONS);
            System.arraycopy(other.means, 0, means, 0, NOTES);
        }

        void addReed(int itsWet, int itsKey) {
            if (reeds < MOST_REEDS) {
                wet[reeds] = itsWet;
                key[reeds] = itsKey;
                reeds++;
            }
        }

        void addPlayer(int itsBreath) {
            if (players < MOST_PLAYERS) {
                breath[players] = itsBreath;
                players++;
            }
        }

        void addQuestion(int itsDepth, int itsKind) {
            if (questions < MOST_QUESTIONS) {
                depth[questions] = itsDepth;
                kind[questions] = itsKind;
                questions++;
            }
        }

        boolean hasReed(int reed) {
            return reed >= 0 && reed < reeds;
        }

        boolean hasPlayer(int player) {
            return player >= 0 && player < players;
        }

        boolean hasQuestion(int question) {
            return question >= 0 && question < questions;
        }

        boolean hasAll(int reed, int player, int question) {
            return hasReed(reed) && hasPlayer(player) && hasQuestion(question);
        }

        boolean knows(Log facts) {
            for (int i = 0; i < facts.size; i++) {
                if (!hasPlayer(facts.player[i]) || !hasQuestion(facts.question[i])) {
                    return false;
                }
            }
            return true;
        }

        int detail(int what) {
            if (what < 0) {
                return NONE;
            }
            int i = what % 10;
            switch (what / 10) {
                case 0: return headline(i);
                case 1: return hasReed(i) ? wet[i] : NONE;
                case 2: return hasReed(i) ? key[i] : NONE;
                case 3: return hasPlayer(i) ? breath[i] : NONE;
                case 4: return hasQuestion(i) ? depth[i] : NONE;
                case 5: return hasQuestion(i) ? kind[i] : NONE;
                case 6: return i < NOTES ? means[i] : NONE;
                default: return NONE;
            }
        }

        private int headline(int what) {
            switch (what) {
                case 0: return reeds;
                case 1: return players;
                case 2: return questions;
                case 3: return cold;
                default: return NONE;
            }
        }

        boolean coughs(int atWet, int player, int question) {
            return depth[question] > atWet + breath[player];
        }

        /** The note of a reed that may never have been told; NONE for a cough. */
        int noteAt(int atWet, int atKey, int atCold, int player, int question) {
            if (coughs(atWet, player, question)) {
                return NONE;
            }
            int sum = 3 * atWet + breath[player] + atKey + 5 * kind[question] + depth[question];
            return (sum + 16 - atCold) & (NOTES - 1);
        }

        int noteOf(int reed, int player, int question) {
            return noteAt(wet[reed], key[reed], cold, player, question);
        }

        int noteDried(int reed, int times, int player, int question) {
            return noteAt(dried(wet[reed], times), key[reed], cold, player, question);
        }

        int meaning(int note) {
            return note < 0 || note >= NOTES ? NONE : means[note];
        }

        int answerOf(int reed, int player, int question) {
            return meaning(noteOf(reed, player, question));
        }
    }

    private static final class Year {
        private static final int SPAN = 1 + NUMBERS_A_DEED;

        int size;
        /** Of each deed its kind and its numbers, NONE where it has no more. */
        final int[] cells;

        Year() {
            cells = new int[MOST_DEEDS * SPAN];
        }

        void copy(Year other) {
            System.arraycopy(other.cells, 0, cells, 0, other.size * SPAN);
            size = other.size;
        }

        void add(int kind, int[] row, int numbers) {
            if (size < MOST_DEEDS) {
                int at = size * SPAN;
                cells[at] = kind;
                for (int i = 0; i < NUMBERS_A_DEED; i++) {
                    cells[at + 1 + i] = i < numbers && i < row.length ? row[i] : NONE;
                }
                size++;
            }
        }

        int cell(int k, int what) {
            return cells[k * SPAN + what];
        }

        int detail(int k, int what) {
            if (k == NONE && what == 0) {
                return size;
            }
            if (k < 0 || k >= size || what < 0 || what >= SPAN) {
                return MISSING;
            }
            return cell(k, what);
        }
    }

    private static final class Log {
        int size;
        final int[] player;
        final int[] question;
        /** NONE for a cough, as noteAt() has it. */
        final int[] heard;

        Log() {
            player = new int[MOST_FACTS];
            question = new int[MOST_FACTS];
            heard = new int[MOST_FACTS];
        }

        void copy(Log other) {
            System.arraycopy(other.player, 0, player, 0, other.size);
            System.arraycopy(other.question, 0, question, 0, other.size);
            System.arraycopy(other.heard, 0, heard, 0, other.size);
            size = other.size;
        }

        void add(int who, int what, int note) {
            if (size < MOST_FACTS) {
                player[size] = who;
                question[size] = what;
                heard[size] = note;
                size++;
            }
        }

        int detail(int k, int what) {
            if (k == NONE && what == 0) {
                return size;
            }
            if (k < 0 || k >= size) {
                return MISSING;
            }
            switch (what) {
                case 0: return player[k];
                case 1: return question[k];
                case 2: return heard[k];
                default: return MISSING;
            }
        }
    }

    /** All that an image keeps. */
    private static final class Told {
        final Tape tape;
        final int[] counts;
        final Duchy[] duchies;
        final Year[] years;
        final Log[] logs;
        int fault;
        int place;

        Told() {
            tape = new Tape();
            counts = new int[SORTS];
            duchies = new Duchy[MOST_TEXTS];
            years = new Year[MOST_TEXTS];
            logs = new Log[MOST_TEXTS];
            for (int i = 0; i < MOST_TEXTS; i++) {
                duchies[i] = new Duchy();
                years[i] = new Year();
                logs[i] = new Log();
            }
            fault = 0;
            place = NONE;
        }

        void copy(Told other) {
            tape.copy(other.tape);
            for (int i = 0; i < MOST_TEXTS; i++) {
                duchies[i].copy(other.duchies[i]);
                years[i].copy(other.years[i]);
                logs[i].copy(other.logs[i]);
            }
            System.arraycopy(other.counts, 0, counts, 0, SORTS);
            fault = other.fault;
            place = other.place;
        }

        /** Every text() takes the tape, also one that reads nothing of it. */
        void endTape(int fault, int place) {
            tape.size = 0;
            this.fault = fault;
            this.place = place;
        }

        void put(int sort, int number, Reader reader) {
            if (number < 0 || number >= MOST_TEXTS) {
                return;
            }
            switch (sort) {
                case 0: duchies[number].copy(reader.duchy); break;
                case 1: years[number].copy(reader.year); break;
                case 2: logs[number].copy(reader.log); break;
                default: return;
            }
            counts[sort] = Math.max(counts[sort], number + 1);
        }

        Duchy duchyAt(int number) {
            return number >= 0 && number < counts[0] ? duchies[number] : null;
        }

        Year yearAt(int number) {
            return number >= 0 && number < counts[1] ? years[number] : null;
        }

        Log logAt(int number) {
            return number >= 0 && number < counts[2] ? logs[number] : null;
        }
    }

    /** Reads the tape into a duchy, year or log of its own, so that a fault spoils nothing told before. */
    private static final class Reader {
        private static final int WORD = 0;
        private static final int NUMBER = 1;
        private static final int SEMICOLON = 2;
        private static final int FINISH = 3;
        private static final int STRANGE = 4;

        private static final int REED_LINE = 0;
        private static final int PLAYER_LINE = 1;
        private static final int QUESTION_LINE = 2;
        private static final int COLD_LINE = 3;
        private static final int MEANS_LINE = 4;
        /** Behind it the deeds' lines stand as the deeds' kinds do. */
        private static final int DEED_LINES = 5;
        private static final int HEARD_LINE = 11;
        private static final int COUGH_LINE = 12;

        private static final int[] NUMBERS = {2, 1, 2, 1, 1, 3, 5, 1, 1, 1, 0, 3, 2};
        /** Of each line its first number's least value; all others begin with 0. */
        private static final int[] LEAST = {0, 1, 1, 0, 0, 0, 0, 0, 0, 0, 0, 0, 0};
        private static final int[] GREATEST = {
            9, 7, 0, 0, 0,
            9, 0, 0, 0, 0,
            15, 3, 0, 0, 0,
            9, 0, 0, 0, 0,
            7, 0, 0, 0, 0,
            5, 3, 7, 0, 0,
            5, 5, 3, 3, 7,
            5, 0, 0, 0, 0,
            5, 0, 0, 0, 0,
            9, 0, 0, 0, 0,
            0, 0, 0, 0, 0,
            3, 7, 7, 0, 0,
            3, 7, 0, 0, 0,
        };

        final Duchy duchy;
        final Year year;
        final Log log;
        int fault;
        int place;
        private final Tape tape;
        private final int[] row;
        private int at;
        private int start;
        private int token;
        private int value;

        Reader(Tape tape) {
            this.tape = tape;
            duchy = new Duchy();
            year = new Year();
            log = new Log();
            row = new int[NUMBERS_A_DEED];
        }

        void read(int sort) {
            duchy.reset();
            year.size = 0;
            log.size = 0;
            fault = 0;
            place = NONE;
            at = 0;
            advance();
            for (int line = 0; line < MOST_BYTES && token != FINISH; line++) {
                if (!readLine(sort)) {
                    fault = 1;
                    place = start;
                    return;
                }
            }
        }

        private boolean readLine(int sort) {
            int line = token == WORD ? lineOf(sort) : NONE;
            if (line == NONE) {
                return false;
            }
            if (isFull(line)) {
                blame(3);
            }
            advance();
            for (int i = 0; i < NUMBERS[line]; i++) {
                if (token != NUMBER) {
                    return false;
                }
                row[i] = value;
                if (!canBe(line, i)) {
                    blame(2);
                }
                advance();
            }
            int meaning = NONE;
            if (line == MEANS_LINE) {
                meaning = token == WORD ? meaningHere() : NONE;
                if (meaning == NONE) {
                    return false;
                }
                advance();
            }
            if (token != SEMICOLON) {
                return false;
            }
            if (fault == 0) {
                keep(line, meaning);
            }
            advance();
            return true;
        }

        /** Tokens come by their places, so the first blame is the one that stays. */
        private void blame(int which) {
            if (fault == 0) {
                fault = which;
                place = start;
            }
        }

        private boolean isFull(int line) {
            switch (line) {
                case REED_LINE: return duchy.reeds >= MOST_REEDS;
                case PLAYER_LINE: return duchy.players >= MOST_PLAYERS;
                case QUESTION_LINE: return duchy.questions >= MOST_QUESTIONS;
                case COLD_LINE: return false;
                case MEANS_LINE: return false;
                case HEARD_LINE: return log.size >= MOST_FACTS;
                case COUGH_LINE: return log.size >= MOST_FACTS;
                default: return year.size >= MOST_DEEDS;
            }
        }

        private boolean canBe(int line, int i) {
            int least = i == 0 ? LEAST[line] : 0;
            if (row[i] < least || row[i] > GREATEST[line * NUMBERS_A_DEED + i]) {
                return false;
            }
            boolean second = line == DEED_LINES + DUET && (i == 1 || i == 3);
            return !second || row[i] != row[i - 1];
        }

        private void keep(int line, int meaning) {
            switch (line) {
                case REED_LINE: duchy.addReed(row[0], row[1]); break;
                case PLAYER_LINE: duchy.addPlayer(row[0]); break;
                case QUESTION_LINE: duchy.addQuestion(row[0], row[1]); break;
                case COLD_LINE: duchy.cold = row[0]; break;
                case MEANS_LINE: duchy.means[row[0]] = meaning; break;
                case HEARD_LINE: log.add(row[0], row[1], row[2]); break;
                case COUGH_LINE: log.add(row[0], row[1], NONE); break;
                default: year.add(line - DEED_LINES, row, NUMBERS[line]);
            }
        }

        private int lineOf(int sort) {
            switch (sort) {
                case 0: return duchyLine();
                case 1: return yearLine();
                case 2: return logLine();
                default: return NONE;
            }
        }

        private int duchyLine() {
            if (isWord("reed")) {
                return REED_LINE;
            }
            if (isWord("player")) {
                return PLAYER_LINE;
            }
            if (isWord("question")) {
                return QUESTION_LINE;
            }
            if (isWord("cold")) {
                return COLD_LINE;
            }
            return isWord("means") ? MEANS_LINE : NONE;
        }

        private int yearLine() {
            if (isWord("ask")) {
                return DEED_LINES + ASK;
            }
            if (isWord("duet")) {
                return DEED_LINES + DUET;
            }
            if (isWord("wet")) {
                return DEED_LINES + WET;
            }
            if (isWord("cut")) {
                return DEED_LINES + CUT;
            }
            if (isWord("cold")) {
                return DEED_LINES + COLD;
            }
            return isWord("night") ? DEED_LINES + NIGHT : NONE;
        }

        private int logLine() {
            if (isWord("heard")) {
                return HEARD_LINE;
            }
            return isWord("cough") ? COUGH_LINE : NONE;
        }

        private int meaningHere() {
            if (isWord("no")) {
                return NO;
            }
            if (isWord("yes")) {
                return YES;
            }
            return isWord("wait") ? WAIT : NONE;
        }

        private boolean isWord(String word) {
            if (at - start != word.length()) {
                return false;
            }
            for (int i = 0; i < word.length(); i++) {
                if (tape.bytes[start + i] != word.charAt(i)) {
                    return false;
                }
            }
            return true;
        }

        private void advance() {
            while (at < tape.size && (tape.bytes[at] == 10 || tape.bytes[at] == 32)) {
                at++;
            }
            start = at;
            if (at >= tape.size) {
                token = FINISH;
            } else if (isLetter(tape.bytes[at])) {
                passWord();
            } else if (isDigit(tape.bytes[at])) {
                passNumber();
            } else {
                token = tape.bytes[at] == ';' ? SEMICOLON : STRANGE;
                at++;
            }
        }

        private void passWord() {
            token = WORD;
            while (at < tape.size && isLetter(tape.bytes[at])) {
                at++;
            }
        }

        private void passNumber() {
            value = 0;
            while (at < tape.size && isDigit(tape.bytes[at])) {
                value = 10 * value + (tape.bytes[at] - '0');
                at++;
            }
            token = at - start <= 2 ? NUMBER : STRANGE;
        }

        private static boolean isLetter(byte sign) {
            return sign >= 'a' && sign <= 'z';
        }

        private static boolean isDigit(byte sign) {
            return sign >= '0' && sign <= '9';
        }
    }

    /** A duchy behind some deeds, told or drawn. */
    private static final class Course {
        int done;
        int liar;
        private final int[] wet;
        private final int[] key;
        private final int[] played;
        private final int[] playedInAll;
        private final int[] asked;
        private final int[] answered;
        private int cracked;
        private int nights;
        private int deaths;
        private int marches;
        private int clashes;
        private int coughs;
        private int cold;
        private int lastNote;
        private int seed;

        Course() {
            wet = new int[MOST_REEDS];
            key = new int[MOST_REEDS];
            played = new int[MOST_PLAYERS];
            playedInAll = new int[MOST_PLAYERS];
            asked = new int[MOST_QUESTIONS];
            answered = new int[MOST_QUESTIONS];
        }

        private void begin(Duchy home) {
            System.arraycopy(home.wet, 0, wet, 0, MOST_REEDS);
            System.arraycopy(home.key, 0, key, 0, MOST_REEDS);
            Arrays.fill(played, 0);
            Arrays.fill(playedInAll, 0);
            Arrays.fill(asked, 0);
            Arrays.fill(answered, NONE);
            done = 0;
            liar = NONE;
            cracked = 0;
            nights = 0;
            deaths = 0;
            marches = 0;
            clashes = 0;
            coughs = 0;
            cold = home.cold;
            lastNote = NONE;
        }

        /** Does the first deeds of a year, as many as are wanted or can be. */
        void run(Duchy home, Year year, int wanted) {
            begin(home);
            for (int k = 0; k < wanted && k < year.size; k++) {
                if (!apply(home, year, k)) {
                    return;
                }
                done++;
            }
        }

        private boolean apply(Duchy home, Year year, int k) {
            int first = year.cell(k, 1);
            int second = year.cell(k, 2);
            int third = year.cell(k, 3);
            switch (year.cell(k, 0)) {
                case ASK: return ask(home, first, second, third);
                case DUET: return duet(home, year, k);
                case WET: return moisten(home, first);
                case CUT: return trim(home, first);
                case COLD: cold = first; return true;
                case NIGHT: sleep(home); return true;
                default: return false;
            }
        }

        private boolean isSound(Duchy home, int reed) {
            return home.hasReed(reed) && (cracked >> reed & 1) == 0;
        }

        private boolean mayPlay(Duchy home, int player) {
            return home.hasPlayer(player) && played[player] < MOST_PLAYS;
        }

        private boolean ask(Duchy home, int reed, int player, int question) {
            if (!isSound(home, reed) || !mayPlay(home, player) || !home.hasQuestion(question)) {
                return false;
            }
            lastNote = blow(home, reed, player, question);
            asked[question]++;
            if (lastNote == NONE) {
                coughs++;
            }
            if (lastNote == 0) {
                deaths++;
            }
            int answer = home.meaning(lastNote);
            if (answer == YES || answer == NO) {
                if (areOpposed(answer, answered[question])) {
                    crack(reed);
                }
                answered[question] = answer;
            }
            return true;
        }

        private boolean duet(Duchy home, Year year, int k) {
            int a = year.cell(k, 1);
            int b = year.cell(k, 2);
            int p = year.cell(k, 3);
            int q = year.cell(k, 4);
            int question = year.cell(k, 5);
            if (!isSound(home, a) || !isSound(home, b) || !mayPlay(home, p) || !mayPlay(home, q)) {
                return false;
            }
            if (!home.hasQuestion(question)) {
                return false;
            }
            asked[question]++;
            int one = home.meaning(blow(home, a, p, question));
            int other = home.meaning(blow(home, b, q, question));
            if (one != NONE && one == other) {
                marches++;
            } else if (areOpposed(one, other)) {
                clashes++;
            }
            return true;
        }

        private int blow(Duchy home, int reed, int player, int question) {
            int note = home.noteAt(wet[reed], key[reed], cold, player, question);
            wet[reed] = dried(wet[reed], 1);
            played[player]++;
            playedInAll[player]++;
            return note;
        }

        private void crack(int reed) {
            if (cracked == 0) {
                liar = done;
            }
            cracked |= 1 << reed;
        }

        private boolean moisten(Duchy home, int reed) {
            if (!isSound(home, reed)) {
                return false;
            }
            wet[reed] = wetted(wet[reed]);
            return true;
        }

        private boolean trim(Duchy home, int reed) {
            if (!isSound(home, reed)) {
                return false;
            }
            key[reed] = (key[reed] + 1) % KEYS;
            return true;
        }

        private void sleep(Duchy home) {
            nights++;
            for (int r = 0; r < home.reeds; r++) {
                wet[r] = dried(wet[r], 1);
            }
            Arrays.fill(played, 0);
        }

        void draw(Duchy home, int from, int times) {
            begin(home);
            seed = from;
            for (int i = 0; i < times; i++) {
                drawDeed(home);
            }
        }

        private void drawDeed(Duchy home) {
            int kind = below(8);
            if (kind == 7) {
                sleep(home);
            } else if (kind == 6) {
                cold = below(COLDS);
            } else if (home.reeds > 0 && kind == 5) {
                trim(home, below(home.reeds));
            } else if (home.reeds > 0 && kind == 4) {
                moisten(home, below(home.reeds));
            } else if (home.reeds > 0 && home.players > 0 && home.questions > 0) {
                int reed = below(home.reeds);
                int player = below(home.players);
                ask(home, reed, player, below(home.questions));
            }
        }

        private int below(int n) {
            seed = seed * 1103515245 + 12345;
            return n > 0 ? (seed >>> 16) % n : 0;
        }

        int detail(Duchy home, int what) {
            if (what < 0) {
                return MISSING;
            }
            int i = what % 10;
            switch (what / 10) {
                case 0: return headline(i);
                case 1: return home.hasReed(i) ? wet[i] : MISSING;
                case 2: return home.hasReed(i) ? key[i] : MISSING;
                case 3: return home.hasPlayer(i) ? played[i] : MISSING;
                case 4: return home.hasQuestion(i) ? answered[i] : MISSING;
                default: return MISSING;
            }
        }

        private int headline(int what) {
            switch (what) {
                case 0: return nights;
                case 1: return cracked;
                case 2: return deaths;
                case 3: return marches;
                case 4: return clashes;
                case 5: return coughs;
                case 6: return cold;
                case 7: return lastNote;
                default: return MISSING;
            }
        }

        int famous() {
            return firstGreatest(asked);
        }

        int hoarse() {
            return firstGreatest(playedInAll);
        }

        private static int firstGreatest(int[] times) {
            int best = NONE;
            int most = 0;
            for (int i = 0; i < times.length; i++) {
                if (times[i] > most) {
                    most = times[i];
                    best = i;
                }
            }
            return best;
        }

        int driest(Duchy home) {
            int best = NONE;
            for (int r = 0; r < home.reeds; r++) {
                if (best == NONE || wet[r] < wet[best]) {
                    best = r;
                }
            }
            return best;
        }
    }

    /** The shortest way to get a reed ready: acts tried breadth first, least numbers first. */
    private static final class Acts {
        private static final int KINDS = 5;
        private static final int STATES = WETS * KEYS * COLDS;
        private static final int UNSEEN = -1;
        private static final int ORIGIN = -2;

        /** How many acts the way has that was sought last, NONE if there is no way. */
        int length;
        /** Of each state the one before it and the act between, as one number. */
        private final int[] origin;
        private final int[] queue;
        private int goal;

        Acts() {
            origin = new int[STATES];
            queue = new int[STATES];
        }

        void seek(Duchy home, int reed, int player, int question, int answer) {
            length = NONE;
            if (isBeyond(home, player, question, answer)) {
                return;
            }
            Arrays.fill(origin, UNSEEN);
            int start = stateOf(home.wet[reed], home.key[reed], home.cold);
            origin[start] = ORIGIN;
            queue[0] = start;
            int tail = 1;
            for (int head = 0; head < tail && head < STATES; head++) {
                int state = queue[head];
                int note = home.noteAt(wetIn(state), keyIn(state), coldIn(state), player, question);
                if (home.meaning(note) == answer) {
                    goal = state;
                    length = stepsTo(state);
                    return;
                }
                tail = spread(state, tail);
            }
        }

        /** Wets and cuts lead to every note, unless it coughs at its wettest; so no search is worth while then. */
        private static boolean isBeyond(Duchy home, int player, int question, int answer) {
            boolean meant = false;
            for (int n = 0; n < NOTES; n++) {
                meant = meant || home.means[n] == answer;
            }
            return !meant || home.coughs(WETS - 1, player, question);
        }

        private int spread(int state, int from) {
            int tail = from;
            for (int act = 0; act < KINDS; act++) {
                int next = behind(state, act);
                if (origin[next] == UNSEEN && tail < STATES) {
                    origin[next] = state * KINDS + act;
                    queue[tail] = next;
                    tail++;
                }
            }
            return tail;
        }

        private static int behind(int state, int act) {
            int wet = wetIn(state);
            int key = keyIn(state);
            int cold = coldIn(state);
            switch (act) {
                case 0: return stateOf(wetted(wet), key, cold);
                case 1: return stateOf(wet, (key + 1) % KEYS, cold);
                case 2: return stateOf(dried(wet, 1), key, cold);
                case 3: return stateOf(wet, key, Math.max(0, cold - 1));
                default: return stateOf(wet, key, Math.min(COLDS - 1, cold + 1));
            }
        }

        private int stepsTo(int state) {
            int steps = 0;
            int here = state;
            while (steps < STATES && origin[here] >= 0) {
                here = origin[here] / KINDS;
                steps++;
            }
            return steps;
        }

        int actAt(int k) {
            if (k < 0 || k >= length) {
                return NONE;
            }
            int here = goal;
            for (int i = length - 1; i > k && origin[here] >= 0; i--) {
                here = origin[here] / KINDS;
            }
            return origin[here] >= 0 ? origin[here] % KINDS : NONE;
        }

        private static int stateOf(int wet, int key, int cold) {
            return (wet * KEYS + key) * COLDS + cold;
        }

        private static int wetIn(int state) {
            return state / (KEYS * COLDS);
        }

        private static int keyIn(int state) {
            return state / COLDS % KEYS;
        }

        private static int coldIn(int state) {
            return state % COLDS;
        }
    }

    /** The best over all rows of reeds or questions, by sets of those that are used already. */
    private static final class Plans {
        private static final int REED_SETS = 1 << MOST_REEDS;
        private static final int QUESTION_SETS = 1 << MOST_QUESTIONS;

        /** Of a question and the reeds used before it: how many more can answer as wished. */
        private final int[] shared;
        /** Of each question the reeds (bits) that answer as wished. */
        private final int[] wished;
        /** Of the questions (bits) asked before: what is still to be won. */
        private final int[] worth;
        /** Of how many were asked before: the questions (bits) that cough or have note 0. */
        private final int[] lost;

        Plans() {
            shared = new int[(MOST_QUESTIONS + 1) * REED_SETS];
            wished = new int[MOST_QUESTIONS];
            worth = new int[QUESTION_SETS];
            lost = new int[MOST_QUESTIONS];
        }

        void share(Duchy home, int player, int answer) {
            int sets = 1 << home.reeds;
            for (int used = 0; used < sets; used++) {
                shared[home.questions * REED_SETS + used] = 0;
            }
            for (int q = home.questions - 1; q >= 0; q--) {
                wished[q] = 0;
                for (int r = 0; r < home.reeds; r++) {
                    if (home.answerOf(r, player, q) == answer) {
                        wished[q] |= 1 << r;
                    }
                }
                for (int used = 0; used < sets; used++) {
                    shared[q * REED_SETS + used] = bestShare(q, used);
                }
            }
        }

        private int bestShare(int question, int used) {
            int best = shared[(question + 1) * REED_SETS + used];
            // A reed that does not answer as wished helps no later question, so it is left out here.
            int free = wished[question] & ~used;
            for (int r = 0; r < MOST_REEDS; r++) {
                if ((free >> r & 1) == 1) {
                    best = Math.max(best, shareBy(question, used, r));
                }
            }
            return best;
        }

        private int shareBy(int question, int used, int reed) {
            int gain = wished[question] >> reed & 1;
            return gain + shared[(question + 1) * REED_SETS + (used | 1 << reed)];
        }

        int mostShared() {
            return shared[0];
        }

        /** Reeds that do not answer as wished are in the row too: they come before 6, none. */
        int sharedReed(Duchy home, int question) {
            int used = 0;
            int chosen = MOST_REEDS;
            for (int q = 0; q <= question; q++) {
                chosen = firstShare(home, q, used);
                if (chosen < MOST_REEDS) {
                    used |= 1 << chosen;
                }
            }
            return chosen;
        }

        private int firstShare(Duchy home, int question, int used) {
            int best = shared[question * REED_SETS + used];
            for (int r = 0; r < home.reeds; r++) {
                if ((used >> r & 1) == 0 && shareBy(question, used, r) == best) {
                    return r;
                }
            }
            return MOST_REEDS;
        }

        private void findLost(Duchy home, int reed, int player) {
            for (int before = 0; before < home.questions; before++) {
                lost[before] = 0;
                for (int q = 0; q < home.questions; q++) {
                    if (home.noteDried(reed, before, player, q) <= 0) {
                        lost[before] |= 1 << q;
                    }
                }
            }
        }

        private boolean isLost(int asked, int question) {
            int before = Integer.bitCount(asked);
            return before >= MOST_QUESTIONS || (lost[before] >> question & 1) == 1;
        }

        /** Worth is 1, 0, -1 for whose turn it is: the other one loses, nobody, he himself. */
        void play(Duchy home, int reed, int player) {
            findLost(home, reed, player);
            int full = (1 << home.questions) - 1;
            worth[full] = 0;
            for (int asked = full - 1; asked >= 0; asked--) {
                int best = -1;
                for (int q = 0; q < home.questions && best < 1; q++) {
                    if ((asked >> q & 1) == 0) {
                        best = Math.max(best, dareWorth(asked, q));
                    }
                }
                worth[asked] = best;
            }
        }

        private int dareWorth(int asked, int question) {
            return isLost(asked, question) ? -1 : -worth[asked | 1 << question];
        }

        int outcome() {
            switch (worth[0]) {
                case 1: return 1;
                case 0: return 2;
                default: return 0;
            }
        }

        int firstDare(Duchy home) {
            for (int q = 0; q < home.questions; q++) {
                if (dareWorth(0, q) == worth[0]) {
                    return q;
                }
            }
            return NONE;
        }

        /** Worth is how many more questions can be asked. */
        void compose(Duchy home, int reed, int player) {
            findLost(home, reed, player);
            int full = (1 << home.questions) - 1;
            worth[full] = 0;
            for (int asked = full - 1; asked >= 0; asked--) {
                int best = 0;
                for (int q = 0; q < home.questions; q++) {
                    if ((asked >> q & 1) == 0) {
                        best = Math.max(best, programWorth(asked, q));
                    }
                }
                worth[asked] = best;
            }
        }

        private int programWorth(int asked, int question) {
            return isLost(asked, question) ? 0 : 1 + worth[asked | 1 << question];
        }

        int longest() {
            return worth[0];
        }

        int programAt(Duchy home, int k) {
            if (k < 0 || k >= worth[0]) {
                return NONE;
            }
            int asked = 0;
            int chosen = NONE;
            for (int i = 0; i <= k; i++) {
                chosen = firstProgram(home, asked);
                if (chosen == NONE) {
                    return NONE;
                }
                asked |= 1 << chosen;
            }
            return chosen;
        }

        private int firstProgram(Duchy home, int asked) {
            for (int q = 0; q < home.questions; q++) {
                if ((asked >> q & 1) == 0 && programWorth(asked, q) == worth[asked]) {
                    return q;
                }
            }
            return NONE;
        }
    }

    /** The reeds, by first wet and key, of which a log may tell. */
    private static final class Suspects {
        int size;
        private final int[] list;
        /** How many have each note; the last cell is for coughs. */
        private final int[] heap;

        Suspects() {
            list = new int[WETS * KEYS];
            heap = new int[NOTES + 1];
        }

        void gather(Duchy home, Log log) {
            size = 0;
            for (int suspect = 0; suspect < WETS * KEYS; suspect++) {
                if (agrees(home, log, suspect / KEYS, suspect % KEYS)) {
                    list[size] = suspect;
                    size++;
                }
            }
        }

        private static boolean agrees(Duchy home, Log log, int wet, int key) {
            for (int i = 0; i < log.size; i++) {
                int note = home.noteAt(dried(wet, i), key, home.cold, log.player[i], log.question[i]);
                if (note != log.heard[i]) {
                    return false;
                }
            }
            return true;
        }

        int suspectAt(int k) {
            return k >= 0 && k < size ? list[k] : MISSING;
        }

        int sureWet() {
            for (int i = 1; i < size; i++) {
                if (list[i] / KEYS != list[0] / KEYS) {
                    return NONE;
                }
            }
            return size == 0 ? NONE : list[0] / KEYS;
        }

        int sureKey() {
            for (int i = 1; i < size; i++) {
                if (list[i] % KEYS != list[0] % KEYS) {
                    return NONE;
                }
            }
            return size == 0 ? NONE : list[0] % KEYS;
        }

        int whose(Duchy home, Log log) {
            int bits = 0;
            for (int r = 0; r < home.reeds; r++) {
                if (agrees(home, log, home.wet[r], home.key[r])) {
                    bits |= 1 << r;
                }
            }
            return bits;
        }

        int nextToAsk(Duchy home, int facts) {
            int best = NONE;
            int least = size + 1;
            for (int p = 0; p < home.players && size > 0; p++) {
                for (int q = 0; q < home.questions; q++) {
                    int greatest = greatestHeap(home, facts, p, q);
                    if (greatest < least) {
                        least = greatest;
                        best = 10 * p + q;
                    }
                }
            }
            return best;
        }

        private int nextNote(Duchy home, int suspect, int facts, int player, int question) {
            int wet = dried(suspect / KEYS, facts);
            return home.noteAt(wet, suspect % KEYS, home.cold, player, question);
        }

        private int greatestHeap(Duchy home, int facts, int player, int question) {
            Arrays.fill(heap, 0);
            int greatest = 0;
            for (int i = 0; i < size; i++) {
                int note = nextNote(home, list[i], facts, player, question);
                int cell = note == NONE ? NOTES : note;
                heap[cell]++;
                greatest = Math.max(greatest, heap[cell]);
            }
            return greatest;
        }

        int answering(Duchy home, int facts, int player, int question, int answer) {
            int hits = 0;
            for (int i = 0; i < size; i++) {
                if (home.meaning(nextNote(home, list[i], facts, player, question)) == answer) {
                    hits++;
                }
            }
            return hits;
        }
    }

    /** What is counted or chosen over a duchy as told. */
    private static final class Survey {
        /** How many have each note. */
        final int[] heap;
        /** Of each player the reed he has. */
        final int[] owned;
        /** Of each reed a set (bits) of questions or of reeds. */
        private final int[] sets;

        Survey() {
            heap = new int[NOTES];
            owned = new int[MOST_PLAYERS];
            sets = new int[MOST_REEDS];
        }

        int sameAnswers(Duchy home, int a, int b) {
            int same = 0;
            for (int p = 0; p < home.players; p++) {
                for (int q = 0; q < home.questions; q++) {
                    if (home.answerOf(a, p, q) == home.answerOf(b, p, q)) {
                        same++;
                    }
                }
            }
            return same;
        }

        void gatherNotes(Duchy home, int cold) {
            Arrays.fill(heap, 0);
            for (int r = 0; r < home.reeds; r++) {
                for (int p = 0; p < home.players; p++) {
                    for (int q = 0; q < home.questions; q++) {
                        addNote(home.noteAt(home.wet[r], home.key[r], cold, p, q));
                    }
                }
            }
        }

        private void addNote(int note) {
            if (note >= 0 && note < NOTES) {
                heap[note]++;
            }
        }

        int tellers(Duchy home, int question, int answer) {
            int tellers = 0;
            for (int r = 0; r < home.reeds; r++) {
                for (int p = 0; p < home.players; p++) {
                    if (home.answerOf(r, p, question) == answer) {
                        tellers++;
                    }
                }
            }
            return tellers;
        }

        int fitColds(Duchy home, int reed, int player, int question, int answer) {
            int colds = 0;
            for (int cold = 0; cold < COLDS; cold++) {
                int note = home.noteAt(home.wet[reed], home.key[reed], cold, player, question);
                if (home.meaning(note) == answer) {
                    colds++;
                }
            }
            return colds;
        }

        int nightsTill(Duchy home, int reed, int player, int question, int answer) {
            for (int nights = 0; nights <= 9; nights++) {
                if (home.meaning(home.noteDried(reed, nights, player, question)) == answer) {
                    return nights;
                }
            }
            return NONE;
        }

        int deepestHeard(Duchy home, int reed, int player) {
            int best = NONE;
            for (int q = 0; q < home.questions; q++) {
                boolean heard = !home.coughs(home.wet[reed], player, q);
                if (heard && (best == NONE || home.depth[q] > home.depth[best])) {
                    best = q;
                }
            }
            return best;
        }

        int changedNotes(Duchy home, int reed, int player, int answer) {
            int notes = 0;
            for (int q = 0; q < home.questions; q++) {
                int note = home.noteOf(reed, player, q);
                if (note != NONE && home.meaning(note) != answer) {
                    notes |= 1 << note;
                }
            }
            return Integer.bitCount(notes);
        }

        int leastChoir(Duchy home, int player) {
            for (int r = 0; r < home.reeds; r++) {
                sets[r] = heardQuestions(home, r, player);
            }
            int all = (1 << home.questions) - 1;
            int best = NONE;
            for (int reeds = 0; reeds < 1 << home.reeds; reeds++) {
                boolean fewer = best == NONE || Integer.bitCount(reeds) < Integer.bitCount(best);
                if (fewer && unionOf(home, reeds) == all) {
                    best = reeds;
                }
            }
            return best;
        }

        private int heardQuestions(Duchy home, int reed, int player) {
            int heard = 0;
            for (int q = 0; q < home.questions; q++) {
                if (!home.coughs(home.wet[reed], player, q)) {
                    heard |= 1 << q;
                }
            }
            return heard;
        }

        private int unionOf(Duchy home, int reeds) {
            int union = 0;
            for (int r = 0; r < home.reeds; r++) {
                if ((reeds >> r & 1) == 1) {
                    union |= sets[r];
                }
            }
            return union;
        }

        int mostPeaceful(Duchy home, int player) {
            for (int r = 0; r < home.reeds; r++) {
                sets[r] = foes(home, r, player);
            }
            int best = 0;
            for (int reeds = 0; reeds < 1 << home.reeds; reeds++) {
                boolean more = Integer.bitCount(reeds) > Integer.bitCount(best);
                if (more && (unionOf(home, reeds) & reeds) == 0) {
                    best = reeds;
                }
            }
            return best;
        }

        private int foes(Duchy home, int reed, int player) {
            int foes = 0;
            for (int q = 0; q < home.questions; q++) {
                int answer = home.answerOf(reed, player, q);
                for (int r = 0; r < home.reeds; r++) {
                    if (areOpposed(answer, home.answerOf(r, player, q))) {
                        foes |= 1 << r;
                    }
                }
            }
            return foes;
        }

        int marches(Duchy home, int question) {
            int marches = 0;
            for (int a = 0; a < home.reeds; a++) {
                for (int p = 0; p < home.players; p++) {
                    int answer = home.answerOf(a, p, question);
                    if (answer != NONE) {
                        marches += partners(home, a, p, question, answer);
                    }
                }
            }
            return marches;
        }

        private int partners(Duchy home, int reed, int player, int question, int answer) {
            int partners = 0;
            for (int b = reed + 1; b < home.reeds; b++) {
                for (int p = 0; p < home.players; p++) {
                    if (p != player && home.answerOf(b, p, question) == answer) {
                        partners++;
                    }
                }
            }
            return partners;
        }

        int triads(Duchy home, int player, int question) {
            Arrays.fill(heap, 0);
            for (int r = 0; r < home.reeds; r++) {
                addNote(home.noteOf(r, player, question));
            }
            int triads = 0;
            for (int n = 0; n < NOTES; n++) {
                triads += heap[n] * heap[(n + 2) % NOTES] * heap[(n + 4) % NOTES];
            }
            return triads;
        }

        int twinCouples(Duchy home) {
            int couples = 0;
            for (int a = 0; a < home.reeds; a++) {
                for (int b = a + 1; b < home.reeds; b++) {
                    if (areTwins(home, a, b)) {
                        couples++;
                    }
                }
            }
            return couples;
        }

        private static boolean areTwins(Duchy home, int a, int b) {
            for (int p = 0; p < home.players; p++) {
                for (int q = 0; q < home.questions; q++) {
                    if (home.noteOf(a, p, q) != home.noteOf(b, p, q)) {
                        return false;
                    }
                }
            }
            return true;
        }

        int cutsTo(Duchy home, int key) {
            int cuts = 0;
            for (int r = 0; r < home.reeds; r++) {
                cuts += (key + KEYS - home.key[r]) % KEYS;
            }
            return cuts;
        }

        int bestKey(Duchy home) {
            int best = 0;
            for (int key = 1; key < KEYS; key++) {
                if (cutsTo(home, key) < cutsTo(home, best)) {
                    best = key;
                }
            }
            return best;
        }

        /** Wants the notes of cold 0 gathered: colder by one, each of them is less by one, and coughs stay. */
        int answersIn(Duchy home, int cold, int answer) {
            int answers = 0;
            for (int n = 0; n < NOTES; n++) {
                if (home.means[n] == answer) {
                    answers += heap[(n + cold) % NOTES];
                }
            }
            return answers;
        }

        int fairestCold(Duchy home, int answer) {
            int best = 0;
            for (int cold = 1; cold < COLDS; cold++) {
                if (answersIn(home, cold, answer) > answersIn(home, best, answer)) {
                    best = cold;
                }
            }
            return best;
        }

        /**
         * All reeds rank the players alike, by breath. So the strongest keeps the first reed he asks for,
         * the next one the first of those that are left, and so on.
         */
        void shareOut(Duchy home) {
            Arrays.fill(owned, NONE);
            int served = 0;
            int taken = 0;
            for (int turn = 0; turn < home.players; turn++) {
                int player = strongest(home, served);
                int reed = mostHeard(home, taken, player);
                if (player == NONE || reed == NONE) {
                    return;
                }
                owned[player] = reed;
                served |= 1 << player;
                taken |= 1 << reed;
            }
        }

        private static int strongest(Duchy home, int served) {
            int best = NONE;
            for (int p = 0; p < home.players; p++) {
                boolean waits = (served >> p & 1) == 0;
                if (waits && (best == NONE || home.breath[p] > home.breath[best])) {
                    best = p;
                }
            }
            return best;
        }

        private int mostHeard(Duchy home, int taken, int player) {
            int best = NONE;
            int most = NONE;
            for (int r = 0; r < home.reeds && home.hasPlayer(player); r++) {
                int heard = Integer.bitCount(heardQuestions(home, r, player));
                if ((taken >> r & 1) == 0 && heard > most) {
                    most = heard;
                    best = r;
                }
            }
            return best;
        }

        int ownerOf(Duchy home, int reed) {
            for (int p = 0; p < home.players; p++) {
                if (owned[p] == reed) {
                    return p;
                }
            }
            return NONE;
        }

        int wettings(Duchy home, int reed) {
            int wet = home.wet[reed];
            for (int times = 0; times <= 3; times++) {
                if (neverCoughs(home, wet)) {
                    return times;
                }
                wet = wetted(wet);
            }
            return NONE;
        }

        private static boolean neverCoughs(Duchy home, int wet) {
            for (int p = 0; p < home.players; p++) {
                for (int q = 0; q < home.questions; q++) {
                    if (home.coughs(wet, p, q)) {
                        return false;
                    }
                }
            }
            return true;
        }

        int agreement(Duchy home, int reed, int question) {
            int most = 0;
            for (int answer = 0; answer < ANSWERS; answer++) {
                int players = 0;
                for (int p = 0; p < home.players; p++) {
                    if (home.answerOf(reed, p, question) == answer) {
                        players++;
                    }
                }
                most = Math.max(most, players);
            }
            return most;
        }

        int clearestReed(Duchy home, int question) {
            int best = NONE;
            int most = NONE;
            for (int r = 0; r < home.reeds; r++) {
                int players = agreement(home, r, question);
                if (players > most) {
                    most = players;
                    best = r;
                }
            }
            return best;
        }
    }
}
