import java.util.Arrays;
import java.util.NoSuchElementException;

/** One line in which a place is sold only to whoever stands right behind, who then stands ahead. */
public final class SoldToBehind {
    public static final int NONE = -1;

    private static final int MOST_PEOPLE = 9;
    private static final int MOST_PURSE = 999;
    private static final int MOST_LONG = 9;
    private static final int MOST_WORTH = 9999;
    private static final int MOST_TEXT = 80;
    private static final int MOST_TOWN_TEXT = 76;
    private static final int MOST_RULE_TEXT = 40;
    private static final int MOST_BRACKETS = 4;
    private static final int RULES = 4;
    private static final int MOST_RUN = 200;
    private static final int MOST_JUDGED = 8;
    private static final int MOST_UNDONE = 40;
    private static final int KEPT = 2;
    private static final int MOST_LINES = 2000;
    private static final int MOST_ORDERED = 7;

    private static final int CANNOT = -2;
    private static final int TOO_MANY = -3;
    private static final int MISSING = -3;
    private static final int NO_SUCH_RULE = -100;

    private static final int SORT = 0;
    private static final int FEE = 1;
    private static final int MOST = 2;
    private static final int FIRST = 3;
    private static final int[] LAW_LIMITS = {2, 99, 99, 9};
    private static final int[] MOSTS_TRIED = {0, 1, 2, 3, 99};
    private static final int FEES_TRIED = 9;

    private static final int FROM_FRONT = 0;
    private static final int FROM_BACK = 1;
    private static final int BY_DRAWS = 2;
    private static final int BY_SURPLUS = 3;

    private static final int BYTES = 0;
    private static final int SHORTS = 1;
    private static final int NO_SHEET = 3;

    private static final int[] TENS = {1, 10, 100, 1000, 10000, 100000, 1000000, 10000000, 100000000, 1000000000};

    private final Text text = new Text();
    private final Row told = new Row();
    private final Town town = new Town();
    private final TownReader townReader = new TownReader();
    private final RuleReader ruleReader = new RuleReader();
    private final Standing now = new Standing(town);
    private final Standing came = new Standing(town);
    private final Standing trial = new Standing(town);
    private final Past past = new Past();
    private final Orders orders = new Orders();
    private final Standing[] keptLines = new Standing[KEPT];
    private final Standing[] keptCame = new Standing[KEPT];
    private final int[] keptSeeds = new int[KEPT];
    private final int[] keptPeople = new int[KEPT];
    private int random = 1;
    // Made at its first use: most objects never ask for all lines, and it is large.
    private Reach reach = null;
    private boolean reachStands = false;

    public SoldToBehind() {
        for (int i = 0; i < KEPT; i++) {
            keptLines[i] = new Standing(town);
            keptCame[i] = new Standing(town);
            keptPeople[i] = NONE;
        }
    }

    // ---- the town

    public int sign(int v) {
        return text.join(v) ? text.size : NONE;
    }

    public boolean end(int n) {
        return text.cut(n);
    }

    public int town() {
        int wrong = townReader.read(text, town.people);
        text.cut(0);
        if (wrong != NONE) {
            return -1 - wrong;
        }
        if (townReader.lines == 0) {
            // Nothing is told of the town, so the line as it came stays; the call itself still forgets sales.
            past.forget();
            return 0;
        }
        for (int person = town.people; person < townReader.people; person++) {
            now.welcome(person, townReader.purse[person]);
        }
        now.stubborn |= townReader.stubborn;
        town.settle(townReader);
        beginAnew();
        return townReader.lines;
    }

    public int rule(int i) {
        boolean exists = i >= 0 && i < RULES;
        int wrong = exists ? ruleReader.read(text) : NONE;
        text.cut(0);
        if (!exists) {
            return NO_SUCH_RULE;
        }
        if (wrong != NONE) {
            return -1 - wrong;
        }
        town.rules[i].copy(ruleReader.draft);
        reachStands = false;
        return 0;
    }

    public int of(int person, int what) throws NoSuchElementException {
        if (!town.has(person) || what < 0 || what > 6) {
            throw new NoSuchElementException("none such");
        }
        switch (what) {
            case 0:
                return now.purse[person];
            case 1:
                return town.minutes[person];
            case 2:
                return town.ruleOf[person];
            case 3:
                return now.stubborn >> person & 1;
            case 4:
                return now.placeOf(person);
            case 5:
                return now.sales[person];
            default:
                return town.friends[person];
        }
    }

    public int law(int what, int v) {
        if (what < SORT || what > FIRST || v < 0 || v > LAW_LIMITS[what]) {
            return NONE;
        }
        int was = now.law[what];
        now.law[what] = v;
        reachStands = false;
        return was;
    }

    public int sheet(int kind, int n, int f, int step) {
        if (kind < BYTES || kind > NO_SHEET || n > MOST_PEOPLE) {
            return NONE;
        }
        if (kind != NO_SHEET && n < 0) {
            return CANNOT;
        }
        int entries = kind == NO_SHEET ? 0 : n;
        for (int person = 0; person < town.people; person++) {
            now.purse[person] = person < entries ? sheetEntry(kind, f + person * step) : 0;
        }
        reachStands = false;
        return kind == NO_SHEET ? MISSING : now.allPurses();
    }

    private static int sheetEntry(int kind, int whole) {
        int entry = kind == BYTES ? (byte) whole : kind == SHORTS ? (short) whole : whole;
        return Math.max(0, Math.min(MOST_PURSE, entry));
    }

    public boolean friend(int one, int other, boolean is) {
        if (!town.has(one) || !town.has(other) || one == other) {
            return false;
        }
        town.befriend(one, other, is);
        reachStands = false;
        return true;
    }

    public int slow(int person, int v) {
        if (!town.has(person) || v < 1 || v > MOST_LONG) {
            return NONE;
        }
        int was = town.minutes[person];
        town.minutes[person] = v;
        reachStands = false;
        return was;
    }

    public int comes(int person) {
        if (!town.has(person) || now.placeOf(person) != NONE) {
            return NONE;
        }
        now.insert(person, now.size);
        beginAnew();
        return now.size - 1;
    }

    public int serve(int n) {
        if (n < 0 || n > MOST_PEOPLE) {
            return NONE;
        }
        int served = Math.min(n, now.size);
        int worths = 0;
        int minutes = 0;
        for (int i = 0; i < served; i++) {
            int person = now.who[0];
            worths += now.worthAt(person, 0);
            minutes += town.minutes[person];
            now.dropFirst();
        }
        beginAnew();
        told.tell(worths, minutes);
        return served;
    }

    /** The line as it stands is the one that came: sales ahead of it can't be undone. */
    private void beginAnew() {
        came.copy(now);
        past.forget();
        reachStands = false;
    }

    // ---- sales

    public int worth(int person, int place) throws NoSuchElementException {
        if (now.placeOf(person) == NONE || place < 0 || place >= now.size) {
            throw new NoSuchElementException("not in the line, or no such place");
        }
        return now.worthAt(person, place);
    }

    public int can(int place) {
        if (!now.isSold(place)) {
            return NONE;
        }
        now.weighAll();
        told.tell(now.gain(place), now.loss(place));
        told.add(now.priceOf(place));
        return now.canBe(place) ? 1 : 0;
    }

    public int sell(int place) {
        if (!now.isSold(place)) {
            return NONE;
        }
        now.weighAll();
        return now.canBe(place) ? makeForGood(place) : CANNOT;
    }

    private int makeForGood(int place) {
        past.remember(now);
        reachStands = false;
        return now.make(place);
    }

    public int undo() {
        if (!past.recall(now)) {
            return NONE;
        }
        reachStands = false;
        return past.size;
    }

    public int judge(int n, int row) {
        if (n < 0 || n > MOST_JUDGED) {
            return NONE;
        }
        tryAnew();
        int paid = 0;
        int done = 0;
        for (; done < n; done++) {
            int place = row >>> 4 * done & 15;
            if (!trial.isSold(place) || !trial.canBe(place)) {
                break;
            }
            paid += trial.make(place) + trial.law[FEE];
        }
        told.tell(trial.code(), paid);
        return done == n ? CANNOT : done;
    }

    /** The line as it is, for sales that change nothing. */
    private void tryAnew() {
        now.weighAll();
        trial.copy(now);
    }

    public int run(int sort, int n) {
        if (sort < FROM_FRONT || sort > BY_SURPLUS || n < 0 || n > MOST_RUN) {
            return NONE;
        }
        now.weighAll();
        int paid = 0;
        int made = 0;
        for (; made < n; made++) {
            int place = sort == BY_DRAWS ? drawnPlace() : now.pick(sort);
            if (place == NONE) {
                break;
            }
            paid += makeForGood(place) + now.law[FEE];
        }
        told.tell(now.openPlaces() == 0 ? 1 : 0, paid);
        return made;
    }

    private int drawnPlace() {
        int open = now.openPlaces();
        int left = Integer.bitCount(open);
        if (left == 0) {
            return NONE;
        }
        random = random * 1103515245 + 12345;
        int skipped = (random >>> 16) % left;
        for (int place = 1; place < now.size; place++) {
            if ((open >> place & 1) == 1) {
                if (skipped == 0) {
                    return place;
                }
                skipped--;
            }
        }
        return NONE;
    }

    public int open() {
        now.weighAll();
        return now.openPlaces();
    }

    public int walls() {
        int passable = 0;
        int walls = 0;
        for (int place = 1; place < now.size; place++) {
            if (now.couldBe(place)) {
                passable |= 1 << place;
            } else {
                walls |= 1 << place;
            }
        }
        told.tell(passable, walls);
        return Integer.bitCount(passable);
    }

    // ---- what comes of it

    public int sum() {
        now.weighAll();
        told.clear();
        for (int place = 0; place < now.size; place++) {
            told.add(now.here[place]);
        }
        return now.total();
    }

    public int gained(int person) throws NoSuchElementException {
        if (now.placeOf(person) == NONE) {
            throw new NoSuchElementException("not in the line");
        }
        int byWorth = gainedWorth(person);
        int byPurse = gainedPurse(person);
        told.tell(byWorth, byPurse);
        return byWorth + byPurse;
    }

    private int gainedWorth(int person) {
        int sales = now.sales[person];
        int then = came.worthAfter(person, came.placeOf(person), sales);
        return now.worthAt(person, now.placeOf(person)) - then;
    }

    private int gainedPurse(int person) {
        return now.purse[person] - came.purse[person];
    }

    public int winner() {
        if (now.size == 0) {
            return CANNOT;
        }
        int winner = NONE;
        int most = 0;
        int others = 0;
        for (int place = 0; place < now.size; place++) {
            int person = now.who[place];
            int gain = gainedWorth(person) + gainedPurse(person);
            if (winner == NONE || gain > most) {
                winner = person;
                most = gain;
            }
            if (gain <= 0) {
                others++;
            }
        }
        told.tell(most, others);
        return winner;
    }

    public int forward(int person) {
        if (now.placeOf(person) == NONE) {
            return NONE;
        }
        tryAnew();
        int paid = trial.buyAhead(person);
        told.tell(paid, trial.purse[person]);
        return trial.placeOf(person);
    }

    public int back(int person) {
        if (now.placeOf(person) == NONE) {
            return NONE;
        }
        tryAnew();
        told.tell(trial.sellBack(person));
        return trial.placeOf(person);
    }

    public int stand(int person) {
        if (!town.has(person) || now.placeOf(person) != NONE) {
            return NONE;
        }
        int best = NONE;
        int most = 0;
        int reached = 0;
        for (int place = 0; place <= now.size; place++) {
            trial.copy(now);
            trial.insert(person, place);
            trial.weighAll();
            int got = trial.sellBack(person);
            if (best == NONE || got >= most) {
                best = place;
                most = got;
                reached = trial.placeOf(person);
            }
        }
        told.tell(most, reached);
        return best;
    }

    public int needs(int person) {
        if (now.placeOf(person) == NONE) {
            return NONE;
        }
        now.weighAll();
        int purse = leastPurse(person);
        if (purse == NONE) {
            return CANNOT;
        }
        int paid = purse - trial.purse[person];
        told.tell(paid);
        return town.asksPurse(person) ? purse : paid;
    }

    /** If what a place is worth to one hangs not on its purse, the fullest purse tells all by what is paid of it. */
    private int leastPurse(int person) {
        for (int purse = town.asksPurse(person) ? 0 : MOST_PURSE; purse <= MOST_PURSE; purse++) {
            trial.copy(now);
            trial.purse[person] = purse;
            trial.weigh(person);
            trial.buyAhead(person);
            if (trial.who[0] == person) {
                return purse;
            }
        }
        return NONE;
    }

    // ---- all lines that can come

    /** All lines that can come from now on, or null if they are too many. */
    private Reach allLines() {
        if (reach == null) {
            reach = new Reach(town);
        }
        if (!reachStands) {
            reach.explore(now);
            reachStands = true;
        }
        return reach.whole ? reach : null;
    }

    public int lines() {
        Reach all = allLines();
        if (all == null) {
            return TOO_MANY;
        }
        all.tellRests(told);
        return all.count;
    }

    public int cheapest(long code) {
        if (!now.isOrder(code)) {
            return NONE;
        }
        Reach all = allLines();
        if (all == null) {
            return TOO_MANY;
        }
        int end = all.cheapestEnd(code);
        if (end == NONE) {
            return CANNOT;
        }
        all.tellSales(end, told);
        return all.paid[end];
    }

    public long paths(long code) {
        if (!now.isOrder(code)) {
            return NONE;
        }
        Reach all = allLines();
        if (all == null) {
            return TOO_MANY;
        }
        if (!all.holds(code)) {
            return CANNOT;
        }
        all.countWays();
        told.tell(all.waysToRest());
        return all.waysTo(code);
    }

    public int ends(int person) {
        if (now.placeOf(person) == NONE) {
            return NONE;
        }
        Reach all = allLines();
        return all == null ? TOO_MANY : all.endsOf(person, told);
    }

    public int foremost(int person) {
        if (now.placeOf(person) == NONE) {
            return NONE;
        }
        Reach all = allLines();
        return all == null ? TOO_MANY : all.foremostOf(person, told);
    }

    public int finest() {
        Reach all = allLines();
        if (all == null) {
            return TOO_MANY;
        }
        int finest = all.finestRest();
        told.tell(all.store.code[finest]);
        return all.total[finest];
    }

    public int rises() {
        Reach all = allLines();
        return all == null ? TOO_MANY : all.tellFall(told) ? 0 : 1;
    }

    // ---- all orders of those in the line

    public long order() {
        if (now.size > MOST_ORDERED) {
            return TOO_MANY;
        }
        orders.list(now, false, NONE);
        told.tell(orders.bestCode);
        return orders.best;
    }

    public int rests() {
        if (now.size > MOST_ORDERED) {
            return TOO_MANY;
        }
        orders.list(now, true, NONE);
        told.clear();
        if (orders.found > 0) {
            told.tell(orders.leastCode, orders.best);
        }
        return orders.found;
    }

    public int places(int person) {
        if (now.placeOf(person) == NONE) {
            return NONE;
        }
        if (now.size > MOST_ORDERED) {
            return TOO_MANY;
        }
        orders.list(now, true, person);
        if (orders.found == 0) {
            return 0;
        }
        int often = orders.oftenest();
        told.tell(often, orders.tally[often]);
        return orders.tallied();
    }

    // ---- laws

    private static boolean isSteady(int run) {
        return run == FROM_FRONT || run == FROM_BACK || run == BY_SURPLUS;
    }

    public int best(int run) {
        if (!isSteady(run)) {
            return NONE;
        }
        now.weighAll();
        int laws = 3 * (FEES_TRIED + 1) * MOSTS_TRIED.length;
        int first = 0;
        int most = playUnder(0, run);
        for (int law = 1; law < laws; law++) {
            int sum = playUnder(law, run);
            if (sum > most) {
                most = sum;
                first = law;
            }
        }
        playUnder(first, run);
        told.tell(trial.law[SORT], trial.law[FEE]);
        told.add(trial.law[MOST]);
        return most;
    }

    /** What all places are worth behind a run by the law of a number: by sort, then fee, then most. */
    private int playUnder(int law, int run) {
        int mosts = MOSTS_TRIED.length;
        int sorted = law / mosts;
        trial.copy(now);
        trial.law[MOST] = MOSTS_TRIED[law % mosts];
        trial.law[FEE] = sorted % (FEES_TRIED + 1);
        trial.law[SORT] = sorted / (FEES_TRIED + 1);
        trial.play(run);
        return trial.total();
    }

    /** How many sales a run makes with a fee. */
    private int salesAt(int fee, int run) {
        trial.copy(now);
        trial.law[FEE] = fee;
        return trial.play(run);
    }

    public int bear(int run) {
        if (!isSteady(run)) {
            return NONE;
        }
        now.weighAll();
        int free = salesAt(0, run);
        int fee = LAW_LIMITS[FEE];
        while (fee > 0 && salesAt(fee, run) != free) {
            fee--;
        }
        told.tell(free, fee * free);
        return fee;
    }

    public int tax(int run) {
        if (!isSteady(run)) {
            return NONE;
        }
        now.weighAll();
        int best = 0;
        int sales = salesAt(0, run);
        for (int fee = 1; fee <= LAW_LIMITS[FEE]; fee++) {
            int made = salesAt(fee, run);
            if (fee * made > best * sales) {
                best = fee;
                sales = made;
            }
        }
        told.tell(best * sales, sales);
        return best;
    }

    public int turned(int person, int run) {
        if (!isSteady(run) || now.placeOf(person) == NONE) {
            return NONE;
        }
        tryAnew();
        trial.play(run);
        int asItIs = trial.total();
        trial.copy(now);
        trial.stubborn ^= 1 << person;
        trial.play(run);
        return trial.total() - asItIs;
    }

    // ---- kept

    public int seed(int v) {
        int was = random;
        random = v;
        return was;
    }

    public boolean keep(int i) {
        if (i < 0 || i >= KEPT) {
            return false;
        }
        keptLines[i].copy(now);
        keptCame[i].copy(came);
        keptSeeds[i] = random;
        keptPeople[i] = town.people;
        return true;
    }

    public boolean again(int i) {
        if (i < 0 || i >= KEPT || keptPeople[i] != town.people) {
            return false;
        }
        now.copy(keptLines[i]);
        came.copy(keptCame[i]);
        random = keptSeeds[i];
        past.forget();
        reachStands = false;
        return true;
    }

    public int count(int what) {
        switch (what) {
            case 0:
                return town.people;
            case 1:
                return now.size;
            case 2:
                return past.size;
            case 3:
                return town.rulesTold();
            case 4:
                return now.allPurses();
            case 5:
                return told.size;
            case 6:
                return text.size;
            default:
                return NONE;
        }
    }

    public long line() {
        return now.code();
    }

    public long row(int i) throws NoSuchElementException {
        if (i < 0 || i >= told.size) {
            throw new NoSuchElementException("no such number of the row");
        }
        return told.numbers[i];
    }

    private static boolean isDigit(int sign) {
        return sign >= '0' && sign <= '9';
    }

    /** THE TEXT. */
    private static final class Text {
        final int[] signs = new int[MOST_TEXT];
        int size = 0;

        boolean join(int four) {
            if (size + 4 > MOST_TEXT) {
                return false;
            }
            for (int shift = 24; shift >= 0; shift -= 8) {
                signs[size] = four >>> shift & 255;
                size++;
            }
            return true;
        }

        boolean cut(int n) {
            if (n < 0 || n > size) {
                return false;
            }
            size = n;
            return true;
        }
    }

    /** THE ROW: numbers told last. */
    private static final class Row {
        final long[] numbers = new long[MOST_PEOPLE];
        int size = 0;

        void clear() {
            size = 0;
        }

        void add(long number) {
            if (size < MOST_PEOPLE) {
                numbers[size] = number;
                size++;
            }
        }

        void tell(long only) {
            size = 0;
            add(only);
        }

        void tell(long first, long second) {
            size = 0;
            add(first);
            add(second);
        }
    }

    /** A RULE as steps on a stack: numbers, signs, operations behind what they work on. */
    private static final class Formula {
        static final int SIGNS_FROM = 1000;
        static final int OPERATIONS_FROM = 2000;
        // Beyond every sign that a text can have, so that none of them is taken for it.
        static final int NEGATE = 256;

        final int[] steps = new int[MOST_RULE_TEXT];
        int size = 0;

        void copy(Formula other) {
            System.arraycopy(other.steps, 0, steps, 0, MOST_RULE_TEXT);
            size = other.size;
        }

        void add(int step) {
            if (size < MOST_RULE_TEXT) {
                steps[size] = step;
                size++;
            }
        }

        void lengthenNumber(int digit) {
            if (size > 0) {
                steps[size - 1] = steps[size - 1] * 10 + digit;
            }
        }

        boolean asks(int sign) {
            for (int i = 0; i < size; i++) {
                if (steps[i] == SIGNS_FROM + sign) {
                    return true;
                }
            }
            return false;
        }

        /** The stack has room for all steps; the guards hold for any row of steps. */
        int valueOf(int[] signs, int[] stack) {
            int top = 0;
            for (int i = 0; i < size; i++) {
                int step = steps[i];
                if (step < SIGNS_FROM) {
                    stack[top] = step;
                    top++;
                } else if (step < OPERATIONS_FROM) {
                    stack[top] = signs[step - SIGNS_FROM];
                    top++;
                } else if (step == OPERATIONS_FROM + NEGATE) {
                    if (top > 0) {
                        stack[top - 1] = -stack[top - 1];
                    }
                } else if (top > 1) {
                    top--;
                    stack[top - 1] = combined(step - OPERATIONS_FROM, stack[top - 1], stack[top]);
                }
            }
            return top == 0 ? 0 : stack[0];
        }

        private static int combined(int operation, int left, int right) {
            switch (operation) {
                case '+':
                    return left + right;
                case '-':
                    return left - right;
                case '*':
                    return left * right;
                case '/':
                    return right == 0 ? 0 : left / right;
                case '<':
                    return left < right ? 1 : 0;
                case '>':
                    return left > right ? 1 : 0;
                default:
                    return left == right ? 1 : 0;
            }
        }
    }

    /** Reads THE TEXT as a RULE, sign by sign: what can't stand where it is stops it. */
    private static final class RuleReader {
        private static final String SIGNS = "tpnliqk";
        private static final int COMPARING = 1;
        private static final int ADDING = 2;
        private static final int MULTIPLYING = 3;
        private static final int NEGATING = 4;

        final Formula draft = new Formula();
        private final int[] waiting = new int[MOST_RULE_TEXT];
        private int waits = 0;
        private int depth = 0;
        private int compared = 0;
        private int digits = 0;
        private boolean wantsThing = true;

        /** Where the first sign is that can't stand there; NONE: it is a RULE, or empty. */
        int read(Text text) {
            draft.size = 0;
            waits = 0;
            depth = 0;
            compared = 0;
            digits = 0;
            wantsThing = true;
            int limit = Math.min(text.size, MOST_RULE_TEXT);
            for (int i = 0; i < limit; i++) {
                boolean stands = wantsThing ? takesThing(text.signs[i]) : takesBehindThing(text.signs[i]);
                if (!stands) {
                    return i;
                }
            }
            if (text.size > MOST_RULE_TEXT) {
                return MOST_RULE_TEXT;
            }
            if (text.size > 0 && (wantsThing || depth > 0)) {
                return text.size;
            }
            settle(COMPARING);
            return NONE;
        }

        private boolean takesThing(int sign) {
            if (sign == '-') {
                push(Formula.NEGATE);
                return true;
            }
            if (sign == '(') {
                return opens();
            }
            int known = SIGNS.indexOf((char) sign);
            if (known < 0 && !isDigit(sign)) {
                return false;
            }
            draft.add(known < 0 ? sign - '0' : Formula.SIGNS_FROM + known);
            digits = known < 0 ? 1 : 0;
            wantsThing = false;
            return true;
        }

        private boolean opens() {
            if (depth == MOST_BRACKETS) {
                return false;
            }
            depth++;
            compared &= ~(1 << depth);
            push('(');
            return true;
        }

        private boolean takesBehindThing(int sign) {
            if (isDigit(sign)) {
                return lengthens(sign - '0');
            }
            digits = 0;
            if (sign == ')') {
                return closes();
            }
            int rank = rankOf(sign);
            if (rank == 0 || rank == COMPARING && (compared >> depth & 1) == 1) {
                return false;
            }
            if (rank == COMPARING) {
                compared |= 1 << depth;
            }
            settle(rank);
            push(sign);
            wantsThing = true;
            return true;
        }

        private boolean lengthens(int digit) {
            if (digits == 0 || digits == 3) {
                return false;
            }
            draft.lengthenNumber(digit);
            digits++;
            return true;
        }

        private boolean closes() {
            if (depth == 0) {
                return false;
            }
            settle(COMPARING);
            waits--;
            depth--;
            return true;
        }

        private void push(int operation) {
            if (waits < MOST_RULE_TEXT) {
                waiting[waits] = operation;
                waits++;
            }
        }

        /** What waits and binds as much or more is worked out first; a bracket stops it. */
        private void settle(int rank) {
            while (waits > 0 && rankOf(waiting[waits - 1]) >= rank) {
                waits--;
                draft.add(Formula.OPERATIONS_FROM + waiting[waits]);
            }
        }

        private static int rankOf(int operation) {
            switch (operation) {
                case '<':
                case '>':
                case '=':
                    return COMPARING;
                case '+':
                case '-':
                    return ADDING;
                case '*':
                case '/':
                    return MULTIPLYING;
                case Formula.NEGATE:
                    return NEGATING;
                default:
                    return 0;
            }
        }
    }

    /** Reads THE TEXT as lines of THE TOWN, sign by sign; what it tells is taken only if all of it can be. */
    private static final class TownReader {
        private static final int AT_START = 0;
        private static final int IN_PURSE = 1;
        private static final int AT_LONG = 2;
        private static final int BEHIND_LONG = 3;
        private static final int AT_RULE = 4;
        private static final int BEHIND_RULE = 5;
        private static final int BEHIND_ALL = 6;
        private static final int AT_ONE = 7;
        private static final int BEHIND_ONE = 8;
        private static final int AT_OTHER = 9;

        final int[] purse = new int[MOST_PEOPLE];
        final int[] minutes = new int[MOST_PEOPLE];
        final int[] ruleOf = new int[MOST_PEOPLE];
        final int[] friends = new int[MOST_PEOPLE];
        int stubborn = 0;
        int people = 0;
        int lines = 0;
        private int state = AT_START;
        private int digits = 0;
        private int one = 0;

        /** Where the first sign is that can't stand there; NONE: it tells of THE TOWN, or is empty. */
        int read(Text text, int present) {
            Arrays.fill(friends, 0);
            stubborn = 0;
            people = present;
            lines = text.size == 0 ? 0 : 1;
            state = AT_START;
            int limit = Math.min(text.size, MOST_TOWN_TEXT);
            for (int i = 0; i < limit; i++) {
                if (!takes(text.signs[i])) {
                    return i;
                }
            }
            if (text.size > MOST_TOWN_TEXT) {
                return MOST_TOWN_TEXT;
            }
            boolean canEnd = text.size == 0 || state == BEHIND_RULE || state == BEHIND_ALL;
            return canEnd ? NONE : text.size;
        }

        private boolean takes(int sign) {
            switch (state) {
                case AT_START:
                    return sign == 'f' ? goes(AT_ONE) : takesFirstDigit(sign);
                case IN_PURSE:
                    return sign == ',' ? goes(AT_LONG) : takesPurseDigit(sign);
                case AT_LONG:
                    return takesLong(sign);
                case BEHIND_LONG:
                    return sign == ',' && goes(AT_RULE);
                case AT_RULE:
                    return takesRule(sign);
                case BEHIND_RULE:
                    return sign == '!' ? takesStubborn() : sign == ';' && nextLine();
                case BEHIND_ALL:
                    return sign == ';' && nextLine();
                case AT_ONE:
                    return takesOne(sign);
                case BEHIND_ONE:
                    return sign == '-' && goes(AT_OTHER);
                default:
                    return takesOther(sign);
            }
        }

        private boolean goes(int next) {
            state = next;
            return true;
        }

        private boolean nextLine() {
            lines++;
            return goes(AT_START);
        }

        private boolean takesFirstDigit(int sign) {
            if (!isDigit(sign) || people >= MOST_PEOPLE) {
                return false;
            }
            purse[people] = sign - '0';
            digits = 1;
            return goes(IN_PURSE);
        }

        private boolean takesPurseDigit(int sign) {
            if (!isDigit(sign) || digits == 3) {
                return false;
            }
            purse[people] = purse[people] * 10 + sign - '0';
            digits++;
            return true;
        }

        private boolean takesLong(int sign) {
            if (!isDigit(sign) || sign == '0') {
                return false;
            }
            minutes[people] = sign - '0';
            return goes(BEHIND_LONG);
        }

        private boolean takesRule(int sign) {
            if (!isDigit(sign) || sign - '0' >= RULES) {
                return false;
            }
            ruleOf[people] = sign - '0';
            people++;
            return goes(BEHIND_RULE);
        }

        private boolean takesStubborn() {
            stubborn |= 1 << people - 1;
            return goes(BEHIND_ALL);
        }

        private boolean takesOne(int sign) {
            if (!isDigit(sign) || sign - '0' >= people) {
                return false;
            }
            one = sign - '0';
            return goes(BEHIND_ONE);
        }

        private boolean takesOther(int sign) {
            int other = sign - '0';
            if (!isDigit(sign) || other >= people || other == one) {
                return false;
            }
            friends[one] |= 1 << other;
            friends[other] |= 1 << one;
            return goes(BEHIND_ALL);
        }
    }

    /** What no sale changes: how long people take, their rules and friends. */
    private static final class Town {
        private static final int PURSE_SIGN = 5;
        private static final int SIGNS = 7;

        final int[] minutes = new int[MOST_PEOPLE];
        final int[] ruleOf = new int[MOST_PEOPLE];
        final int[] friends = new int[MOST_PEOPLE];
        final Formula[] rules = new Formula[RULES];
        int people = 0;
        private final int[] signs = new int[SIGNS];
        private final int[] stack = new int[MOST_RULE_TEXT];

        Town() {
            for (int i = 0; i < RULES; i++) {
                rules[i] = new Formula();
            }
        }

        boolean has(int person) {
            return person >= 0 && person < people;
        }

        void settle(TownReader read) {
            for (int person = people; person < read.people; person++) {
                minutes[person] = read.minutes[person];
                ruleOf[person] = read.ruleOf[person];
            }
            people = read.people;
            for (int person = 0; person < people; person++) {
                friends[person] |= read.friends[person];
            }
        }

        void befriend(int one, int other, boolean is) {
            friends[one] = is ? friends[one] | 1 << other : friends[one] & ~(1 << other);
            friends[other] = is ? friends[other] | 1 << one : friends[other] & ~(1 << one);
        }

        int rulesTold() {
            int bits = 0;
            for (int i = 0; i < RULES; i++) {
                if (rules[i].size > 0) {
                    bits |= 1 << i;
                }
            }
            return bits;
        }

        boolean asksPurse(int person) {
            return rules[ruleOf[person]].asks(PURSE_SIGN);
        }

        int worthOf(int person, int place, int ahead, int size, int purse, int sales) {
            signs[0] = ahead;
            signs[1] = place;
            signs[2] = size;
            signs[3] = minutes[person];
            signs[4] = person;
            signs[PURSE_SIGN] = purse;
            signs[6] = sales;
            int value = rules[ruleOf[person]].valueOf(signs, stack);
            return Math.max(-MOST_WORTH, Math.min(MOST_WORTH, value));
        }
    }

    /** A line with purses, sales and the law: all that sales look at and change. */
    private static final class Standing {
        final int[] who = new int[MOST_PEOPLE];
        final int[] purse = new int[MOST_PEOPLE];
        final int[] sales = new int[MOST_PEOPLE];
        final int[] law = {0, 0, 99, 0};
        int size = 0;
        int stubborn = 0;
        // What its own place, the one ahead and the one behind are worth to who stands at a place.
        final int[] here = new int[MOST_PEOPLE];
        private final int[] ahead = new int[MOST_PEOPLE];
        private final int[] behind = new int[MOST_PEOPLE];
        final Town town;

        Standing(Town town) {
            this.town = town;
        }

        void copy(Standing other) {
            System.arraycopy(other.who, 0, who, 0, MOST_PEOPLE);
            System.arraycopy(other.purse, 0, purse, 0, MOST_PEOPLE);
            System.arraycopy(other.sales, 0, sales, 0, MOST_PEOPLE);
            System.arraycopy(other.law, 0, law, 0, law.length);
            System.arraycopy(other.here, 0, here, 0, MOST_PEOPLE);
            System.arraycopy(other.ahead, 0, ahead, 0, MOST_PEOPLE);
            System.arraycopy(other.behind, 0, behind, 0, MOST_PEOPLE);
            size = other.size;
            stubborn = other.stubborn;
        }

        void welcome(int person, int coins) {
            purse[person] = coins;
            insert(person, size);
        }

        void insert(int person, int place) {
            if (size >= MOST_PEOPLE) {
                return;
            }
            for (int i = size; i > place; i--) {
                who[i] = who[i - 1];
            }
            who[place] = person;
            size++;
        }

        void dropFirst() {
            for (int i = 1; i < size; i++) {
                who[i - 1] = who[i];
            }
            if (size > 0) {
                size--;
            }
        }

        int placeOf(int person) {
            for (int place = 0; place < size; place++) {
                if (who[place] == person) {
                    return place;
                }
            }
            return NONE;
        }

        int allPurses() {
            int sum = 0;
            for (int coins : purse) {
                sum += coins;
            }
            return sum;
        }

        long code() {
            long code = 1;
            for (int place = 0; place < size; place++) {
                code = code * 10 + who[place];
            }
            return code;
        }

        boolean isOrder(long code) {
            if (code / TENS[size] != 1) {
                return false;
            }
            int seen = 0;
            long rest = code;
            for (int i = 0; i < size; i++) {
                int person = (int) (rest % 10);
                if (placeOf(person) == NONE || (seen >> person & 1) == 1) {
                    return false;
                }
                seen |= 1 << person;
                rest /= 10;
            }
            return true;
        }

        int worthAt(int person, int place) {
            return worthAfter(person, place, sales[person]);
        }

        /** What a place is worth to one after so many sales. */
        int worthAfter(int person, int place, int made) {
            int minutes = 0;
            int others = 0;
            for (int i = 0; i < size && others < place; i++) {
                if (who[i] != person) {
                    minutes += town.minutes[who[i]];
                    others++;
                }
            }
            return town.worthOf(person, place, minutes, size, purse[person], made);
        }

        /** What a place is worth to one if those ahead take so many minutes. */
        int worthOfSet(int person, int place, int minutes) {
            return town.worthOf(person, place, minutes, size, purse[person], sales[person]);
        }

        private int minutesAhead(int place) {
            int minutes = 0;
            for (int i = 0; i < place; i++) {
                minutes += town.minutes[who[i]];
            }
            return minutes;
        }

        void weighAll() {
            int minutes = 0;
            for (int place = 0; place < size; place++) {
                weighHere(place, minutes);
                weighAhead(place, minutes);
                weighBehind(place, minutes);
                minutes += town.minutes[who[place]];
            }
        }

        void weigh(int person) {
            int place = placeOf(person);
            int minutes = minutesAhead(place);
            weighHere(place, minutes);
            weighAhead(place, minutes);
            weighBehind(place, minutes);
        }

        private void weighHere(int place, int minutes) {
            if (place >= 0 && place < size) {
                int person = who[place];
                here[place] = town.worthOf(person, place, minutes, size, purse[person], sales[person]);
            }
        }

        private void weighAhead(int place, int minutes) {
            if (place >= 1 && place < size) {
                int person = who[place];
                int before = minutes - town.minutes[who[place - 1]];
                ahead[place] = town.worthOf(person, place - 1, before, size, purse[person], sales[person]);
            }
        }

        private void weighBehind(int place, int minutes) {
            if (place >= 0 && place < size - 1) {
                int person = who[place];
                int later = minutes + town.minutes[who[place + 1]];
                behind[place] = town.worthOf(person, place + 1, later, size, purse[person], sales[person]);
            }
        }

        int total() {
            int sum = 0;
            for (int place = 0; place < size; place++) {
                sum += here[place];
            }
            return sum;
        }

        boolean isSold(int place) {
            return place >= 1 && place < size;
        }

        int gain(int place) {
            return ahead[place] - here[place];
        }

        int loss(int place) {
            return here[place - 1] - behind[place - 1];
        }

        int priceOf(int place) {
            return price(who[place], who[place - 1], gain(place), loss(place));
        }

        private int price(int buyer, int seller, int gain, int loss) {
            if ((town.friends[buyer] >> seller & 1) == 1) {
                return 0;
            }
            int asked = law[SORT] == 0 ? loss : law[SORT] == 1 ? (loss + gain) / 2 : gain;
            return Math.max(0, asked);
        }

        boolean canBe(int place) {
            int buyer = who[place];
            int seller = who[place - 1];
            return isAllowed(place, buyer, seller) && isPaid(buyer, seller, gain(place), loss(place), purse[buyer]);
        }

        private boolean isAllowed(int place, int buyer, int seller) {
            return place > law[FIRST] && (stubborn >> seller & 1) == 0
                    && sales[buyer] < law[MOST] && sales[seller] < law[MOST];
        }

        private boolean isPaid(int buyer, int seller, int gain, int loss, int coins) {
            int paid = price(buyer, seller, gain, loss) + law[FEE];
            return gain > loss && gain >= paid && coins >= paid;
        }

        /** Whether a sale can be of a place at which others stand than now. */
        boolean couldSell(int place, int buyer, int seller, int gain, int loss) {
            return isAllowed(place, buyer, seller) && isPaid(buyer, seller, gain, loss, purse[buyer]);
        }

        /** Whether a sale could be with some purses: the least loss is the best for every law of price. */
        boolean couldBe(int place) {
            int buyer = who[place];
            int seller = who[place - 1];
            if (!isAllowed(place, buyer, seller)) {
                return false;
            }
            int loss = leastLoss(place);
            int ahead = minutesAhead(place - 1);
            int behind = minutesAhead(place);
            int least = town.asksPurse(buyer) ? 0 : MOST_PURSE;
            for (int coins = MOST_PURSE; coins >= least; coins--) {
                int gain = town.worthOf(buyer, place - 1, ahead, size, coins, sales[buyer])
                        - town.worthOf(buyer, place, behind, size, coins, sales[buyer]);
                if (isPaid(buyer, seller, gain, loss, coins)) {
                    return true;
                }
            }
            return false;
        }

        private int leastLoss(int place) {
            int seller = who[place - 1];
            int ahead = minutesAhead(place - 1);
            int behind = ahead + town.minutes[who[place]];
            int richest = town.asksPurse(seller) ? MOST_PURSE : 0;
            int least = 2 * MOST_WORTH;
            for (int coins = 0; coins <= richest; coins++) {
                int loss = town.worthOf(seller, place - 1, ahead, size, coins, sales[seller])
                        - town.worthOf(seller, place, behind, size, coins, sales[seller]);
                least = Math.min(least, loss);
            }
            return least;
        }

        int openPlaces() {
            int bits = 0;
            for (int place = 1; place < size; place++) {
                if (canBe(place)) {
                    bits |= 1 << place;
                }
            }
            return bits;
        }

        /**
         * A sale that can be is made: its price. The two who change their places weigh all anew, and next to them
         * one weighs what is behind, the other what is ahead.
         */
        int make(int place) {
            int price = priceOf(place);
            exchange(place, price);
            int first = minutesAhead(place - 1);
            int second = first + town.minutes[who[place - 1]];
            weighHere(place - 1, first);
            weighAhead(place - 1, first);
            weighBehind(place - 1, first);
            weighHere(place, second);
            weighAhead(place, second);
            weighBehind(place, second);
            weighAhead(place + 1, second + town.minutes[who[place]]);
            if (place >= 2) {
                weighBehind(place - 2, first - town.minutes[who[place - 2]]);
            }
            return price;
        }

        private void exchange(int place, int price) {
            int buyer = who[place];
            int seller = who[place - 1];
            purse[buyer] -= price + law[FEE];
            purse[seller] = Math.min(MOST_PURSE, purse[seller] + price);
            sales[buyer]++;
            sales[seller]++;
            who[place - 1] = buyer;
            who[place] = seller;
        }

        int pick(int sort) {
            int picked = NONE;
            for (int place = 1; place < size; place++) {
                if (canBe(place) && (picked == NONE || isPreferred(place, picked, sort))) {
                    picked = place;
                }
            }
            return picked;
        }

        private boolean isPreferred(int later, int picked, int sort) {
            if (sort == BY_SURPLUS) {
                return gain(later) - loss(later) > gain(picked) - loss(picked);
            }
            return sort == FROM_BACK;
        }

        int play(int sort) {
            for (int made = 0; made < MOST_RUN; made++) {
                int place = pick(sort);
                if (place == NONE) {
                    return made;
                }
                make(place);
            }
            return MOST_RUN;
        }

        int buyAhead(int person) {
            int paid = 0;
            for (int place = placeOf(person); place > 0 && canBe(place); place--) {
                paid += make(place) + law[FEE];
            }
            return paid;
        }

        int sellBack(int person) {
            int got = 0;
            for (int place = placeOf(person) + 1; place > 0 && place < size && canBe(place); place++) {
                got += make(place);
            }
            return got;
        }
    }

    /** Lines with purses and sales, packed: one behind the other in rows of numbers. */
    private static final class Packed {
        private static final int PURSE_BITS = 10;
        private static final int SALES_BITS = 7;
        private static final int LOW_PURSES = 6;
        private static final long MIX = 0x9E3779B97F4A7C15L;

        final int[] code;
        private final long[] low;
        private final long[] high;
        private final long[] sales;

        Packed(int room) {
            code = new int[room];
            low = new long[room];
            high = new long[room];
            sales = new long[room];
        }

        void put(int slot, Standing line) {
            code[slot] = (int) line.code();
            low[slot] = 0;
            high[slot] = 0;
            sales[slot] = 0;
            for (int person = 0; person < MOST_PEOPLE; person++) {
                addPurse(slot, person, line.purse[person]);
                addSales(slot, person, line.sales[person]);
            }
        }

        void take(int slot, Standing line) {
            int rest = code[slot];
            for (int place = line.size - 1; place >= 0; place--) {
                line.who[place] = rest % 10;
                rest /= 10;
            }
            for (int person = 0; person < MOST_PEOPLE; person++) {
                line.purse[person] = purseOf(slot, person);
                line.sales[person] = (int) (sales[slot] >> SALES_BITS * person) & 127;
            }
        }

        void duplicate(int slot, int to) {
            code[to] = code[slot];
            low[to] = low[slot];
            high[to] = high[slot];
            sales[to] = sales[slot];
        }

        void addPurse(int slot, int person, int coins) {
            if (person < LOW_PURSES) {
                low[slot] += (long) coins << PURSE_BITS * person;
            } else {
                high[slot] += (long) coins << PURSE_BITS * (person - LOW_PURSES);
            }
        }

        void addSales(int slot, int person, int more) {
            sales[slot] += (long) more << SALES_BITS * person;
        }

        int purseOf(int slot, int person) {
            long packed = person < LOW_PURSES ? low[slot] >> PURSE_BITS * person
                    : high[slot] >> PURSE_BITS * (person - LOW_PURSES);
            return (int) packed & 1023;
        }

        boolean isSame(int slot, int other) {
            return code[slot] == code[other] && low[slot] == low[other]
                    && high[slot] == high[other] && sales[slot] == sales[other];
        }

        int hash(int slot, int bits) {
            long mixed = ((code[slot] * MIX + low[slot]) * MIX + high[slot]) * MIX + sales[slot];
            return (int) (mixed * MIX >>> 64 - bits);
        }

        int hashOfCode(int slot, int bits) {
            return (int) (code[slot] * MIX >>> 64 - bits);
        }
    }

    /** The lines ahead of the latest sales, to undo them. */
    private static final class Past {
        private final Packed lines = new Packed(MOST_UNDONE);
        private int oldest = 0;
        int size = 0;

        void forget() {
            size = 0;
        }

        void remember(Standing line) {
            if (size == MOST_UNDONE) {
                oldest = (oldest + 1) % MOST_UNDONE;
                size--;
            }
            lines.put((oldest + size) % MOST_UNDONE, line);
            size++;
        }

        boolean recall(Standing line) {
            if (size == 0) {
                return false;
            }
            size--;
            lines.take((oldest + size) % MOST_UNDONE, line);
            return true;
        }
    }

    /**
     * All lines that can come, with purses and sales. A sale makes the sales of two more, so a line always comes by
     * equally many sales, and none comes ahead of one that leads to it.
     */
    private static final class Reach {
        private static final int TABLE_BITS = 12;
        private static final int TABLE = 1 << TABLE_BITS;
        private static final int WAYS_OUT = MOST_PEOPLE - 1;
        private static final int NEXT_BITS = 11;
        private static final int NEXT_MASK = (1 << NEXT_BITS) - 1;

        final Packed store = new Packed(MOST_LINES + 1);
        final int[] total = new int[MOST_LINES];
        final int[] paid = new int[MOST_LINES];
        int count = 0;
        boolean whole = false;
        private final int[] depth = new int[MOST_LINES + 1];
        private final boolean[] rest = new boolean[MOST_LINES];
        // By line and place: what is paid for it and the line that comes of it; NONE where no sale can be.
        private final int[] out = new int[MOST_LINES * WAYS_OUT];
        private final int[] from = new int[MOST_LINES];
        private final int[] by = new int[MOST_LINES];
        private final long[] ways = new long[MOST_LINES];
        private final int[] table = new int[TABLE];
        private final Standing scene;

        Reach(Town town) {
            scene = new Standing(town);
        }

        void explore(Standing start) {
            scene.copy(start);
            Arrays.fill(table, 0);
            store.put(0, start);
            depth[0] = 0;
            count = 0;
            indexOf(0);
            whole = true;
            for (int line = 0; line < MOST_LINES && line < count && whole; line++) {
                store.take(line, scene);
                scene.weighAll();
                expand(line);
            }
        }

        private void expand(int line) {
            total[line] = scene.total();
            rest[line] = true;
            for (int place = 1; place <= WAYS_OUT; place++) {
                int way = NONE;
                if (scene.isSold(place) && scene.canBe(place)) {
                    way = follow(line, place);
                    rest[line] = false;
                }
                out[line * WAYS_OUT + place - 1] = way;
            }
        }

        /** What comes of a sale is written behind all lines and stays there only if it is a new one. */
        private int follow(int line, int place) {
            int buyer = scene.who[place];
            int seller = scene.who[place - 1];
            int price = scene.priceOf(place);
            int paidAll = price + scene.law[FEE];
            int kept = Math.min(price, MOST_PURSE - scene.purse[seller]);
            int next = count;
            store.duplicate(line, next);
            store.code[next] += (buyer - seller) * (TENS[scene.size - place] - TENS[scene.size - place - 1]);
            store.addPurse(next, buyer, -paidAll);
            store.addPurse(next, seller, kept);
            store.addSales(next, buyer, 1);
            store.addSales(next, seller, 1);
            depth[next] = depth[line] + 1;
            int index = indexOf(next);
            if (index == NONE) {
                whole = false;
                return NONE;
            }
            return paidAll << NEXT_BITS | index;
        }

        /** The line's number, if it has one or there is room for one more. */
        private int indexOf(int slot) {
            int at = store.hash(slot, TABLE_BITS);
            for (int i = 0; i < TABLE && table[at] != 0; i++) {
                if (store.isSame(table[at] - 1, slot)) {
                    return table[at] - 1;
                }
                at = at + 1 & TABLE - 1;
            }
            if (slot >= MOST_LINES) {
                return NONE;
            }
            table[at] = slot + 1;
            count = slot + 1;
            return slot;
        }

        private int unlikeLines() {
            Arrays.fill(table, 0);
            int unlike = 0;
            for (int line = 0; line < count; line++) {
                int at = store.hashOfCode(line, TABLE_BITS);
                for (int i = 0; i < TABLE && table[at] != 0 && store.code[table[at] - 1] != store.code[line]; i++) {
                    at = at + 1 & TABLE - 1;
                }
                if (table[at] == 0) {
                    table[at] = line + 1;
                    unlike++;
                }
            }
            return unlike;
        }

        void tellRests(Row row) {
            int rests = 0;
            int most = 0;
            int fewest = MOST_LINES;
            for (int line = 0; line < count; line++) {
                if (rest[line]) {
                    rests++;
                    most = Math.max(most, depth[line]);
                    fewest = Math.min(fewest, depth[line]);
                }
            }
            row.tell(unlikeLines(), rests);
            row.add(most);
            row.add(fewest);
        }

        boolean holds(long code) {
            for (int line = 0; line < count; line++) {
                if (store.code[line] == code) {
                    return true;
                }
            }
            return false;
        }

        int cheapestEnd(long code) {
            payLeast();
            int end = NONE;
            for (int line = 0; line < count; line++) {
                if (store.code[line] == code && (end == NONE || isCheaper(line, end))) {
                    end = line;
                }
            }
            return end;
        }

        private void payLeast() {
            Arrays.fill(paid, NONE);
            paid[0] = 0;
            for (int line = 0; line < count; line++) {
                for (int place = 1; place <= WAYS_OUT; place++) {
                    int way = out[line * WAYS_OUT + place - 1];
                    if (way != NONE) {
                        offer(line, place, way);
                    }
                }
            }
        }

        private void offer(int line, int place, int way) {
            int next = way & NEXT_MASK;
            int all = paid[line] + (way >> NEXT_BITS);
            boolean better = paid[next] == NONE || all < paid[next]
                    || all == paid[next] && isLessRow(line, from[next]);
            if (better) {
                paid[next] = all;
                from[next] = line;
                by[next] = place;
            }
        }

        private boolean isCheaper(int one, int other) {
            if (paid[one] != paid[other]) {
                return paid[one] < paid[other];
            }
            return depth[one] == depth[other] ? isLessRow(one, other) : depth[one] < depth[other];
        }

        /** Of two lines by equally many sales: the rows part where they come from the same line. */
        private boolean isLessRow(int one, int other) {
            boolean less = false;
            int left = one;
            int right = other;
            for (int i = depth[one]; i > 0 && left != right; i--) {
                less = by[left] == by[right] ? less : by[left] < by[right];
                left = from[left];
                right = from[right];
            }
            return less;
        }

        void tellSales(int end, Row row) {
            row.clear();
            int shown = Math.min(depth[end], MOST_JUDGED);
            row.size = shown;
            int line = end;
            for (int i = depth[end]; i > 0; i--) {
                if (i <= shown) {
                    row.numbers[i - 1] = by[line];
                }
                line = from[line];
            }
        }

        void countWays() {
            Arrays.fill(ways, 0);
            ways[0] = 1;
            for (int line = 0; line < count; line++) {
                for (int i = 0; i < WAYS_OUT; i++) {
                    int way = out[line * WAYS_OUT + i];
                    if (way != NONE) {
                        ways[way & NEXT_MASK] += ways[line];
                    }
                }
            }
        }

        long waysTo(long code) {
            long sum = 0;
            for (int line = 0; line < count; line++) {
                if (store.code[line] == code) {
                    sum += ways[line];
                }
            }
            return sum;
        }

        long waysToRest() {
            long sum = 0;
            for (int line = 0; line < count; line++) {
                if (rest[line]) {
                    sum += ways[line];
                }
            }
            return sum;
        }

        private int placeIn(int line, int person) {
            int left = store.code[line];
            for (int place = scene.size - 1; place > 0; place--) {
                if (left % 10 == person) {
                    return place;
                }
                left /= 10;
            }
            return 0;
        }

        int endsOf(int person, Row row) {
            int bits = 0;
            int least = MOST_PURSE;
            int greatest = 0;
            for (int line = 0; line < count; line++) {
                if (rest[line]) {
                    int coins = store.purseOf(line, person);
                    bits |= 1 << placeIn(line, person);
                    least = Math.min(least, coins);
                    greatest = Math.max(greatest, coins);
                }
            }
            row.tell(least, greatest);
            return bits;
        }

        /** Lines stand by how many sales they take, so the first of equal ones takes the fewest. */
        int foremostOf(int person, Row row) {
            int foremost = MOST_PEOPLE;
            int greatest = 0;
            int fewest = 0;
            for (int line = 0; line < count; line++) {
                int place = placeIn(line, person);
                int coins = store.purseOf(line, person);
                if (place < foremost || place == foremost && coins > greatest) {
                    foremost = place;
                    greatest = coins;
                    fewest = depth[line];
                }
            }
            row.tell(greatest, fewest);
            return foremost;
        }

        int finestRest() {
            int finest = NONE;
            for (int line = 0; line < count; line++) {
                if (rest[line] && (finest == NONE || isFiner(line, finest))) {
                    finest = line;
                }
            }
            return Math.max(finest, 0);
        }

        private boolean isFiner(int one, int other) {
            return total[one] > total[other] || total[one] == total[other] && store.code[one] < store.code[other];
        }

        /**
         * Tells of the first sale that does not make the sum more, if there is one. Lines are found place by place
         * from lines found so themselves: they stand by how many sales they take, then by the least rows to them.
         */
        boolean tellFall(Row row) {
            for (int line = 0; line < count; line++) {
                for (int place = 1; place <= WAYS_OUT; place++) {
                    int way = out[line * WAYS_OUT + place - 1];
                    int more = way == NONE ? 1 : total[way & NEXT_MASK] - total[line];
                    if (more <= 0) {
                        row.tell(place, more);
                        return true;
                    }
                }
            }
            return false;
        }
    }

    /** All orders of those in a line, purses and sales as they are. */
    private static final class Orders {
        private static final int SETS = 1 << MOST_ORDERED;

        int found = 0;
        int best = 0;
        long bestCode = 0;
        long leastCode = 0;
        final int[] tally = new int[MOST_ORDERED];
        private final int[] people = new int[MOST_ORDERED];
        // By one of them and the set of those ahead: what that place is worth, whatever their order.
        private final int[] values = new int[MOST_ORDERED * SETS];
        private final int[] chosen = new int[MOST_ORDERED];
        private int size = 0;
        private int watched = NONE;
        private boolean restsOnly = false;

        /** Looks at all orders, or at those at rest; how often one has which place is tallied. */
        void list(Standing line, boolean onlyRests, int person) {
            restsOnly = onlyRests;
            watched = person;
            found = 0;
            Arrays.fill(tally, 0);
            size = Math.min(line.size, MOST_ORDERED);
            sortPeople(line);
            weighSets(line);
            extend(this, line, 0, 0, 0, 1);
        }

        private void sortPeople(Standing line) {
            int sorted = 0;
            for (int person = 0; person < MOST_PEOPLE && sorted < size; person++) {
                if (line.placeOf(person) != NONE) {
                    people[sorted] = person;
                    sorted++;
                }
            }
        }

        private void weighSets(Standing line) {
            for (int set = 0; set < 1 << size; set++) {
                int minutes = 0;
                for (int i = 0; i < size; i++) {
                    minutes += (set >> i & 1) == 0 ? 0 : line.town.minutes[people[i]];
                }
                for (int i = 0; i < size; i++) {
                    if ((set >> i & 1) == 0) {
                        values[i * SETS + set] = line.worthOfSet(people[i], Integer.bitCount(set), minutes);
                    }
                }
            }
        }

        /** Goes on by their numbers, so that orders come by their codes, the least first. */
        private static void extend(Orders all, Standing line, int place, int set, int sum, long code) {
            if (place >= all.size || place >= MOST_ORDERED) {
                all.record(sum, code);
                return;
            }
            for (int next = 0; next < all.size; next++) {
                boolean free = (set >> next & 1) == 0;
                if (free && !(all.restsOnly && place > 0 && all.isSold(line, place, set, next))) {
                    all.chosen[place] = next;
                    int more = sum + all.values[next * SETS + set];
                    extend(all, line, place + 1, set | 1 << next, more, code * 10 + all.people[next]);
                }
            }
        }

        private boolean isSold(Standing line, int place, int set, int buyer) {
            int seller = chosen[place - 1];
            int before = set & ~(1 << seller);
            int gain = values[buyer * SETS + before] - values[buyer * SETS + set];
            int loss = values[seller * SETS + before] - values[seller * SETS + (before | 1 << buyer)];
            return line.couldSell(place, people[buyer], people[seller], gain, loss);
        }

        private void record(int sum, long code) {
            if (found == 0) {
                leastCode = code;
            }
            if (found == 0 || sum > best) {
                best = sum;
                bestCode = code;
            }
            found++;
            for (int place = 0; place < size; place++) {
                if (people[chosen[place]] == watched) {
                    tally[place]++;
                }
            }
        }

        int oftenest() {
            int often = 0;
            for (int place = 1; place < MOST_ORDERED; place++) {
                if (tally[place] > tally[often]) {
                    often = place;
                }
            }
            return often;
        }

        int tallied() {
            int bits = 0;
            for (int place = 0; place < MOST_ORDERED; place++) {
                if (tally[place] > 0) {
                    bits |= 1 << place;
                }
            }
            return bits;
        }
    }
}
