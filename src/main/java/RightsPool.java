import java.util.Arrays;
import java.util.NoSuchElementException;

/** A pool of neighbouring rights: see the document for its promises. */
public final class RightsPool {
    public static final int NONE = -1;

    private static final int NO_SUCH_SUM = -1000000000;
    private static final int OPEN = -2;
    private static final int FIRST = 0;
    private static final int SIDE = 1;
    private static final int HAS_SEAT = 2;

    private static final int PAID = 0;
    private static final int KEPT = 1;
    private static final int BOXED = 2;
    private static final int FATES = 3;

    private static final int MOST_LANDS = 6;
    private static final int MOST_PLAYERS = 16;
    private static final int MOST_SESSIONS = 8;
    private static final int MOST_MEMBERS = 8;
    private static final int MOST_SEATS = 5;
    private static final int MOST_KEEP = 9;
    private static final int MOST_COPIES = 99999;
    private static final int MOST_RATE = 999;
    private static final int MOST_MONEY = 300000000;
    private static final int MOST_BYTES = 900;
    private static final int MOST_UNDONE = 12;
    private static final int LAST_YEAR = 9999;
    private static final int ROUND_COPIES = 1000;

    private static final int ALL = 0;
    private static final int LIKE = 1;
    private static final int OWN = 2;

    private final Reader reader = new Reader();
    private final Books books = new Books();
    private final History history = new History();
    private final World were = new World();
    private final Outcome outcome = new Outcome();
    private final Round aRound = new Round();
    private final BoxShares boxShares = new BoxShares();
    private Roll roll = new Roll();
    private Roll draft = new Roll();

    public RightsPool() {
    }

    // ---- the text

    public int feed(int a, int b, int c, int d, int e) {
        if (reader.tape.size + 20 > MOST_BYTES) {
            return NONE;
        }
        reader.tape.append(a);
        reader.tape.append(b);
        reader.tape.append(c);
        reader.tape.append(d);
        reader.tape.append(e);
        return reader.tape.size;
    }

    public int text(int n) {
        if (n < 0 || n > reader.tape.size) {
            return -2;
        }
        if (!reader.readText(draft, n)) {
            return NONE;
        }
        Roll before = roll;
        roll = draft;
        draft = before;
        books.open(roll);
        history.forget();
        return roll.lines;
    }

    public int fault(int what) {
        switch (what) {
            case 0:
                return reader.fault;
            case 1:
                return reader.faultPlace;
            default:
                return NONE;
        }
    }

    // ---- what there is

    public int land(int l, int what) throws IndexOutOfBoundsException, NoSuchElementException {
        if (!isLand(l)) {
            throw new IndexOutOfBoundsException("no such land");
        }
        switch (what) {
            case 0:
                return books.world.term[l];
            case 1:
                return books.world.roles[l];
            case 2:
                return roll.rate[l];
            case 3:
                return books.box[l];
            case 4:
                return books.landMoney[l];
            case 5:
                return books.paidIn(roll, l);
            case 6:
                return books.keptIn(l);
            case 7:
                return books.world.playersOf(roll, l);
            default:
                throw new NoSuchElementException("no such what of a land");
        }
    }

    public int player(int p, int what) throws IndexOutOfBoundsException, NoSuchElementException {
        if (!isPlayer(p)) {
            throw new IndexOutOfBoundsException("no such player");
        }
        switch (what) {
            case 0:
                return books.world.home[p];
            case 1:
                return books.paidTo(roll, p);
            case 2:
                return books.partsTo(roll, p);
            case 3:
                return books.world.sessionsOf(roll, p);
            case 4:
                return books.world.leadsOf(roll, p);
            case 5:
                return books.world.payers(roll, books.world.home[p], SIDE);
            case 6:
                return books.world.payers(roll, books.world.home[p], FIRST);
            default:
                throw new NoSuchElementException("no such what of a player");
        }
    }

    public int session(int s, int what) throws IndexOutOfBoundsException, NoSuchElementException {
        if (!isSession(s)) {
            throw new IndexOutOfBoundsException("no such session");
        }
        switch (what) {
            case 0:
                return roll.leadsIn(s);
            case 1:
                return roll.members[s] - roll.leadsIn(s);
            case 2:
                return roll.seats[s];
            case 3:
                return Integer.bitCount(books.world.openBits(roll, s));
            case 4:
                return books.sessionCopies[s];
            case 5:
                return books.sessionMoney[s];
            case 6:
                return books.keptOfSession(roll, s);
            default:
                throw new NoSuchElementException("no such what of a session");
        }
    }

    public int of(int s, int k, int what) {
        if (!isSession(s) || k < 0 || !isChoice(what, 2)) {
            return NONE;
        }
        if (k >= roll.members[s]) {
            return -2;
        }
        int at = s * MOST_MEMBERS + k;
        return what == 0 ? roll.member[at] : roll.memberRole[at];
    }

    public int seat(int s, int seat) {
        if (!isSeat(s, seat)) {
            return NONE;
        }
        return books.world.holder[s * MOST_SEATS + seat];
    }

    public int role(int p, int s) {
        if (!isPlayer(p) || !isSession(s)) {
            return NONE;
        }
        return books.world.roleIn(roll, p, s);
    }

    public int openSeats(int s) {
        return isSession(s) ? books.world.openBits(roll, s) : NONE;
    }

    public int idle() {
        int bits = 0;
        for (int p = 0; p < roll.players; p++) {
            if (books.world.sessionsOf(roll, p) == 0 && books.paidTo(roll, p) == 0) {
                bits |= 1 << p;
            }
        }
        return bits;
    }

    public int count(int what) {
        switch (what) {
            case 0:
                return roll.lines;
            case 1:
                return roll.lands;
            case 2:
                return roll.players;
            case 3:
                return roll.sessions;
            case 4:
                return roll.lead;
            case 5:
                return roll.keepYears;
            case 6:
                return books.year;
            case 7:
                return books.world.openInAll(roll);
            case 8:
                return history.count;
            case 9:
                return reader.tape.size;
            default:
                return NONE;
        }
    }

    // ---- who pays whom

    public int pays(int l, int of, int role) {
        if (!isLand(l) || !isLand(of) || !isChoice(role, 2)) {
            return NONE;
        }
        return books.world.payable(l, of, role) ? 1 : 0;
    }

    public int paidBy(int of, int role) {
        if (!isLand(of) || !isChoice(role, 2)) {
            return NONE;
        }
        return books.world.payers(roll, of, role);
    }

    public int answer(int a, int b) {
        if (!isLand(a) || !isLand(b)) {
            return NONE;
        }
        return books.world.answerOne(a, b) ? 1 : 0;
    }

    public int answers(int l) {
        return isLand(l) ? books.world.answerBits(roll, l) & ~(1 << l) : NONE;
    }

    public int ring(int l) {
        return isLand(l) ? books.world.ringBits(roll, l) : NONE;
    }

    public int rings() {
        int found = 0;
        for (int l = 0; l < roll.lands; l++) {
            // a ring counts once, at its least land
            if (Integer.numberOfTrailingZeros(books.world.ringBits(roll, l)) == l) {
                found++;
            }
        }
        return found;
    }

    public int pairs(int role, int l, int term, int roles) {
        if (!isChoice(role, 2) || !isLand(l) || !areTerms(term, roles)) {
            return NONE;
        }
        were.copyFrom(books.world);
        were.setTerms(l, term, roles);
        int found = 0;
        for (int of = 0; of < roll.lands; of++) {
            found += were.payers(roll, of, role) - (were.payable(of, of, role) ? 1 : 0);
        }
        return found;
    }

    public int reached(int l, int s) {
        if (!isLand(l) || !isSession(s)) {
            return NONE;
        }
        outcome.think(roll, books.world, l, s, 1);
        return outcome.headsPaid();
    }

    // ---- what happens

    public int play(int l, int s, int copies) {
        if (!isPlay(l, s, copies)) {
            return NONE;
        }
        if (isTooMuch(l, copies)) {
            return -2;
        }
        history.remember(books);
        outcome.think(roll, books.world, l, s, copies);
        books.enterPlay(roll, outcome, l, s, copies);
        return outcome.sum[PAID];
    }

    public int year() {
        if (books.year >= LAST_YEAR) {
            return -2;
        }
        history.remember(books);
        return books.passYear(roll);
    }

    public int claim(int p, int s) {
        int bar = claimBar(p, s);
        if (bar != 0) {
            return bar;
        }
        history.remember(books);
        return books.enterClaim(roll, p, s, books.world.firstOpen(roll, s));
    }

    public int part(int l) {
        int bar = partBar(l);
        if (bar != 0) {
            return bar;
        }
        history.remember(books);
        return partBox(l);
    }

    public int partAll() {
        boolean any = false;
        for (int l = 0; l < roll.lands; l++) {
            any = any || partBar(l) == 0;
        }
        if (!any) {
            return -2;
        }
        history.remember(books);
        int sum = 0;
        for (int l = 0; l < roll.lands; l++) {
            if (partBar(l) == 0) {
                sum += partBox(l);
            }
        }
        return sum;
    }

    public boolean terms(int l, int term, int roles) {
        if (!isLand(l) || !areTerms(term, roles) || books.world.hasTerms(l, term, roles)) {
            return false;
        }
        history.remember(books);
        books.world.setTerms(l, term, roles);
        return true;
    }

    public boolean move(int p, int l) {
        if (!isPlayer(p) || !isLand(l) || books.world.home[p] == l) {
            return false;
        }
        history.remember(books);
        books.world.home[p] = l;
        return true;
    }

    public int giveBack(int s, int seat) {
        if (!isSeat(s, seat)) {
            return NONE;
        }
        int at = s * MOST_SEATS + seat;
        int whose = books.world.holder[at];
        if (whose == OPEN) {
            return -2;
        }
        history.remember(books);
        books.world.holder[at] = OPEN;
        return whose;
    }

    public int undo() {
        return history.recall(books) ? history.count : NONE;
    }

    // ---- money as it stands

    public int paid(int p, int l, int what) {
        if (!isPlayer(p) || !isLand(l)) {
            return NONE;
        }
        switch (what) {
            case 0:
                return books.paidBoth(p, l);
            case 1:
                return books.weight[p * MOST_LANDS + l];
            case 2:
                return books.byParts[p * MOST_LANDS + l];
            default:
                return NONE;
        }
    }

    public int kept(int l, int s, int seat, int ago) {
        if (!isLand(l) || !isSeat(s, seat) || ago < NONE) {
            return NONE;
        }
        int slot = slotOf(l, s, seat);
        if (ago == NONE) {
            return books.keptAtSlot(slot);
        }
        return ago < MOST_KEEP ? books.keeping[slot * MOST_KEEP + ago] : 0;
    }

    public int lapsed(int l, int s, int seat) {
        if (!isLand(l) || !isSeat(s, seat)) {
            return NONE;
        }
        return books.lapse[slotOf(l, s, seat)];
    }

    public int lapses(int l, int n) {
        if (!isLand(l) || n < 1 || n > 9) {
            return NONE;
        }
        return books.keptSince(l, roll.keepYears - n);
    }

    public int nextLapse(int l) {
        if (!isLand(l)) {
            return NONE;
        }
        int eldest = books.eldestKept(l);
        return eldest < 0 ? -2 : roll.keepYears - eldest;
    }

    public int late(int s) {
        if (!isSession(s)) {
            return NONE;
        }
        int open = books.world.firstOpen(roll, s);
        if (open < 0) {
            return -3;
        }
        int sum = 0;
        for (int l = 0; l < roll.lands; l++) {
            sum += books.lapse[slotOf(l, s, open)];
        }
        return sum;
    }

    public int most(int l, int what) {
        if (l != NONE && !isLand(l) || !isChoice(what, 2)) {
            return NONE;
        }
        if (roll.players == 0) {
            return -2;
        }
        int best = 0;
        for (int p = 1; p < roll.players; p++) {
            if (paidSomewhere(p, l) > paidSomewhere(best, l)) {
                best = p;
            }
        }
        return what == 0 ? best : paidSomewhere(best, l);
    }

    public int ranked(int k) {
        if (k < 0) {
            return NONE;
        }
        for (int p = 0; p < roll.players; p++) {
            if (rankOf(p) == k) {
                return p;
            }
        }
        return -2;
    }

    public int poorest(int l, int what) {
        if (!isLand(l) || !isChoice(what, 2)) {
            return NONE;
        }
        int worst = -2;
        int least = -2;
        for (int p = 0; p < roll.players; p++) {
            if (books.world.home[p] == l && (worst < 0 || books.paidTo(roll, p) < least)) {
                worst = p;
                least = books.paidTo(roll, p);
            }
        }
        return what == 0 ? worst : least;
    }

    public int statement(int p, int k, int what) {
        if (!isPlayer(p) || k < 0 || !isChoice(what, 2)) {
            return NONE;
        }
        int ahead = 0;
        for (int l = 0; l < roll.lands; l++) {
            int sum = books.paidBoth(p, l);
            if (sum > 0 && ahead == k) {
                return what == 0 ? l : sum;
            }
            if (sum > 0) {
                ahead++;
            }
        }
        return -2;
    }

    public int across(int l, int to, boolean balance) {
        if (!isLand(l) || !isLand(to)) {
            return NO_SUCH_SUM;
        }
        int there = books.paidAcross(roll, l, to);
        return balance ? there - books.paidAcross(roll, to, l) : there;
    }

    public int net(int l) {
        return isLand(l) ? books.netOf(roll, l) : NO_SUCH_SUM;
    }

    public int extreme(int what) {
        if (!isChoice(what, 2)) {
            return NONE;
        }
        if (roll.lands == 0) {
            return -2;
        }
        int best = 0;
        for (int l = 1; l < roll.lands; l++) {
            int order = Integer.compare(books.netOf(roll, l), books.netOf(roll, best));
            if (what == 0 ? order > 0 : order < 0) {
                best = l;
            }
        }
        return best;
    }

    public int dearest(int what) {
        if (!isChoice(what, 2)) {
            return NONE;
        }
        if (roll.sessions == 0) {
            return -2;
        }
        int best = 0;
        for (int s = 1; s < roll.sessions; s++) {
            if (books.sessionMoney[s] > books.sessionMoney[best]) {
                best = s;
            }
        }
        return what == 0 ? best : books.sessionMoney[best];
    }

    public int money(int what) {
        if (!isChoice(what, 6)) {
            return NONE;
        }
        int sum = 0;
        for (int l = 0; l < roll.lands; l++) {
            sum += moneyOfLand(l, what);
        }
        return sum;
    }

    // ---- what would be

    public int share(int l, int s, int copies, int k) {
        if (!isPlay(l, s, copies) || k < 0) {
            return NONE;
        }
        if (k >= roll.headsIn(s)) {
            return -2;
        }
        outcome.think(roll, books.world, l, s, copies);
        return outcome.has[k];
    }

    public int split(int l, int s, int copies, int what) {
        if (!isPlay(l, s, copies) || !isChoice(what, 3)) {
            return NONE;
        }
        outcome.think(roll, books.world, l, s, copies);
        if (what == 2) {
            return outcome.openMoney(KEPT) + outcome.openMoney(BOXED);
        }
        return what == 0 ? outcome.leadMoney : outcome.sideMoney;
    }

    public int wouldPlay(int l, int s, int copies, int what) {
        if (!isPlay(l, s, copies) || !isChoice(what, FATES)) {
            return NONE;
        }
        if (isTooMuch(l, copies)) {
            return -2;
        }
        outcome.think(roll, books.world, l, s, copies);
        return outcome.sum[what];
    }

    public int wouldClaim(int p, int s) {
        int bar = claimBar(p, s);
        return bar != 0 ? bar : claimWorth(p, s);
    }

    public int bestClaim(int p, int what) {
        if (!isPlayer(p) || !isChoice(what, 2)) {
            return NONE;
        }
        int best = -2;
        int worth = -2;
        for (int s = 0; s < roll.sessions; s++) {
            if (claimBar(p, s) == 0 && (best < 0 || claimWorth(p, s) > worth)) {
                best = s;
                worth = claimWorth(p, s);
            }
        }
        return what == 0 ? best : worth;
    }

    public int claimant(int s, int what) {
        if (!isSession(s) || !isChoice(what, 2)) {
            return NONE;
        }
        int best = -2;
        int worth = -2;
        for (int p = 0; p < roll.players; p++) {
            if (claimBar(p, s) == 0 && (best < 0 || claimWorth(p, s) > worth)) {
                best = p;
                worth = claimWorth(p, s);
            }
        }
        return what == 0 ? best : worth;
    }

    public int wouldPart(int l, int p) {
        if (!isPlayer(p)) {
            return NONE;
        }
        int bar = partBar(l);
        if (bar != 0) {
            return bar;
        }
        boxShares.reckon(roll, books, l);
        return boxShares.cents[p];
    }

    public int gain(int p, int l, int s, int copies, int term, int roles) {
        if (!isPlayer(p) || !isPlay(l, s, copies) || !areTerms(term, roles)) {
            return NO_SUCH_SUM;
        }
        outcome.think(roll, books.world, l, s, copies);
        int now = outcome.paidToOne(p);
        were.copyFrom(books.world);
        were.setTerms(l, term, roles);
        outcome.think(roll, were, l, s, copies);
        return outcome.paidToOne(p) - now;
    }

    public int bestLand(int p, int s, int copies, int what) {
        if (!isPlayer(p) || !isSession(s) || !isCopies(copies) || !isChoice(what, 2)) {
            return NONE;
        }
        int best = -2;
        int worth = -2;
        for (int l = 0; l < roll.lands; l++) {
            outcome.think(roll, books.world, l, s, copies);
            if (best < 0 || outcome.paidToOne(p) > worth) {
                best = l;
                worth = outcome.paidToOne(p);
            }
        }
        return what == 0 ? best : worth;
    }

    public int round(int l, int what) {
        if (!isLand(l)) {
            return NONE;
        }
        switch (what) {
            case 0:
                return aRound.toPlayersOf(roll, books.world, l);
            case 1:
                return aRound.inLand(roll, books.world, l, PAID);
            case 2:
                return aRound.inLand(roll, books.world, l, BOXED);
            case 3:
                return aRound.inLand(roll, books.world, l, KEPT);
            default:
                return NONE;
        }
    }

    public int bestTerms(int l, int what) {
        if (!isLand(l) || !isChoice(what, 3)) {
            return NONE;
        }
        were.copyFrom(books.world);
        int bestTerm = NONE;
        int bestRoles = NONE;
        int worth = NONE;
        for (int term = ALL; term <= OWN; term++) {
            for (int roles = 1; roles <= 3; roles++) {
                were.setTerms(l, term, roles);
                int sum = aRound.toPlayersOf(roll, were, l);
                if (sum > worth) {
                    bestTerm = term;
                    bestRoles = roles;
                    worth = sum;
                }
            }
        }
        if (what == 2) {
            return worth;
        }
        return what == 0 ? bestTerm : bestRoles;
    }

    public int unknown(int what) {
        if (!isChoice(what, 2)) {
            return NONE;
        }
        return aRound.ofOpenSeats(roll, books.world, what == 0 ? KEPT : BOXED);
    }

    public int moveGain(int p, int l) {
        if (!isPlayer(p) || !isLand(l)) {
            return NO_SUCH_SUM;
        }
        return roundFrom(p, l) - roundFrom(p, books.world.home[p]);
    }

    public int bestHome(int p, int what) {
        if (!isPlayer(p) || !isChoice(what, 2)) {
            return NONE;
        }
        int best = NONE;
        int worth = NONE;
        for (int l = 0; l < roll.lands; l++) {
            int sum = roundFrom(p, l);
            if (sum > worth) {
                best = l;
                worth = sum;
            }
        }
        return what == 0 ? best : worth;
    }

    // ---- tests of arguments

    private boolean isLand(int l) {
        return l >= 0 && l < roll.lands;
    }

    private boolean isPlayer(int p) {
        return p >= 0 && p < roll.players;
    }

    private boolean isSession(int s) {
        return s >= 0 && s < roll.sessions;
    }

    private boolean isSeat(int s, int seat) {
        return isSession(s) && seat >= 0 && seat < roll.seats[s];
    }

    private boolean isPlay(int l, int s, int copies) {
        return isLand(l) && isSession(s) && isCopies(copies);
    }

    private static boolean isCopies(int copies) {
        return copies >= 1 && copies <= MOST_COPIES;
    }

    private static boolean isChoice(int what, int choices) {
        return what >= 0 && what < choices;
    }

    private static boolean areTerms(int term, int roles) {
        return term >= ALL && term <= OWN && roles >= 1 && roles <= 3;
    }

    // ---- parts that several calls share

    private boolean isTooMuch(int l, int copies) {
        return books.landMoney[l] + copies * roll.rate[l] > MOST_MONEY;
    }

    /** What forbids a claim: 0, if nothing does. */
    private int claimBar(int p, int s) {
        if (!isPlayer(p) || !isSession(s)) {
            return NONE;
        }
        if (books.world.roleIn(roll, p, s) >= 0) {
            return -2;
        }
        return books.world.firstOpen(roll, s) < 0 ? -3 : 0;
    }

    private int claimWorth(int p, int s) {
        return books.worthOfSeat(roll, p, s, books.world.firstOpen(roll, s));
    }

    /** What forbids that a box is parted: 0, if nothing does. */
    private int partBar(int l) {
        if (!isLand(l)) {
            return NONE;
        }
        if (books.box[l] == 0) {
            return -2;
        }
        return books.weightIn(roll, l) == 0 ? -3 : 0;
    }

    private int partBox(int l) {
        boxShares.reckon(roll, books, l);
        return books.enterPart(roll, boxShares, l);
    }

    private int paidSomewhere(int p, int l) {
        return l == NONE ? books.paidTo(roll, p) : books.paidBoth(p, l);
    }

    private int rankOf(int p) {
        int ahead = 0;
        int own = books.paidTo(roll, p);
        for (int q = 0; q < roll.players; q++) {
            int other = books.paidTo(roll, q);
            if (other > own || other == own && q < p) {
                ahead++;
            }
        }
        return ahead;
    }

    private int moneyOfLand(int l, int what) {
        switch (what) {
            case 0:
                return books.landMoney[l];
            case 1:
                return books.paidIn(roll, l);
            case 2:
                return books.keptIn(l);
            case 3:
                return books.box[l];
            case 4:
                return books.partsIn(roll, l);
            default:
                return books.lapsedIn(l);
        }
    }

    /** What a round would bring to a player, were he of a land. */
    private int roundFrom(int p, int l) {
        were.copyFrom(books.world);
        were.home[p] = l;
        return aRound.toPlayer(roll, were, p);
    }

    private static int slotOf(int l, int s, int seat) {
        return (l * MOST_SESSIONS + s) * MOST_SEATS + seat;
    }

    /** What a text tells, as it was told. */
    private static final class Roll {
        final int[] rate = new int[MOST_LANDS];
        final int[] term = new int[MOST_LANDS];
        final int[] roles = new int[MOST_LANDS];
        final int[] home = new int[MOST_PLAYERS];
        final int[] members = new int[MOST_SESSIONS];
        final int[] seats = new int[MOST_SESSIONS];
        final int[] member = new int[MOST_SESSIONS * MOST_MEMBERS];
        final int[] memberRole = new int[MOST_SESSIONS * MOST_MEMBERS];
        int lines;
        int lands;
        int players;
        int sessions;
        int lead = 60;
        int keepYears = 3;

        /** The rows need no clearing: nothing beyond the counts is looked at. */
        void clear() {
            lines = 0;
            lands = 0;
            players = 0;
            sessions = 0;
            lead = 60;
            keepYears = 3;
        }

        int leadsIn(int s) {
            int found = 0;
            for (int k = 0; k < members[s]; k++) {
                if (memberRole[s * MOST_MEMBERS + k] == FIRST) {
                    found++;
                }
            }
            return found;
        }

        int headsIn(int s) {
            return members[s] + seats[s];
        }

        int roleAt(int s, int k) {
            return k < members[s] ? memberRole[s * MOST_MEMBERS + k] : SIDE;
        }

        /** The role that is told of a player in a session; -2: none. */
        int roleTold(int p, int s) {
            for (int k = 0; k < members[s]; k++) {
                if (member[s * MOST_MEMBERS + k] == p) {
                    return memberRole[s * MOST_MEMBERS + k];
                }
            }
            return -2;
        }
    }

    /** Whom a land pays hangs on this alone, so that a copy of it serves for what would be. */
    private static final class World {
        final int[] term = new int[MOST_LANDS];
        final int[] roles = new int[MOST_LANDS];
        final int[] home = new int[MOST_PLAYERS];
        final int[] holder = new int[MOST_SESSIONS * MOST_SEATS];

        void open(Roll roll) {
            System.arraycopy(roll.term, 0, term, 0, MOST_LANDS);
            System.arraycopy(roll.roles, 0, roles, 0, MOST_LANDS);
            System.arraycopy(roll.home, 0, home, 0, MOST_PLAYERS);
            Arrays.fill(holder, OPEN);
        }

        void copyFrom(World other) {
            System.arraycopy(other.term, 0, term, 0, MOST_LANDS);
            System.arraycopy(other.roles, 0, roles, 0, MOST_LANDS);
            System.arraycopy(other.home, 0, home, 0, MOST_PLAYERS);
            System.arraycopy(other.holder, 0, holder, 0, MOST_SESSIONS * MOST_SEATS);
        }

        boolean hasTerms(int l, int aTerm, int someRoles) {
            return term[l] == aTerm && roles[l] == someRoles;
        }

        void setTerms(int l, int aTerm, int someRoles) {
            term[l] = aTerm;
            roles[l] = someRoles;
        }

        boolean hasRole(int l, int aRole) {
            return (roles[l] >> aRole & 1) == 1;
        }

        boolean payable(int l, int to, int aRole) {
            if (!hasRole(l, aRole)) {
                return false;
            }
            if (l == to || term[l] == ALL) {
                return true;
            }
            return term[l] == LIKE && term[to] != OWN && hasRole(to, aRole);
        }

        int payers(Roll roll, int to, int aRole) {
            int found = 0;
            for (int l = 0; l < roll.lands; l++) {
                if (payable(l, to, aRole)) {
                    found++;
                }
            }
            return found;
        }

        boolean paysSome(int l, int to) {
            return payable(l, to, FIRST) || payable(l, to, SIDE);
        }

        boolean answerOne(int a, int b) {
            return a == b || paysSome(a, b) && paysSome(b, a);
        }

        int answerBits(Roll roll, int l) {
            int bits = 0;
            for (int other = 0; other < roll.lands; other++) {
                if (answerOne(l, other)) {
                    bits |= 1 << other;
                }
            }
            return bits;
        }

        int ringBits(Roll roll, int l) {
            int bits = 1 << l;
            // as many steps as lands reach the farthest one of a ring
            for (int step = 0; step < roll.lands; step++) {
                for (int a = 0; a < roll.lands; a++) {
                    if ((bits >> a & 1) == 1) {
                        bits |= answerBits(roll, a);
                    }
                }
            }
            return bits;
        }

        int playersOf(Roll roll, int l) {
            int found = 0;
            for (int p = 0; p < roll.players; p++) {
                if (home[p] == l) {
                    found++;
                }
            }
            return found;
        }

        int roleIn(Roll roll, int p, int s) {
            for (int seat = 0; seat < roll.seats[s]; seat++) {
                if (holder[s * MOST_SEATS + seat] == p) {
                    return HAS_SEAT;
                }
            }
            return roll.roleTold(p, s);
        }

        int sessionsOf(Roll roll, int p) {
            int found = 0;
            for (int s = 0; s < roll.sessions; s++) {
                if (roleIn(roll, p, s) >= 0) {
                    found++;
                }
            }
            return found;
        }

        int leadsOf(Roll roll, int p) {
            int found = 0;
            for (int s = 0; s < roll.sessions; s++) {
                if (roleIn(roll, p, s) == FIRST) {
                    found++;
                }
            }
            return found;
        }

        int openBits(Roll roll, int s) {
            int bits = 0;
            for (int seat = 0; seat < roll.seats[s]; seat++) {
                if (holder[s * MOST_SEATS + seat] == OPEN) {
                    bits |= 1 << seat;
                }
            }
            return bits;
        }

        int openInAll(Roll roll) {
            int found = 0;
            for (int s = 0; s < roll.sessions; s++) {
                found += Integer.bitCount(openBits(roll, s));
            }
            return found;
        }

        /** The first open seat of a session; NONE: there is none. */
        int firstOpen(Roll roll, int s) {
            for (int seat = 0; seat < roll.seats[s]; seat++) {
                if (holder[s * MOST_SEATS + seat] == OPEN) {
                    return seat;
                }
            }
            return NONE;
        }

        int whoAt(Roll roll, int s, int k) {
            int told = roll.members[s];
            return k < told ? roll.member[s * MOST_MEMBERS + k] : holder[s * MOST_SEATS + k - told];
        }

        int fateOf(int l, int who, int aRole) {
            if (who < 0) {
                return hasRole(l, SIDE) ? KEPT : BOXED;
            }
            return payable(l, home[who], aRole) ? PAID : BOXED;
        }
    }

    /** What a play comes to, be it done or only thought of. */
    private static final class Outcome {
        final int[] has = new int[MOST_MEMBERS + MOST_SEATS];
        final int[] who = new int[MOST_MEMBERS + MOST_SEATS];
        final int[] fate = new int[MOST_MEMBERS + MOST_SEATS];
        final int[] sum = new int[FATES];
        int heads;
        int leadMoney;
        int sideMoney;

        void think(Roll roll, World world, int l, int s, int copies) {
            heads = roll.headsIn(s);
            partMoney(roll, s, copies * roll.rate[l]);
            Arrays.fill(sum, 0);
            for (int k = 0; k < heads; k++) {
                who[k] = world.whoAt(roll, s, k);
                fate[k] = world.fateOf(l, who[k], roll.roleAt(s, k));
                sum[fate[k]] += has[k];
            }
        }

        void partMoney(Roll roll, int s, int all) {
            int leads = roll.leadsIn(s);
            int sides = heads - leads;
            if (leads == 0) {
                leadMoney = 0;
            } else if (sides == 0) {
                leadMoney = all;
            } else {
                leadMoney = (int) ((long) all * roll.lead / 100);
            }
            sideMoney = all - leadMoney;
            handOut(roll, s, FIRST, leadMoney, leads);
            handOut(roll, s, SIDE, sideMoney, sides);
        }

        void handOut(Roll roll, int s, int aRole, int all, int among) {
            if (among < 1) {
                return;
            }
            int each = all / among;
            int over = all % among;
            for (int k = 0; k < heads; k++) {
                if (roll.roleAt(s, k) == aRole) {
                    has[k] = over > 0 ? each + 1 : each;
                    over--;
                }
            }
        }

        int headsPaid() {
            int found = 0;
            for (int k = 0; k < heads; k++) {
                if (fate[k] == PAID) {
                    found++;
                }
            }
            return found;
        }

        int paidToOne(int p) {
            int found = 0;
            for (int k = 0; k < heads; k++) {
                if (who[k] == p && fate[k] == PAID) {
                    found += has[k];
                }
            }
            return found;
        }

        int paidToHome(World world, int l) {
            int found = 0;
            for (int k = 0; k < heads; k++) {
                if (fate[k] == PAID && world.home[who[k]] == l) {
                    found += has[k];
                }
            }
            return found;
        }

        int openMoney(int aFate) {
            int found = 0;
            for (int k = 0; k < heads; k++) {
                if (who[k] == OPEN && fate[k] == aFate) {
                    found += has[k];
                }
            }
            return found;
        }
    }

    /** One play of 1000 copies of each session in each land, only thought of. */
    private static final class Round {
        final Outcome outcome = new Outcome();

        int toPlayersOf(Roll roll, World world, int home) {
            int found = 0;
            for (int l = 0; l < roll.lands; l++) {
                for (int s = 0; s < roll.sessions; s++) {
                    outcome.think(roll, world, l, s, ROUND_COPIES);
                    found += outcome.paidToHome(world, home);
                }
            }
            return found;
        }

        int toPlayer(Roll roll, World world, int p) {
            int found = 0;
            for (int l = 0; l < roll.lands; l++) {
                for (int s = 0; s < roll.sessions; s++) {
                    outcome.think(roll, world, l, s, ROUND_COPIES);
                    found += outcome.paidToOne(p);
                }
            }
            return found;
        }

        int inLand(Roll roll, World world, int l, int aFate) {
            int found = 0;
            for (int s = 0; s < roll.sessions; s++) {
                outcome.think(roll, world, l, s, ROUND_COPIES);
                found += outcome.sum[aFate];
            }
            return found;
        }

        int ofOpenSeats(Roll roll, World world, int aFate) {
            int found = 0;
            for (int l = 0; l < roll.lands; l++) {
                for (int s = 0; s < roll.sessions; s++) {
                    outcome.think(roll, world, l, s, ROUND_COPIES);
                    found += outcome.openMoney(aFate);
                }
            }
            return found;
        }
    }

    /** What each player has of a box. */
    private static final class BoxShares {
        final int[] cents = new int[MOST_PLAYERS];
        final long[] rest = new long[MOST_PLAYERS];

        void reckon(Roll roll, Books books, int l) {
            Arrays.fill(cents, 0);
            long all = books.weightIn(roll, l);
            if (all < 1) {
                return;
            }
            int left = books.box[l];
            for (int p = 0; p < roll.players; p++) {
                long product = (long) books.box[l] * books.weight[p * MOST_LANDS + l];
                cents[p] = (int) (product / all);
                rest[p] = product % all;
                left -= cents[p];
            }
            for (int k = 0; k < left; k++) {
                addCent(roll.players);
            }
        }

        void addCent(int players) {
            int best = 0;
            for (int p = 1; p < players; p++) {
                if (rest[p] > rest[best]) {
                    best = p;
                }
            }
            cents[best]++;
            // no rest is below 0, so one who has had his cent is behind all others
            rest[best] = -1;
        }
    }

    /** All that can be undone: copied whole, so that undoing needs no rule of its own. */
    private static final class Books {
        final World world = new World();
        final int[] box = new int[MOST_LANDS];
        final int[] landMoney = new int[MOST_LANDS];
        final int[] sessionMoney = new int[MOST_SESSIONS];
        final int[] sessionCopies = new int[MOST_SESSIONS];
        final int[] weight = new int[MOST_PLAYERS * MOST_LANDS];
        final int[] byParts = new int[MOST_PLAYERS * MOST_LANDS];
        final int[] lapse = new int[MOST_LANDS * MOST_SESSIONS * MOST_SEATS];
        final int[] keeping = new int[MOST_LANDS * MOST_SESSIONS * MOST_SEATS * MOST_KEEP];
        int year;

        void open(Roll roll) {
            world.open(roll);
            Arrays.fill(box, 0);
            Arrays.fill(landMoney, 0);
            Arrays.fill(sessionMoney, 0);
            Arrays.fill(sessionCopies, 0);
            Arrays.fill(weight, 0);
            Arrays.fill(byParts, 0);
            Arrays.fill(lapse, 0);
            Arrays.fill(keeping, 0);
            year = 0;
        }

        void copyFrom(Books other) {
            world.copyFrom(other.world);
            System.arraycopy(other.box, 0, box, 0, box.length);
            System.arraycopy(other.landMoney, 0, landMoney, 0, landMoney.length);
            System.arraycopy(other.sessionMoney, 0, sessionMoney, 0, sessionMoney.length);
            System.arraycopy(other.sessionCopies, 0, sessionCopies, 0, sessionCopies.length);
            System.arraycopy(other.weight, 0, weight, 0, weight.length);
            System.arraycopy(other.byParts, 0, byParts, 0, byParts.length);
            System.arraycopy(other.lapse, 0, lapse, 0, lapse.length);
            System.arraycopy(other.keeping, 0, keeping, 0, keeping.length);
            year = other.year;
        }

        void enterPlay(Roll roll, Outcome outcome, int l, int s, int copies) {
            for (int k = 0; k < outcome.heads; k++) {
                if (outcome.fate[k] == PAID) {
                    weight[outcome.who[k] * MOST_LANDS + l] += outcome.has[k];
                } else if (outcome.fate[k] == KEPT) {
                    keeping[slotOf(l, s, k - roll.members[s]) * MOST_KEEP] += outcome.has[k];
                } else {
                    box[l] += outcome.has[k];
                }
            }
            landMoney[l] += copies * roll.rate[l];
            sessionMoney[s] += copies * roll.rate[l];
            sessionCopies[s] += copies;
        }

        int passYear(Roll roll) {
            year++;
            int all = 0;
            for (int l = 0; l < roll.lands; l++) {
                for (int slot = slotOf(l, 0, 0); slot < slotOf(l + 1, 0, 0); slot++) {
                    int going = ageSlot(slot, roll.keepYears);
                    lapse[slot] += going;
                    box[l] += going;
                    all += going;
                }
            }
            return all;
        }

        /** What lapses of a seat, as all that is kept of it is a year older. */
        int ageSlot(int slot, int keepYears) {
            int from = slot * MOST_KEEP;
            int going = keeping[from + keepYears - 1];
            for (int age = keepYears - 1; age > 0; age--) {
                keeping[from + age] = keeping[from + age - 1];
            }
            keeping[from] = 0;
            return going;
        }

        int worthOfSeat(Roll roll, int p, int s, int seat) {
            int worth = 0;
            for (int l = 0; l < roll.lands; l++) {
                if (world.payable(l, world.home[p], SIDE)) {
                    int slot = slotOf(l, s, seat);
                    worth += keptAtSlot(slot) + lapse[slot];
                }
            }
            return worth;
        }

        int enterClaim(Roll roll, int p, int s, int seat) {
            int worth = worthOfSeat(roll, p, s, seat);
            for (int l = 0; l < roll.lands; l++) {
                int slot = slotOf(l, s, seat);
                int held = keptAtSlot(slot);
                if (world.payable(l, world.home[p], SIDE)) {
                    weight[p * MOST_LANDS + l] += held + lapse[slot];
                    box[l] -= lapse[slot];
                } else {
                    box[l] += held;
                }
                lapse[slot] = 0;
                keepNothing(slot);
            }
            world.holder[s * MOST_SEATS + seat] = p;
            return worth;
        }

        int enterPart(Roll roll, BoxShares shares, int l) {
            int all = box[l];
            for (int p = 0; p < roll.players; p++) {
                byParts[p * MOST_LANDS + l] += shares.cents[p];
            }
            box[l] = 0;
            for (int slot = slotOf(l, 0, 0); slot < slotOf(l + 1, 0, 0); slot++) {
                lapse[slot] = 0;
            }
            return all;
        }

        void keepNothing(int slot) {
            for (int age = 0; age < MOST_KEEP; age++) {
                keeping[slot * MOST_KEEP + age] = 0;
            }
        }

        int paidBoth(int p, int l) {
            return weight[p * MOST_LANDS + l] + byParts[p * MOST_LANDS + l];
        }

        int paidTo(Roll roll, int p) {
            int sum = 0;
            for (int l = 0; l < roll.lands; l++) {
                sum += paidBoth(p, l);
            }
            return sum;
        }

        int partsTo(Roll roll, int p) {
            int sum = 0;
            for (int l = 0; l < roll.lands; l++) {
                sum += byParts[p * MOST_LANDS + l];
            }
            return sum;
        }

        int weightIn(Roll roll, int l) {
            int sum = 0;
            for (int p = 0; p < roll.players; p++) {
                sum += weight[p * MOST_LANDS + l];
            }
            return sum;
        }

        int partsIn(Roll roll, int l) {
            int sum = 0;
            for (int p = 0; p < roll.players; p++) {
                sum += byParts[p * MOST_LANDS + l];
            }
            return sum;
        }

        int paidIn(Roll roll, int l) {
            return weightIn(roll, l) + partsIn(roll, l);
        }

        int paidAcross(Roll roll, int l, int to) {
            int sum = 0;
            for (int p = 0; p < roll.players; p++) {
                if (world.home[p] == to) {
                    sum += paidBoth(p, l);
                }
            }
            return sum;
        }

        int netOf(Roll roll, int l) {
            int sum = 0;
            for (int other = 0; other < roll.lands; other++) {
                sum += paidAcross(roll, other, l) - paidAcross(roll, l, other);
            }
            return sum;
        }

        int keptAtSlot(int slot) {
            int sum = 0;
            for (int age = 0; age < MOST_KEEP; age++) {
                sum += keeping[slot * MOST_KEEP + age];
            }
            return sum;
        }

        int keptOfSession(Roll roll, int s) {
            int sum = 0;
            for (int l = 0; l < roll.lands; l++) {
                for (int seat = 0; seat < roll.seats[s]; seat++) {
                    sum += keptAtSlot(slotOf(l, s, seat));
                }
            }
            return sum;
        }

        int keptIn(int l) {
            return keptSince(l, 0);
        }

        /** What is kept in a land for so many years or longer. */
        int keptSince(int l, int years) {
            int sum = 0;
            for (int slot = slotOf(l, 0, 0); slot < slotOf(l + 1, 0, 0); slot++) {
                for (int age = Math.max(years, 0); age < MOST_KEEP; age++) {
                    sum += keeping[slot * MOST_KEEP + age];
                }
            }
            return sum;
        }

        /** The greatest age of what is kept in a land; NONE: nothing is. */
        int eldestKept(int l) {
            for (int age = MOST_KEEP - 1; age >= 0; age--) {
                if (keptSince(l, age) > 0) {
                    return age;
                }
            }
            return NONE;
        }

        int lapsedIn(int l) {
            int sum = 0;
            for (int slot = slotOf(l, 0, 0); slot < slotOf(l + 1, 0, 0); slot++) {
                sum += lapse[slot];
            }
            return sum;
        }
    }

    /** The books as they were ahead of each of the latest changes. */
    private static final class History {
        final Books[] past = new Books[MOST_UNDONE];
        int latest;
        int count;

        History() {
            for (int k = 0; k < MOST_UNDONE; k++) {
                past[k] = new Books();
            }
        }

        void forget() {
            count = 0;
        }

        void remember(Books now) {
            latest = (latest + 1) % MOST_UNDONE;
            past[latest].copyFrom(now);
            count = Math.min(count + 1, MOST_UNDONE);
        }

        boolean recall(Books now) {
            if (count == 0) {
                return false;
            }
            now.copyFrom(past[latest]);
            latest = (latest + MOST_UNDONE - 1) % MOST_UNDONE;
            count--;
            return true;
        }
    }

    /** The tape, and the tokens of a text on it. */
    private static final class Tape {
        // a word's kind is its place in this list
        static final String WORDS =
            "land player session unknown lead keep all like own both leads sides first side ";
        static final int LAND = 0;
        static final int PLAYER = 1;
        static final int SESSION = 2;
        static final int UNKNOWN = 3;
        static final int LEAD = 4;
        static final int KEEP = 5;
        static final int TERM_ALL = 6;
        static final int TERM_OWN = 8;
        static final int ROLES_BOTH = 9;
        static final int ROLES_SIDES = 11;
        static final int ROLE_FIRST = 12;
        static final int ROLE_SIDE = 13;
        static final int NAME = 14;
        static final int NUMBER = 15;
        static final int SEMICOLON = 16;
        static final int END = 17;
        static final int NO_TOKEN = 18;

        final int[] bytes = new int[MOST_BYTES];
        // one row more than bytes: the end is a token, too
        final int[] kind = new int[MOST_BYTES + 1];
        final int[] place = new int[MOST_BYTES + 1];
        final long[] value = new long[MOST_BYTES + 1];
        int size;
        int end;
        int at;

        void append(int four) {
            for (int shift = 24; shift >= 0 && size < MOST_BYTES; shift -= 8) {
                bytes[size] = four >> shift & 255;
                size++;
            }
        }

        /** Finds the tokens of the first n bytes; the tape is empty then. */
        void takeTokens(int n) {
            end = Math.min(n, size);
            size = 0;
            at = 0;
            boolean more = true;
            for (int t = 0; t <= MOST_BYTES && more; t++) {
                while (at < end && (bytes[at] == 10 || bytes[at] == 32)) {
                    at++;
                }
                place[t] = at;
                scanToken(t);
                more = kind[t] != END;
            }
        }

        void scanToken(int t) {
            if (at >= end) {
                kind[t] = END;
            } else if (isLetter(bytes[at])) {
                scanWord(t);
            } else if (isDigit(bytes[at])) {
                scanNumber(t);
            } else {
                kind[t] = bytes[at] == ';' ? SEMICOLON : NO_TOKEN;
                at++;
            }
        }

        void scanWord(int t) {
            long word = 0;
            while (at < end && isLetter(bytes[at])) {
                // more than eight letters are no word anyway, and would run over
                if (at - place[t] < 8) {
                    word = withLetter(word, bytes[at]);
                }
                at++;
            }
            value[t] = word;
            kind[t] = kindOfWord(word, at - place[t]);
        }

        void scanNumber(int t) {
            long number = 0;
            while (at < end && isDigit(bytes[at])) {
                // from here on it is beyond all that can be said, and would run over
                if (number < 100000) {
                    number = number * 10 + bytes[at] - '0';
                }
                at++;
            }
            value[t] = number;
            kind[t] = NUMBER;
        }

        static int kindOfWord(long word, int length) {
            int number = 0;
            long listed = 0;
            for (int k = 0; k < WORDS.length(); k++) {
                char sign = WORDS.charAt(k);
                if (sign != ' ') {
                    listed = withLetter(listed, sign);
                } else if (listed == word) {
                    return number;
                } else {
                    number++;
                    listed = 0;
                }
            }
            return length <= 6 ? NAME : NO_TOKEN;
        }

        static long withLetter(long word, int letter) {
            return word * 32 + letter - 'a' + 1;
        }

        static boolean isLetter(int sign) {
            return sign >= 'a' && sign <= 'z';
        }

        static boolean isDigit(int sign) {
            return sign >= '0' && sign <= '9';
        }
    }

    /** How a text is read, up to its first fault. */
    private static final class Reader {
        static final int CANT_STAND = 1;
        static final int BEYOND = 2;
        static final int TOLD_ALREADY = 3;
        static final int NOBODY = 4;

        final Tape tape = new Tape();
        final long[] landName = new long[MOST_LANDS];
        final long[] playerName = new long[MOST_PLAYERS];
        final long[] sessionName = new long[MOST_SESSIONS];
        int token;
        boolean leadTold;
        boolean keepTold;
        int fault;
        int faultPlace = NONE;

        boolean readText(Roll roll, int n) {
            tape.takeTokens(n);
            roll.clear();
            token = 0;
            leadTold = false;
            keepTold = false;
            fault = 0;
            faultPlace = NONE;
            for (int k = 0; k < MOST_BYTES && fault == 0 && !isAt(Tape.END); k++) {
                readLine(roll);
            }
            return fault == 0;
        }

        void readLine(Roll roll) {
            switch (tape.kind[token]) {
                case Tape.LAND:
                    readLand(roll);
                    break;
                case Tape.PLAYER:
                    readPlayer(roll);
                    break;
                case Tape.SESSION:
                    readSession(roll);
                    break;
                case Tape.LEAD:
                    readLead(roll);
                    break;
                case Tape.KEEP:
                    readKeep(roll);
                    break;
                default:
                    blame(CANT_STAND);
                    break;
            }
            oneOf(Tape.SEMICOLON, Tape.SEMICOLON);
            if (fault == 0) {
                roll.lines++;
            }
        }

        void readLand(Roll roll) {
            int l = roll.lands;
            if (l >= MOST_LANDS) {
                blame(BEYOND);
                return;
            }
            advance();
            landName[l] = newName(roll);
            roll.term[l] = oneOf(Tape.TERM_ALL, Tape.TERM_OWN);
            int told = oneOf(Tape.ROLES_BOTH, Tape.ROLES_SIDES);
            // among the words both is the first, among the numbers the last
            roll.roles[l] = told == 0 ? 3 : told;
            roll.rate[l] = numberIn(1, MOST_RATE);
            roll.lands++;
        }

        void readPlayer(Roll roll) {
            int p = roll.players;
            if (p >= MOST_PLAYERS) {
                blame(BEYOND);
                return;
            }
            advance();
            playerName[p] = newName(roll);
            roll.home[p] = oldName(landName, roll.lands);
            advance();
            roll.players++;
        }

        void readSession(Roll roll) {
            int s = roll.sessions;
            if (s >= MOST_SESSIONS) {
                blame(BEYOND);
                return;
            }
            advance();
            sessionName[s] = newName(roll);
            roll.members[s] = 0;
            roll.seats[s] = 0;
            // one turn more than there may be members: that one is the fault
            for (int k = 0; k <= MOST_MEMBERS && fault == 0 && isAt(Tape.NAME); k++) {
                readMember(roll, s);
            }
            if (isAt(Tape.UNKNOWN)) {
                advance();
                roll.seats[s] = numberIn(1, MOST_SEATS);
            }
            if (isAt(Tape.SEMICOLON) && roll.headsIn(s) == 0) {
                blame(NOBODY);
            }
            roll.sessions++;
        }

        void readMember(Roll roll, int s) {
            int p = oldName(playerName, roll.players);
            int k = roll.members[s];
            if (k >= MOST_MEMBERS) {
                blame(BEYOND);
                return;
            }
            if (roll.roleTold(p, s) >= 0) {
                blame(TOLD_ALREADY);
            }
            advance();
            roll.member[s * MOST_MEMBERS + k] = p;
            roll.memberRole[s * MOST_MEMBERS + k] = oneOf(Tape.ROLE_FIRST, Tape.ROLE_SIDE);
            roll.members[s]++;
        }

        void readLead(Roll roll) {
            if (leadTold) {
                blame(TOLD_ALREADY);
                return;
            }
            leadTold = true;
            advance();
            roll.lead = numberIn(0, 100);
        }

        void readKeep(Roll roll) {
            if (keepTold) {
                blame(TOLD_ALREADY);
                return;
            }
            keepTold = true;
            advance();
            roll.keepYears = numberIn(1, MOST_KEEP);
        }

        /** Only the first fault counts. */
        void blame(int what) {
            if (fault == 0) {
                fault = what;
                faultPlace = tape.place[token];
            }
        }

        /** A fault stops the reading where it is, so that what follows needs no test of its own. */
        void advance() {
            if (fault == 0 && token < MOST_BYTES) {
                token++;
            }
        }

        boolean isAt(int kind) {
            return tape.kind[token] == kind;
        }

        /** Which of the kinds from low to high stands here, counted from low on. */
        int oneOf(int low, int high) {
            int kind = tape.kind[token];
            if (kind < low || kind > high) {
                blame(CANT_STAND);
            }
            advance();
            return kind - low;
        }

        int numberIn(int low, int high) {
            long number = tape.value[token];
            if (!isAt(Tape.NUMBER)) {
                blame(CANT_STAND);
            } else if (number < low || number > high) {
                blame(BEYOND);
            }
            advance();
            return (int) number;
        }

        long newName(Roll roll) {
            long name = tape.value[token];
            if (!isAt(Tape.NAME)) {
                blame(CANT_STAND);
            } else if (isTold(roll)) {
                blame(TOLD_ALREADY);
            }
            advance();
            return name;
        }

        boolean isTold(Roll roll) {
            return find(landName, roll.lands) >= 0
                || find(playerName, roll.players) >= 0
                || find(sessionName, roll.sessions) >= 0;
        }

        /** The number of the name that stands here; NONE with a fault. */
        int oldName(long[] names, int told) {
            int found = isAt(Tape.NAME) ? find(names, told) : NONE;
            if (found < 0) {
                blame(CANT_STAND);
            }
            return found;
        }

        int find(long[] names, int told) {
            for (int k = 0; k < told; k++) {
                if (names[k] == tape.value[token]) {
                    return k;
                }
            }
            return NONE;
        }
    }
}
