import java.io.ByteArrayOutputStream;
import java.nio.charset.StandardCharsets;
import java.util.ArrayList;
import java.util.Arrays;
import java.util.Comparator;
import java.util.HashSet;
import java.util.List;
import java.util.NoSuchElementException;
import java.util.Set;
import java.util.function.IntFunction;
import java.util.function.IntPredicate;
import java.util.function.IntToLongFunction;
import java.util.regex.Matcher;
import java.util.regex.Pattern;
import java.util.stream.IntStream;

/**
 * The document told once more, without any thrift: it keeps the list of what happened and goes
 * through all of it anew for each question; what would be is asked by letting it happen there.
 */
final class Model {
    private static final Set<String> WORDS = new HashSet<>(Arrays.asList("land", "player", "session",
        "unknown", "lead", "keep", "all", "like", "own", "both", "leads", "sides", "first", "side"));

    private record Land(String name, int term, int roles, int rate) { }

    private record Player(String name, int land) { }

    private record Member(int player, int role) { }

    private record Session(String name, List<Member> members, int seats) { }

    private record Token(String sort, String letters, int place) { }

    private enum Kind { PLAY, YEAR, CLAIM, PART, PART_ALL, TERMS, MOVE, GIVE_BACK }

    private record Event(Kind kind, int a, int b, int c) { }

    private static final class Fault extends RuntimeException {
        private static final long serialVersionUID = 1L;
        private final int sort;
        private final int place;

        Fault(int sort, int place) {
            this.sort = sort;
            this.place = place;
        }
    }

    private static final class Told {
        private final List<Land> lands = new ArrayList<>();
        private final List<Player> players = new ArrayList<>();
        private final List<Session> sessions = new ArrayList<>();
        private Integer lead;
        private Integer keep;
        private int lines;

        private boolean names(String name) {
            return land(name) >= 0 || player(name) >= 0
                || sessions.stream().anyMatch(s -> s.name().equals(name));
        }

        private int land(String name) {
            return IntStream.range(0, lands.size()).filter(l -> lands.get(l).name().equals(name)).findFirst().orElse(-1);
        }

        private int player(String name) {
            return IntStream.range(0, players.size()).filter(p -> players.get(p).name().equals(name)).findFirst().orElse(-1);
        }
    }

    private static final class Grammar {
        private final List<Token> tokens = new ArrayList<>();
        private final Told told = new Told();
        private int at;

        Grammar(String text) {
            Matcher m = Pattern.compile("[ \n]+|([a-z]+)|([0-9]+)|(;)|([^ \na-z0-9;])", Pattern.DOTALL).matcher(text);
            while (m.find()) {
                if (m.group(1) != null) {
                    String w = m.group(1);
                    String sort = WORDS.contains(w) ? w : w.length() <= 6 ? "W" : "bad";
                    tokens.add(new Token(sort, w, m.start()));
                } else if (m.group(2) != null) {
                    tokens.add(new Token("N", m.group(2), m.start()));
                } else if (m.group(3) != null) {
                    tokens.add(new Token(";", ";", m.start()));
                } else if (m.group(4) != null) {
                    tokens.add(new Token("bad", m.group(4), m.start()));
                }
            }
            tokens.add(new Token("end", "", text.length()));
        }

        private Token look() {
            return tokens.get(at);
        }

        private Token take(String... sorts) {
            Token t = look();
            if (!Arrays.asList(sorts).contains(t.sort())) {
                throw new Fault(1, t.place());
            }
            at++;
            return t;
        }

        private int number(int low, int high) {
            Token t = take("N");
            java.math.BigInteger n = new java.math.BigInteger(t.letters());
            if (n.compareTo(java.math.BigInteger.valueOf(low)) < 0 || n.compareTo(java.math.BigInteger.valueOf(high)) > 0) {
                throw new Fault(2, t.place());
            }
            return n.intValue();
        }

        private String name() {
            Token t = take("W");
            if (told.names(t.letters())) {
                throw new Fault(3, t.place());
            }
            return t.letters();
        }

        Told read() {
            while (!look().sort().equals("end")) {
                Token t = take("land", "player", "session", "lead", "keep");
                switch (t.sort()) {
                    case "land" -> land(t);
                    case "player" -> player(t);
                    case "session" -> session(t);
                    case "lead" -> {
                        if (told.lead != null) {
                            throw new Fault(3, t.place());
                        }
                        told.lead = number(0, 100);
                    }
                    default -> {
                        if (told.keep != null) {
                            throw new Fault(3, t.place());
                        }
                        told.keep = number(1, 9);
                    }
                }
                take(";");
                told.lines++;
            }
            return told;
        }

        private void land(Token word) {
            if (told.lands.size() == 6) {
                throw new Fault(2, word.place());
            }
            String name = name();
            int term = Arrays.asList("all", "like", "own").indexOf(take("all", "like", "own").letters());
            int roles = 1 + Arrays.asList("leads", "sides", "both").indexOf(take("leads", "sides", "both").letters());
            told.lands.add(new Land(name, term, roles, number(1, 999)));
        }

        private void player(Token word) {
            if (told.players.size() == 16) {
                throw new Fault(2, word.place());
            }
            String name = name();
            Token t = take("W");
            if (told.land(t.letters()) < 0) {
                throw new Fault(1, t.place());
            }
            told.players.add(new Player(name, told.land(t.letters())));
        }

        private void session(Token word) {
            if (told.sessions.size() == 8) {
                throw new Fault(2, word.place());
            }
            String name = name();
            List<Member> members = new ArrayList<>();
            while (look().sort().equals("W")) {
                Token t = take("W");
                int p = told.player(t.letters());
                if (p < 0) {
                    throw new Fault(1, t.place());
                }
                if (members.size() == 8) {
                    throw new Fault(2, t.place());
                }
                if (members.stream().anyMatch(m -> m.player() == p)) {
                    throw new Fault(3, t.place());
                }
                members.add(new Member(p, take("first", "side").letters().equals("first") ? 0 : 1));
            }
            int seats = 0;
            if (look().sort().equals("unknown")) {
                take("unknown");
                seats = number(1, 5);
            }
            if (look().sort().equals(";") && members.isEmpty() && seats == 0) {
                throw new Fault(4, look().place());
            }
            told.sessions.add(new Session(name, members, seats));
        }
    }

    /** One sum that is kept, or that lapsed. */
    private record Sum(int land, int session, int seat, int year, long cents) { }

    private final class Now {
        private final int lands = told.lands.size();
        private final int players = told.players.size();
        private final int[] term = told.lands.stream().mapToInt(Land::term).toArray();
        private final int[] roles = told.lands.stream().mapToInt(Land::roles).toArray();
        private final int[] home = told.players.stream().mapToInt(Player::land).toArray();
        private final int[][] seats = told.sessions.stream().map(s -> {
            int[] open = new int[s.seats()];
            Arrays.fill(open, -2);
            return open;
        }).toArray(int[][]::new);
        private final long[][] weight = new long[players][lands];
        private final long[][] parts = new long[players][lands];
        private final long[] box = new long[lands];
        private final long[] played = new long[lands];
        private final long[] copies = new long[told.sessions.size()];
        private final long[] money = new long[told.sessions.size()];
        private List<Sum> kept = new ArrayList<>();
        private List<Sum> lapsed = new ArrayList<>();
        private int year;
        private long latest;

        private boolean pays(int l, int of, int role) {
            Set<Integer> own = rolesOf(roles[l]);
            if (!own.contains(role)) {
                return false;
            }
            return switch (term[l]) {
                case 0 -> true;
                case 1 -> l == of || term[of] != 2 && rolesOf(roles[of]).contains(role);
                default -> l == of;
            };
        }

        private Set<Integer> rolesOf(int r) {
            return r == 1 ? Set.of(0) : r == 2 ? Set.of(1) : Set.of(0, 1);
        }

        private long paid(int p, int l) {
            return weight[p][l] + parts[p][l];
        }

        private long paid(int p) {
            return IntStream.range(0, lands).mapToLong(l -> paid(p, l)).sum();
        }

        private long paidIn(int l) {
            return IntStream.range(0, players).mapToLong(p -> paid(p, l)).sum();
        }

        private long all(List<Sum> sums, java.util.function.Predicate<Sum> which) {
            return sums.stream().filter(which).mapToLong(Sum::cents).sum();
        }

        private int role(int p, int s) {
            for (Member m : told.sessions.get(s).members()) {
                if (m.player() == p) {
                    return m.role();
                }
            }
            return Arrays.stream(seats[s]).anyMatch(q -> q == p) ? 2 : -2;
        }

        private int open(int s) {
            return IntStream.range(0, seats[s].length).filter(k -> seats[s][k] == -2).findFirst().orElse(-1);
        }

        private void apply(Event e) {
            switch (e.kind()) {
                case PLAY -> play(e.a(), e.b(), e.c());
                case YEAR -> passYear();
                case CLAIM -> claim(e.a(), e.b());
                case PART -> latest = part(e.a());
                case PART_ALL -> {
                    latest = 0;
                    long sum = 0;
                    for (int l = 0; l < lands; l++) {
                        if (canPart(l)) {
                            sum += part(l);
                        }
                    }
                    latest = sum;
                }
                case TERMS -> {
                    term[e.a()] = e.b();
                    roles[e.a()] = e.c();
                }
                case MOVE -> home[e.a()] = e.b();
                default -> seats[e.a()][e.b()] = -2;
            }
        }

        private void play(int l, int s, int many) {
            long before = paidIn(l);
            long all = (long) many * told.lands.get(l).rate();
            long[] has = shares(s, all);
            List<Member> members = told.sessions.get(s).members();
            for (int k = 0; k < has.length; k++) {
                boolean isSeat = k >= members.size();
                int who = isSeat ? seats[s][k - members.size()] : members.get(k).player();
                int role = isSeat ? 1 : members.get(k).role();
                if (who == -2 && rolesOf(roles[l]).contains(1)) {
                    kept.add(new Sum(l, s, k - members.size(), year, has[k]));
                } else if (who >= 0 && pays(l, home[who], role)) {
                    weight[who][l] += has[k];
                } else {
                    box[l] += has[k];
                }
            }
            played[l] += all;
            copies[s] += many;
            money[s] += all;
            latest = paidIn(l) - before;
        }

        private void passYear() {
            year++;
            List<Sum> stay = new ArrayList<>();
            latest = 0;
            for (Sum sum : kept) {
                if (year - sum.year() >= keepYears()) {
                    lapsed.add(sum);
                    box[sum.land()] += sum.cents();
                    latest += sum.cents();
                } else {
                    stay.add(sum);
                }
            }
            kept = stay;
        }

        private void claim(int p, int s) {
            int seat = open(s);
            seats[s][seat] = p;
            long before = paid(p);
            for (Sum sum : kept) {
                if (sum.session() == s && sum.seat() == seat) {
                    if (pays(sum.land(), home[p], 1)) {
                        weight[p][sum.land()] += sum.cents();
                    } else {
                        box[sum.land()] += sum.cents();
                    }
                }
            }
            for (Sum sum : lapsed) {
                if (sum.session() == s && sum.seat() == seat && pays(sum.land(), home[p], 1)) {
                    weight[p][sum.land()] += sum.cents();
                    box[sum.land()] -= sum.cents();
                }
            }
            kept = kept.stream().filter(x -> x.session() != s || x.seat() != seat).toList();
            kept = new ArrayList<>(kept);
            lapsed = new ArrayList<>(lapsed.stream().filter(x -> x.session() != s || x.seat() != seat).toList());
            latest = paid(p) - before;
        }

        private boolean canPart(int l) {
            return box[l] > 0 && IntStream.range(0, players).anyMatch(p -> weight[p][l] > 0);
        }

        private long part(int l) {
            java.math.BigInteger all = java.math.BigInteger.ZERO;
            for (int p = 0; p < players; p++) {
                all = all.add(java.math.BigInteger.valueOf(weight[p][l]));
            }
            List<long[]> rests = new ArrayList<>();
            long left = box[l];
            for (int p = 0; p < players; p++) {
                java.math.BigInteger[] both = java.math.BigInteger.valueOf(box[l])
                    .multiply(java.math.BigInteger.valueOf(weight[p][l])).divideAndRemainder(all);
                parts[p][l] += both[0].longValue();
                left -= both[0].longValue();
                rests.add(new long[] {p, both[1].longValue()});
            }
            rests.sort(Comparator.comparingLong((long[] r) -> -r[1]).thenComparingLong(r -> r[0]));
            for (int k = 0; k < left; k++) {
                parts[(int) rests.get(k)[0]][l]++;
            }
            long sum = box[l];
            box[l] = 0;
            lapsed = new ArrayList<>(lapsed.stream().filter(x -> x.land() != l).toList());
            return sum;
        }

        private boolean answer(int a, int b) {
            return a == b || (pays(a, b, 0) || pays(a, b, 1)) && (pays(b, a, 0) || pays(b, a, 1));
        }

        private int ring(int l) {
            Set<Integer> seen = new HashSet<>();
            List<Integer> todo = new ArrayList<>(List.of(l));
            while (!todo.isEmpty()) {
                int a = todo.remove(0);
                if (seen.add(a)) {
                    IntStream.range(0, lands).filter(b -> answer(a, b)).forEach(todo::add);
                }
            }
            return bits(seen::contains, lands);
        }

        private long net(int l) {
            long sum = 0;
            for (int p = 0; p < players; p++) {
                for (int by = 0; by < lands; by++) {
                    if (home[p] == l && by != l) {
                        sum += paid(p, by);
                    }
                    if (home[p] != l && by == l) {
                        sum -= paid(p, by);
                    }
                }
            }
            return sum;
        }
    }

    private static int bits(IntPredicate which, int n) {
        return IntStream.range(0, n).filter(which).map(k -> 1 << k).sum();
    }

    private final ByteArrayOutputStream tape = new ByteArrayOutputStream();
    private Told told = new Told();
    private int fault;
    private int faultPlace = -1;
    private final List<Event> events = new ArrayList<>();
    private int canUndo;
    private Now cached;

    private Now now() {
        if (cached == null) {
            cached = with();
        }
        return cached;
    }

    private Now with(Event... more) {
        Now now = new Now();
        events.forEach(now::apply);
        Arrays.stream(more).forEach(now::apply);
        return now;
    }

    private long happen(Kind kind, int a, int b, int c) {
        events.add(new Event(kind, a, b, c));
        canUndo = Math.min(12, canUndo + 1);
        cached = null;
        return now().latest;
    }

    private int keepYears() {
        return told.keep == null ? 3 : told.keep;
    }

    private long[] shares(int s, long all) {
        Session session = told.sessions.get(s);
        List<Integer> leads = new ArrayList<>();
        List<Integer> others = new ArrayList<>();
        for (int k = 0; k < session.members().size() + session.seats(); k++) {
            boolean lead = k < session.members().size() && session.members().get(k).role() == 0;
            (lead ? leads : others).add(k);
        }
        long ofLeads = all * (told.lead == null ? 60 : told.lead) / 100;
        if (others.isEmpty()) {
            ofLeads = all;
        }
        if (leads.isEmpty()) {
            ofLeads = 0;
        }
        long[] has = new long[leads.size() + others.size()];
        share(has, leads, ofLeads);
        share(has, others, all - ofLeads);
        return has;
    }

    private static void share(long[] has, List<Integer> ones, long all) {
        for (int k = 0; k < ones.size(); k++) {
            has[ones.get(k)] = all / ones.size() + (k < all % ones.size() ? 1 : 0);
        }
    }

    private Event[] round(Event... ahead) {
        List<Event> all = new ArrayList<>(Arrays.asList(ahead));
        for (int l = 0; l < told.lands.size(); l++) {
            for (int s = 0; s < told.sessions.size(); s++) {
                all.add(new Event(Kind.PLAY, l, s, 1000));
            }
        }
        return all.toArray(new Event[0]);
    }

    private boolean isLand(int l) {
        return l >= 0 && l < told.lands.size();
    }

    private boolean isPlayer(int p) {
        return p >= 0 && p < told.players.size();
    }

    private boolean isSession(int s) {
        return s >= 0 && s < told.sessions.size();
    }

    private boolean isSeat(int s, int seat) {
        return isSession(s) && seat >= 0 && seat < told.sessions.get(s).seats();
    }

    private static boolean in(int x, int low, int high) {
        return x >= low && x <= high;
    }

    /** The first of greatest worth among those that count; -2: none does. */
    private static int best(int n, IntPredicate which, IntToLongFunction worth, int what) {
        int best = -2;
        for (int k = 0; k < n; k++) {
            if (which.test(k) && (best == -2 || worth.applyAsLong(k) > worth.applyAsLong(best))) {
                best = k;
            }
        }
        return what == 0 || best == -2 ? best : (int) worth.applyAsLong(best);
    }

    public int feed(int a, int b, int c, int d, int e) {
        if (tape.size() > 880) {
            return -1;
        }
        for (int four : new int[] {a, b, c, d, e}) {
            for (byte x : java.nio.ByteBuffer.allocate(4).putInt(four).array()) {
                tape.write(x);
            }
        }
        return tape.size();
    }

    public int text(int n) {
        if (n < 0 || n > tape.size()) {
            return -2;
        }
        String text = new String(tape.toByteArray(), 0, n, StandardCharsets.ISO_8859_1);
        tape.reset();
        try {
            told = new Grammar(text).read();
        } catch (Fault f) {
            fault = f.sort;
            faultPlace = f.place;
            return -1;
        }
        fault = 0;
        faultPlace = -1;
        events.clear();
        canUndo = 0;
        cached = null;
        return told.lines;
    }

    public int fault(int what) {
        return what == 0 ? fault : what == 1 ? faultPlace : -1;
    }

    private static long whatOf(List<IntFunction<Long>> list, int k, int what) {
        if (what < 0 || what >= list.size()) {
            throw new NoSuchElementException();
        }
        return list.get(what).apply(k);
    }

    private static void inside(boolean is) {
        if (!is) {
            throw new IndexOutOfBoundsException();
        }
    }

    public int land(int land, int what) {
        inside(isLand(land));
        Now n = now();
        return (int) whatOf(List.of(l -> (long) n.term[l], l -> (long) n.roles[l],
            l -> (long) told.lands.get(l).rate(), l -> n.box[l], l -> n.played[l], n::paidIn,
            l -> n.all(n.kept, k -> k.land() == l),
            l -> Arrays.stream(n.home).filter(h -> h == l).count()), land, what);
    }

    public int player(int player, int what) {
        inside(isPlayer(player));
        Now n = now();
        return (int) whatOf(List.of(p -> (long) n.home[p], n::paid,
            p -> Arrays.stream(n.parts[p]).sum(),
            p -> IntStream.range(0, told.sessions.size()).filter(s -> n.role(p, s) != -2).count(),
            p -> IntStream.range(0, told.sessions.size()).filter(s -> n.role(p, s) == 0).count(),
            p -> IntStream.range(0, n.lands).filter(l -> n.pays(l, n.home[p], 1)).count(),
            p -> IntStream.range(0, n.lands).filter(l -> n.pays(l, n.home[p], 0)).count()), player, what);
    }

    public int session(int session, int what) {
        inside(isSession(session));
        Now n = now();
        Session t = told.sessions.get(session);
        return (int) whatOf(List.of(s -> t.members().stream().filter(m -> m.role() == 0).count(),
            s -> t.members().stream().filter(m -> m.role() == 1).count(),
            s -> (long) t.seats(), s -> Arrays.stream(n.seats[s]).filter(x -> x == -2).count(),
            s -> n.copies[s], s -> n.money[s], s -> n.all(n.kept, k -> k.session() == s)), session, what);
    }

    public int of(int s, int k, int what) {
        if (!isSession(s) || k < 0 || !in(what, 0, 1)) {
            return -1;
        }
        List<Member> m = told.sessions.get(s).members();
        return k >= m.size() ? -2 : what == 0 ? m.get(k).player() : m.get(k).role();
    }

    public int seat(int s, int seat) {
        return isSeat(s, seat) ? now().seats[s][seat] : -1;
    }

    public int role(int p, int s) {
        return isPlayer(p) && isSession(s) ? now().role(p, s) : -1;
    }

    public int pays(int l, int of, int role) {
        return !isLand(l) || !isLand(of) || !in(role, 0, 1) ? -1 : now().pays(l, of, role) ? 1 : 0;
    }

    public int paidBy(int of, int role) {
        if (!isLand(of) || !in(role, 0, 1)) {
            return -1;
        }
        return (int) IntStream.range(0, told.lands.size()).filter(l -> now().pays(l, of, role)).count();
    }

    public int answer(int a, int b) {
        return !isLand(a) || !isLand(b) ? -1 : now().answer(a, b) ? 1 : 0;
    }

    public int ring(int l) {
        return isLand(l) ? now().ring(l) : -1;
    }

    public int rings() {
        return (int) IntStream.range(0, told.lands.size()).map(l -> now().ring(l)).distinct().count();
    }

    private boolean isPlay(int l, int s, int copies) {
        return isLand(l) && isSession(s) && in(copies, 1, 99999);
    }

    private boolean tooMuch(int l, int copies) {
        return now().played[l] + (long) copies * told.lands.get(l).rate() > 300000000L;
    }

    public int play(int l, int s, int copies) {
        if (!isPlay(l, s, copies)) {
            return -1;
        }
        return tooMuch(l, copies) ? -2 : (int) happen(Kind.PLAY, l, s, copies);
    }

    public int year() {
        return now().year == 9999 ? -2 : (int) happen(Kind.YEAR, 0, 0, 0);
    }

    private int whyNotClaim(int p, int s) {
        if (!isPlayer(p) || !isSession(s)) {
            return -1;
        }
        return now().role(p, s) != -2 ? -2 : now().open(s) < 0 ? -3 : 0;
    }

    public int claim(int p, int s) {
        int not = whyNotClaim(p, s);
        return not != 0 ? not : (int) happen(Kind.CLAIM, p, s, 0);
    }

    private int whyNotPart(int l) {
        if (!isLand(l)) {
            return -1;
        }
        return now().box[l] == 0 ? -2 : now().canPart(l) ? 0 : -3;
    }

    public int part(int l) {
        int not = whyNotPart(l);
        return not != 0 ? not : (int) happen(Kind.PART, l, 0, 0);
    }

    public boolean terms(int l, int term, int roles) {
        if (!isLand(l) || !in(term, 0, 2) || !in(roles, 1, 3)
            || now().term[l] == term && now().roles[l] == roles) {
            return false;
        }
        happen(Kind.TERMS, l, term, roles);
        return true;
    }

    public int partAll() {
        boolean any = IntStream.range(0, told.lands.size()).anyMatch(l -> whyNotPart(l) == 0);
        return any ? (int) happen(Kind.PART_ALL, 0, 0, 0) : -2;
    }

    public boolean move(int p, int l) {
        if (!isPlayer(p) || !isLand(l) || now().home[p] == l) {
            return false;
        }
        happen(Kind.MOVE, p, l, 0);
        return true;
    }

    public int giveBack(int s, int seat) {
        if (!isSeat(s, seat)) {
            return -1;
        }
        int whose = now().seats[s][seat];
        if (whose != -2) {
            happen(Kind.GIVE_BACK, s, seat, 0);
        }
        return whose;
    }

    public int undo() {
        if (canUndo == 0) {
            return -1;
        }
        events.remove(events.size() - 1);
        cached = null;
        return --canUndo;
    }

    public int paid(int p, int l, int what) {
        if (!isPlayer(p) || !isLand(l) || !in(what, 0, 2)) {
            return -1;
        }
        return (int) (what == 0 ? now().paid(p, l) : what == 1 ? now().weight[p][l] : now().parts[p][l]);
    }

    public int kept(int l, int s, int seat, int ago) {
        if (!isLand(l) || !isSeat(s, seat) || ago < -1) {
            return -1;
        }
        Now n = now();
        return (int) n.all(n.kept, k -> k.land() == l && k.session() == s && k.seat() == seat
            && (ago == -1 || (long) k.year() + ago == n.year));
    }

    public int lapsed(int l, int s, int seat) {
        if (!isLand(l) || !isSeat(s, seat)) {
            return -1;
        }
        return (int) now().all(now().lapsed, k -> k.land() == l && k.session() == s && k.seat() == seat);
    }

    public int lapses(int l, int n) {
        if (!isLand(l) || !in(n, 1, 9)) {
            return -1;
        }
        Event[] years = new Event[n];
        Arrays.fill(years, new Event(Kind.YEAR, 0, 0, 0));
        return (int) (with(years).box[l] - now().box[l]);
    }

    public int share(int l, int s, int copies, int k) {
        if (!isPlay(l, s, copies) || k < 0) {
            return -1;
        }
        long[] has = shares(s, (long) copies * told.lands.get(l).rate());
        return k >= has.length ? -2 : (int) has[k];
    }

    public int wouldPlay(int l, int s, int copies, int what) {
        if (!isPlay(l, s, copies) || !in(what, 0, 2)) {
            return -1;
        }
        if (tooMuch(l, copies)) {
            return -2;
        }
        Now then = with(new Event(Kind.PLAY, l, s, copies));
        if (what == 0) {
            return (int) (then.paidIn(l) - now().paidIn(l));
        }
        return (int) (what == 1 ? then.all(then.kept, k -> true) - now().all(now().kept, k -> true)
            : then.box[l] - now().box[l]);
    }

    public int wouldClaim(int p, int s) {
        int not = whyNotClaim(p, s);
        return not != 0 ? not : (int) (with(new Event(Kind.CLAIM, p, s, 0)).paid(p) - now().paid(p));
    }

    public int bestClaim(int p, int what) {
        if (!isPlayer(p) || !in(what, 0, 1)) {
            return -1;
        }
        return best(told.sessions.size(), s -> whyNotClaim(p, s) == 0, s -> wouldClaim(p, s), what);
    }

    public int claimant(int s, int what) {
        if (!isSession(s) || !in(what, 0, 1)) {
            return -1;
        }
        return best(told.players.size(), p -> whyNotClaim(p, s) == 0, p -> wouldClaim(p, s), what);
    }

    public int wouldPart(int l, int p) {
        if (!isPlayer(p)) {
            return -1;
        }
        int not = whyNotPart(l);
        return not != 0 ? not : (int) (with(new Event(Kind.PART, l, 0, 0)).paid(p) - now().paid(p));
    }

    public int gain(int p, int l, int s, int copies, int term, int roles) {
        if (!isPlayer(p) || !isPlay(l, s, copies) || !in(term, 0, 2) || !in(roles, 1, 3)) {
            return -1000000000;
        }
        Event play = new Event(Kind.PLAY, l, s, copies);
        return (int) (with(new Event(Kind.TERMS, l, term, roles), play).paid(p) - with(play).paid(p));
    }

    public int pairs(int role, int l, int term, int roles) {
        if (!in(role, 0, 1) || !isLand(l) || !in(term, 0, 2) || !in(roles, 1, 3)) {
            return -1;
        }
        Now then = with(new Event(Kind.TERMS, l, term, roles));
        int found = 0;
        for (int a = 0; a < then.lands; a++) {
            for (int b = 0; b < then.lands; b++) {
                found += a != b && then.pays(a, b, role) ? 1 : 0;
            }
        }
        return found;
    }

    public int most(int l, int what) {
        if (l != -1 && !isLand(l) || !in(what, 0, 1)) {
            return -1;
        }
        return best(told.players.size(), p -> true, p -> l == -1 ? now().paid(p) : now().paid(p, l), what);
    }

    public int ranked(int k) {
        List<Integer> all = new ArrayList<>(IntStream.range(0, told.players.size()).boxed().toList());
        all.sort(Comparator.comparingLong(p -> -now().paid(p)));
        return k < 0 ? -1 : k >= all.size() ? -2 : all.get(k);
    }

    private long paidTo(int l, int to) {
        return IntStream.range(0, told.players.size()).filter(p -> now().home[p] == to)
            .mapToLong(p -> now().paid(p, l)).sum();
    }

    public int across(int l, int to, boolean balance) {
        if (!isLand(l) || !isLand(to)) {
            return -1000000000;
        }
        return (int) (paidTo(l, to) - (balance ? paidTo(to, l) : 0));
    }

    public int idle() {
        return bits(p -> now().paid(p) == 0
            && IntStream.range(0, told.sessions.size()).allMatch(s -> now().role(p, s) == -2), told.players.size());
    }

    public int nextLapse(int l) {
        if (!isLand(l)) {
            return -1;
        }
        return IntStream.rangeClosed(1, 9).filter(n -> lapses(l, n) > 0).findFirst().orElse(-2);
    }

    public int bestLand(int p, int s, int copies, int what) {
        if (!isPlayer(p) || !isSession(s) || !in(copies, 1, 99999) || !in(what, 0, 1)) {
            return -1;
        }
        return best(told.lands.size(), l -> true,
            l -> with(new Event(Kind.PLAY, l, s, copies)).paid(p) - now().paid(p), what);
    }

    public int net(int l) {
        return isLand(l) ? (int) now().net(l) : -1000000000;
    }

    public int extreme(int what) {
        if (!in(what, 0, 1)) {
            return -1;
        }
        return best(told.lands.size(), l -> true, l -> what == 0 ? now().net(l) : -now().net(l), 0);
    }

    private long paidHome(Now then, int l) {
        return IntStream.range(0, then.players).filter(p -> then.home[p] == l).mapToLong(then::paid).sum();
    }

    public int round(int l, int what) {
        if (!isLand(l) || !in(what, 0, 3)) {
            return -1;
        }
        Now then = with(round());
        return (int) switch (what) {
            case 0 -> paidHome(then, l) - paidHome(now(), l);
            case 1 -> then.paidIn(l) - now().paidIn(l);
            case 2 -> then.box[l] - now().box[l];
            default -> then.all(then.kept, k -> k.land() == l) - now().all(now().kept, k -> k.land() == l);
        };
    }

    public int bestTerms(int l, int what) {
        if (!isLand(l) || !in(what, 0, 2)) {
            return -1;
        }
        IntToLongFunction worth = k -> paidHome(with(round(new Event(Kind.TERMS, l, k / 3, 1 + k % 3))), l)
            - paidHome(now(), l);
        int k = best(9, x -> true, worth, 0);
        return what == 0 ? k / 3 : what == 1 ? 1 + k % 3 : (int) worth.applyAsLong(k);
    }

    public int unknown(int what) {
        if (!in(what, 0, 1)) {
            return -1;
        }
        long sum = 0;
        for (int l = 0; l < told.lands.size(); l++) {
            boolean keeps = now().rolesOf(now().roles[l]).contains(1);
            for (int s = 0; s < told.sessions.size(); s++) {
                sum += keeps == (what == 0) ? split(l, s, 1000, 2) : 0;
            }
        }
        return (int) sum;
    }

    public int statement(int p, int k, int what) {
        if (!isPlayer(p) || k < 0 || !in(what, 0, 1)) {
            return -1;
        }
        int[] lands = IntStream.range(0, told.lands.size()).filter(l -> now().paid(p, l) > 0).toArray();
        return k >= lands.length ? -2 : what == 0 ? lands[k] : (int) now().paid(p, lands[k]);
    }

    private long byRound(int p, int l) {
        Event move = new Event(Kind.MOVE, p, l, 0);
        return with(round(move)).paid(p) - now().paid(p);
    }

    public int moveGain(int p, int l) {
        if (!isPlayer(p) || !isLand(l)) {
            return -1000000000;
        }
        return (int) (byRound(p, l) - with(round()).paid(p) + now().paid(p));
    }

    public int bestHome(int p, int what) {
        if (!isPlayer(p) || !in(what, 0, 1)) {
            return -1;
        }
        return best(told.lands.size(), l -> true, l -> byRound(p, l), what);
    }

    public int answers(int l) {
        return isLand(l) ? bits(b -> b != l && now().answer(l, b), told.lands.size()) : -1;
    }

    public int poorest(int l, int what) {
        if (!isLand(l) || !in(what, 0, 1)) {
            return -1;
        }
        int p = best(told.players.size(), q -> now().home[q] == l, q -> -now().paid(q), 0);
        return what == 0 || p == -2 ? p : (int) now().paid(p);
    }

    public int openSeats(int s) {
        return isSession(s) ? bits(k -> now().seats[s][k] == -2, now().seats[s].length) : -1;
    }

    public int late(int s) {
        if (!isSession(s)) {
            return -1;
        }
        int open = now().open(s);
        return open < 0 ? -3 : (int) now().all(now().lapsed, k -> k.session() == s && k.seat() == open);
    }

    public int split(int l, int s, int copies, int what) {
        if (!isPlay(l, s, copies) || !in(what, 0, 2)) {
            return -1;
        }
        long[] has = shares(s, (long) copies * told.lands.get(l).rate());
        List<Member> m = told.sessions.get(s).members();
        long sum = 0;
        for (int k = 0; k < has.length; k++) {
            boolean lead = k < m.size() && m.get(k).role() == 0;
            boolean open = k >= m.size() && now().seats[s][k - m.size()] == -2;
            sum += (what == 0 ? lead : what == 1 ? !lead : open) ? has[k] : 0;
        }
        return (int) sum;
    }

    public int dearest(int what) {
        return in(what, 0, 1) ? best(told.sessions.size(), s -> true, s -> now().money[s], what) : -1;
    }

    public int reached(int l, int s) {
        if (!isLand(l) || !isSession(s)) {
            return -1;
        }
        Now n = now();
        return (int) IntStream.range(0, n.players).filter(p -> n.role(p, s) != -2
            && n.pays(l, n.home[p], n.role(p, s) == 0 ? 0 : 1)).count();
    }

    public int money(int what) {
        Now n = now();
        return (int) switch (what) {
            case 0 -> Arrays.stream(n.played).sum();
            case 1 -> IntStream.range(0, n.players).mapToLong(n::paid).sum();
            case 2 -> n.all(n.kept, k -> true);
            case 3 -> Arrays.stream(n.box).sum();
            case 4 -> Arrays.stream(n.parts).flatMapToLong(Arrays::stream).sum();
            case 5 -> n.all(n.lapsed, k -> true);
            default -> -1L;
        };
    }

    public int count(int what) {
        Now n = now();
        return (int) switch (what) {
            case 0 -> told.lines;
            case 1 -> n.lands;
            case 2 -> n.players;
            case 3 -> told.sessions.size();
            case 4 -> told.lead == null ? 60 : told.lead;
            case 5 -> keepYears();
            case 6 -> n.year;
            case 7 -> Arrays.stream(n.seats).flatMapToInt(Arrays::stream).filter(x -> x == -2).count();
            case 8 -> canUndo;
            case 9 -> tape.size();
            default -> -1;
        };
    }
}
