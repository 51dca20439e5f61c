/** The boundaries of what is asked of lands, players, sessions, and of who pays whom: promises 5 to 15. */
public final class ThingBoundsTest {
    private static final Sentences DOC = new Sentences("ThingBoundsTest", Sentences.promises(5, 15));

    private static final int A = Pools.A;
    private static final int P = Pools.P;
    private static final int R = Pools.R;
    private static final int U = Pools.U;
    private static final int M = Pools.M;
    private static final int N = Pools.N;
    private static final int O = Pools.O;
    private static final int LANDS = 4;
    private static final int PLAYERS = 5;
    private static final int SESSIONS = 3;

    /** As much of all as can be told: 6 lands, 16 players, 8 sessions, 8 players and 5 unknown ones in the last. */
    private static final String FULL = full();

    public static void main(String[] args) {
        lands();
        players();
        sessions();
        members();
        seats();
        roles();
        payers();
        rings();
        DOC.end();
    }

    private static void due(String what, long got, long want) {
        DOC.due(what, got, want);
    }

    private static String full() {
        StringBuilder text = new StringBuilder();
        for (int l = 0; l < 6; l++) {
            text.append("land l").append((char) ('a' + l)).append(" all both ").append(l + 1).append(';');
        }
        for (int p = 0; p < 16; p++) {
            text.append("player p").append((char) ('a' + p)).append(" l").append((char) ('a' + p % 6)).append(';');
        }
        for (int s = 0; s < 7; s++) {
            text.append("session s").append((char) ('a' + s)).append(" unknown 5;");
        }
        text.append("session sh");
        for (int p = 8; p < 16; p++) {
            text.append(" p").append((char) ('a' + p)).append(p % 2 == 0 ? " first" : " side");
        }
        return text.append(" unknown 5;").toString();
    }

    private static void lands() {
        DOC.promise(5, "IndexOutOfBoundsException: no such one", () -> {
            RightsPool x = Pools.played();
            RightsPool full = Texts.pool(FULL);
            for (int w = 0; w < 8; w++) {
                int what = w;
                DOC.dueOutside("what " + w + " of land", LANDS, Check.OUTSIDE, l -> x.land(l, what));
            }
            DOC.dueOutside("of a new object", 0, Check.OUTSIDE, l -> new RightsPool().land(l, 0));
            DOC.dueOutside("of six", 6, Check.OUTSIDE, l -> full.land(l, 2));
            due("the first", full.land(0, 2), 1);
            due("the last", full.land(5, 2), 6);
        });
        DOC.promise(5, "NoSuchElementException: no such what", () -> {
            RightsPool x = Pools.played();
            for (int l = 0; l < LANDS; l++) {
                int land = l;
                DOC.dueOutside("land " + l + ", what", 8, Check.NO_ELEMENT, what -> x.land(land, what));
            }
            due("the last what", x.land(A, 7), 2);
        });
    }

    private static void players() {
        DOC.promise(6, "IndexOutOfBoundsException: no such one", () -> {
            RightsPool x = Pools.played();
            RightsPool full = Texts.pool(FULL);
            for (int w = 0; w < 7; w++) {
                int what = w;
                DOC.dueOutside("what " + w + " of player", PLAYERS, Check.OUTSIDE, p -> x.player(p, what));
            }
            DOC.dueOutside("of a new object", 0, Check.OUTSIDE, p -> new RightsPool().player(p, 0));
            DOC.dueOutside("of sixteen", 16, Check.OUTSIDE, p -> full.player(p, 0));
            due("the last", full.player(15, 0), 3);
        });
        DOC.promise(6, "NoSuchElementException: no such what", () -> {
            RightsPool x = Pools.played();
            for (int p = 0; p < PLAYERS; p++) {
                int player = p;
                DOC.dueOutside("player " + p + ", what", 7, Check.NO_ELEMENT, what -> x.player(player, what));
            }
            due("the last what", x.player(P, 6), 3);
        });
    }

    private static void sessions() {
        DOC.promise(7, "IndexOutOfBoundsException: no such one", () -> {
            RightsPool x = Pools.played();
            RightsPool full = Texts.pool(FULL);
            for (int w = 0; w < 7; w++) {
                int what = w;
                DOC.dueOutside("what " + w + " of session", SESSIONS, Check.OUTSIDE, s -> x.session(s, what));
            }
            DOC.dueOutside("of a new object", 0, Check.OUTSIDE, s -> new RightsPool().session(s, 0));
            DOC.dueOutside("of eight", 8, Check.OUTSIDE, s -> full.session(s, 0));
            due("the last: first", full.session(7, 0), 4);
            due("the last: side", full.session(7, 1), 4);
            due("the last: seats", full.session(7, 2), 5);
        });
        DOC.promise(7, "NoSuchElementException: no such what", () -> {
            RightsPool x = Pools.played();
            for (int s = 0; s < SESSIONS; s++) {
                int session = s;
                DOC.dueOutside("session " + s + ", what", 7, Check.NO_ELEMENT, what -> x.session(session, what));
            }
            due("the last what", x.session(M, 6), 284);
        });
    }

    private static void members() {
        DOC.promise(8, "The k-th PLAYER of a SESSION as told (k from 0 on)", () -> {
            RightsPool full = Texts.pool(FULL);
            for (int k = 0; k < 8; k++) {
                due("he, " + k, full.of(7, k, 0), 8 + k);
                due("his role, " + k, full.of(7, k, 1), k % 2);
            }
        });
        DOC.promise(8, "-2: there are not so many", () -> {
            RightsPool x = Pools.fresh();
            RightsPool full = Texts.pool(FULL);
            for (int what = 0; what < 2; what++) {
                due("the third of two", x.of(M, 2, what), -2);
                due("the second of one", x.of(O, 1, what), -2);
                due("far behind", x.of(M, Pools.HIGH, what), -2);
                due("the ninth of eight", full.of(7, 8, what), -2);
                due("of none", full.of(0, 0, what), -2);
            }
            x.claim(U, M);
            due("a seat is none of them", x.of(M, 2, 0), -2);
        });
        DOC.promise(8, "NONE: no such ones", () -> {
            RightsPool x = Pools.fresh();
            DOC.dueOutside("session", SESSIONS, -1, s -> x.of(s, 0, 0));
            DOC.dueOutside("what", 2, -1, what -> x.of(M, 0, what));
            due("k below 0", x.of(M, -1, 0), -1);
            due("k far below 0", x.of(M, Pools.LOW, 1), -1);
            DOC.dueOutside("session of a new object", 0, -1, s -> new RightsPool().of(s, 0, 0));
        });
    }

    private static void seats() {
        DOC.promise(9, "-2: it is OPEN", () -> {
            RightsPool x = Pools.fresh();
            due("the first", x.seat(M, 0), -2);
            due("the last", x.seat(M, 1), -2);
            x.claim(P, O);
            due("player 0 has it", x.seat(O, 0), P);
            x.giveBack(O, 0);
            due("given back", x.seat(O, 0), -2);
        });
        DOC.promise(9, "NONE: no such ones", () -> {
            RightsPool x = Pools.fresh();
            DOC.dueOutside("session", SESSIONS, -1, s -> x.seat(s, 0));
            DOC.dueOutside("seat of two", 2, -1, seat -> x.seat(M, seat));
            DOC.dueOutside("seat of none", 0, -1, seat -> x.seat(N, seat));
            DOC.dueOutside("seat of five", 5, -1, seat -> Texts.pool(FULL).seat(7, seat));
        });
    }

    private static void roles() {
        DOC.promise(10, "-2: he isn't of it", () -> {
            RightsPool x = Pools.fresh();
            due("of none", x.role(U, M), -2);
            due("of another", x.role(P, N), -2);
            x.claim(U, M);
            due("by a claim", x.role(U, M), 2);
            due("of that one alone", x.role(U, O), -2);
            x.giveBack(M, 0);
            due("given back", x.role(U, M), -2);
        });
        DOC.promise(10, "NONE: no such ones", () -> {
            RightsPool x = Pools.fresh();
            DOC.dueOutside("player", PLAYERS, -1, p -> x.role(p, M));
            DOC.dueOutside("session", SESSIONS, -1, s -> x.role(P, s));
            // -2 is what an open seat is told by
            due("no player has an open seat", x.role(-2, M), -1);
        });
    }

    private static void payers() {
        DOC.promise(11, "NONE: no such ones", () -> {
            RightsPool x = Pools.fresh();
            DOC.dueOutside("land", LANDS, -1, l -> x.pays(l, A, 0));
            DOC.dueOutside("other land", LANDS, -1, l -> x.pays(A, l, 1));
            DOC.dueOutside("role", 2, -1, role -> x.pays(A, A, role));
        });
        DOC.promise(12, "How many LANDS PAY a role to PLAYERS of a LAND (itself, too)", () -> {
            RightsPool x = Texts.pool("land a own leads 1; land b own both 1;");
            due("itself alone", x.paidBy(0, 0), 1);
            due("nor itself", x.paidBy(0, 1), 0);
            due("all six", Texts.pool(FULL).paidBy(5, 1), 6);
        });
        DOC.promise(12, "NONE: no such ones", () -> {
            RightsPool x = Pools.fresh();
            DOC.dueOutside("land", LANDS, -1, l -> x.paidBy(l, 0));
            DOC.dueOutside("role", 2, -1, role -> x.paidBy(A, role));
        });
        DOC.promise(13, "Whether two LANDS ANSWER each other (1, 0; of one and itself 1)", () -> {
            RightsPool x = Texts.pool("land a own leads 1; land b own sides 1; land c all both 1;");
            for (int l = 0; l < 3; l++) {
                due("itself " + l, x.answer(l, l), 1);
            }
            due("two of own", x.answer(0, 1), 0);
            due("one pays alone", x.answer(2, 0), 0);
            due("one pays alone, told about", x.answer(0, 2), 0);
        });
        DOC.promise(13, "NONE: no such ones", () -> {
            RightsPool x = Pools.fresh();
            DOC.dueOutside("land", LANDS, -1, l -> x.answer(l, A));
            DOC.dueOutside("other land", LANDS, -1, l -> x.answer(A, l));
            DOC.dueOutside("land and itself", LANDS, -1, l -> x.answer(l, l));
        });
    }

    private static void rings() {
        DOC.promise(14, "NONE: no such one", () -> {
            RightsPool x = Pools.fresh();
            DOC.dueOutside("land", LANDS, -1, x::ring);
            due("all six", Texts.pool(FULL).ring(5), 63);
        });
        DOC.promise(15, "How many RINGS there are", () -> {
            due("no lands", new RightsPool().rings(), 0);
            due("one land", Texts.pool("land a own both 1;").rings(), 1);
            due("one of six lands", Texts.pool(FULL).rings(), 1);
            RightsPool x = Texts.pool(FULL);
            for (int l = 0; l < 6; l++) {
                x.terms(l, 2, 3);
                due("so many of own " + (l + 1), x.rings(), l == 5 ? 6 : l + 2);
            }
        });
    }
}
