/** The boundaries of money as it stands, and of what a play, a claim, a box would bring: promises 25 to 36. */
public final class MoneyBoundsTest {
    private static final Sentences DOC = new Sentences("MoneyBoundsTest", Sentences.promises(25, 36));

    private static final int A = Pools.A;
    private static final int B = Pools.B;
    private static final int C = Pools.C;
    private static final int D = Pools.D;
    private static final int P = Pools.P;
    private static final int Q = Pools.Q;
    private static final int R = Pools.R;
    private static final int T = Pools.T;
    private static final int U = Pools.U;
    private static final int M = Pools.M;
    private static final int N = Pools.N;
    private static final int O = Pools.O;
    private static final int LANDS = 4;
    private static final int PLAYERS = 5;
    private static final int SESSIONS = 3;
    private static final int[] NO_ROLES = {0, 4, -1, 7, Pools.LOW, Pools.HIGH};

    public static void main(String[] args) {
        paid();
        kept();
        lapsing();
        shares();
        plays();
        claims();
        boxes();
        otherTerms();
        DOC.end();
    }

    private static void due(String what, long got, long want) {
        DOC.due(what, got, want);
    }

    /** A land in which no copy more can be played, by a player who is first and a seat. */
    private static RightsPool full() {
        RightsPool x = Texts.pool("land a all both 300; player p a; session s p first unknown 1;");
        for (int k = 0; k < 10; k++) {
            x.play(0, 0, 99999);
        }
        x.play(0, 0, 10);
        return x;
    }

    private static void paid() {
        DOC.promise(25, "NONE: no such ones", () -> {
            RightsPool x = Pools.claimed();
            DOC.dueOutside("player", PLAYERS, -1, p -> x.paid(p, A, 0));
            DOC.dueOutside("land", LANDS, -1, l -> x.paid(P, l, 0));
            DOC.dueOutside("what", 3, -1, what -> x.paid(P, A, what));
            due("the last ones", x.paid(U, D, 2), 4);
        });
    }

    private static void kept() {
        DOC.promise(26, "(0: of this one, 1: of the one ahead .. : 0 where there is none; NONE: of all)", () -> {
            RightsPool x = Texts.pool("land a all both 1; session s unknown 2; keep 9;");
            for (int k = 0; k < 9; k++) {
                x.play(0, 0, 2 << k);
                if (k < 8) {
                    x.year();
                }
            }
            for (int ago = 0; ago < 9; ago++) {
                due("ago " + ago, x.kept(0, 0, 0, ago), 1 << 8 - ago);
            }
            due("where there is none", x.kept(0, 0, 0, 9), 0);
            due("far where there is none", x.kept(0, 0, 0, Pools.HIGH), 0);
            due("would wrap around", x.kept(0, 0, 0, 1 << 29), 0);
            due("of all", x.kept(0, 0, 0, -1), 511);
            x.year();
            due("of this one", x.kept(0, 0, 0, 0), 0);
            due("of the eldest", x.kept(0, 0, 0, 8), 2);
            due("of the one that lapsed", x.kept(0, 0, 0, 9), 0);
            due("of all then", x.kept(0, 0, 0, -1), 510);
            RightsPool y = Pools.played();
            due("ahead of the first year", y.kept(A, M, 0, 1), 0);
            y.year();
            due("the first year", y.kept(A, M, 0, 1), 133);
        });
        DOC.promise(26, "NONE: no such ones", () -> {
            RightsPool x = Pools.played();
            for (int a = -1; a <= 1; a++) {
                int ago = a;
                DOC.dueOutside("land", LANDS, -1, l -> x.kept(l, M, 0, ago));
                DOC.dueOutside("session", SESSIONS, -1, s -> x.kept(A, s, 0, ago));
                DOC.dueOutside("seat of two", 2, -1, seat -> x.kept(A, M, seat, ago));
                DOC.dueOutside("seat of none", 0, -1, seat -> x.kept(A, N, seat, ago));
            }
        });
        DOC.promise(27, "NONE: no such ones", () -> {
            RightsPool x = Pools.aged();
            DOC.dueOutside("land", LANDS, -1, l -> x.lapsed(l, M, 0));
            DOC.dueOutside("session", SESSIONS, -1, s -> x.lapsed(A, s, 0));
            DOC.dueOutside("seat of two", 2, -1, seat -> x.lapsed(A, M, seat));
            DOC.dueOutside("seat of none", 0, -1, seat -> x.lapsed(A, N, seat));
            due("the last ones", x.lapsed(D, M, 1), 9);
        });
    }

    private static void lapsing() {
        DOC.promise(28, "as n (1 .. 9) YEARS go by", () -> {
            for (int keep = 1; keep <= 9; keep++) {
                RightsPool x = Texts.pool("land a all both 1; session s unknown 1; keep " + keep + ";");
                x.play(0, 0, 5);
                for (int n = 1; n <= 9; n++) {
                    due("keep " + keep + ", years " + n, x.lapses(0, n), n < keep ? 0 : 5);
                }
            }
            RightsPool y = Pools.played();
            y.year();
            y.play(A, M, 10);
            due("the next year", y.lapses(A, 1), 266);
            due("with the one behind", y.lapses(A, 2), 292);
            due("not what lapsed already", Pools.aged().lapses(A, 9), 0);
        });
        DOC.promise(28, "NONE: no such ones", () -> {
            RightsPool x = Pools.played();
            DOC.dueOutside("land", LANDS, -1, l -> x.lapses(l, 1));
            for (int n : new int[] {0, 10, -1, Pools.LOW, Pools.HIGH}) {
                due("years " + n, x.lapses(A, n), -1);
            }
        });
    }

    private static void shares() {
        DOC.promise(29, "What one of a SESSION has of a PLAY in a LAND (COPIES 1 .. 99999, MONEY whatever it is)", () -> {
            RightsPool x = full();
            due("one copy", x.share(0, 0, 1, 0), 180);
            due("as many as can be", x.share(0, 0, 99999, 0), 17999820);
            due("a seat", x.share(0, 0, 99999, 1), 11999880);
            DOC.dueOfCopies(-1, copies -> x.share(0, 0, copies, 0));
        });
        DOC.promise(29, "the k-th PLAYER (k from 0 on), behind them SEATS", () -> {
            RightsPool x = Pools.fresh();
            int[] shares = {600, 134, 133, 133};
            for (int k = 0; k < 4; k++) {
                due("k " + k, x.share(A, M, 100, k), shares[k]);
            }
            due("seats alone", Texts.pool("land a all both 1; session s unknown 5;").share(0, 0, 6, 4), 1);
        });
        DOC.promise(29, "-2: there are not so many", () -> {
            RightsPool x = Pools.fresh();
            due("two and two", x.share(A, M, 100, 4), -2);
            due("two", x.share(A, N, 100, 2), -2);
            due("one and one", x.share(A, O, 100, 2), -2);
            due("far behind", x.share(A, M, 100, Pools.HIGH), -2);
            x.claim(U, M);
            due("with a claim", x.share(A, M, 100, 4), -2);
        });
        DOC.promise(29, "NONE: no such ones", () -> {
            RightsPool x = Pools.fresh();
            DOC.dueOutside("land", LANDS, -1, l -> x.share(l, M, 1, 0));
            DOC.dueOutside("session", SESSIONS, -1, s -> x.share(A, s, 1, 0));
            due("k below 0", x.share(A, M, 1, -1), -1);
            due("k far below 0", x.share(A, M, 1, Pools.LOW), -1);
        });
    }

    private static void plays() {
        DOC.promise(30, "-2: as play()", () -> {
            RightsPool x = full();
            for (int what = 0; what < 3; what++) {
                due("one copy, what " + what, x.wouldPlay(0, 0, 1, what), -2);
                due("many, what " + what, x.wouldPlay(0, 0, 99999, what), -2);
            }
            x.undo();
            due("the whole of it", x.wouldPlay(0, 0, 10, 0), 1800);
            due("a copy beyond", x.wouldPlay(0, 0, 11, 0), -2);
            RightsPool y = Texts.pool("land a all both 49; session s unknown 1;");
            for (int k = 0; k < 61; k++) {
                y.play(0, 0, 99999);
            }
            due("a cent beyond", y.wouldPlay(0, 0, 22510, 1), -2);
            due("not beyond", y.wouldPlay(0, 0, 22509, 1), 1102941);
        });
        DOC.promise(30, "NONE: no such ones", () -> {
            RightsPool x = Pools.fresh();
            DOC.dueOutside("land", LANDS, -1, l -> x.wouldPlay(l, M, 1, 0));
            DOC.dueOutside("session", SESSIONS, -1, s -> x.wouldPlay(A, s, 1, 0));
            DOC.dueOutside("what", 3, -1, what -> x.wouldPlay(A, M, 1, what));
            DOC.dueOfCopies(-1, copies -> x.wouldPlay(A, M, copies, 0));
        });
    }

    private static void claims() {
        DOC.promise(31, "-2, -3, NONE as claim()", () -> {
            RightsPool x = Pools.claimed();
            due("first", x.wouldClaim(P, M), -2);
            due("side", x.wouldClaim(T, O), -2);
            due("by a claim", x.wouldClaim(R, M), -2);
            due("all are claimed", x.wouldClaim(T, M), -3);
            due("there is none", x.wouldClaim(U, N), -3);
            DOC.dueOutside("player", PLAYERS, -1, p -> x.wouldClaim(p, O));
            DOC.dueOutside("session", SESSIONS, -1, s -> x.wouldClaim(U, s));
            due("for nothing", x.wouldClaim(P, O), 0);
        });
        DOC.promise(32, "The SESSION by a CLAIM of which a PLAYER would be PAID most, of several the first (what 0), how much (1)", () -> {
            RightsPool x = Texts.pool("land a all both 1; player p a; session s unknown 1; session u unknown 1; session v unknown 1;");
            due("all for nothing", x.bestClaim(0, 0), 0);
            due("nothing", x.bestClaim(0, 1), 0);
            x.play(0, 1, 5);
            x.play(0, 2, 5);
            due("two alike", x.bestClaim(0, 0), 1);
            due("how much", x.bestClaim(0, 1), 5);
            x.play(0, 2, 1);
            due("a cent more", x.bestClaim(0, 0), 2);
        });
        DOC.promise(32, "-2: there is none that he could claim", () -> {
            RightsPool x = Pools.claimed();
            for (int what = 0; what < 2; what++) {
                due("of all, or no seat is open", x.bestClaim(T, what), -2);
                due("no sessions", Texts.pool("land a all both 1; player p a;").bestClaim(0, what), -2);
            }
            due("one for nothing", x.bestClaim(P, 1), 0);
        });
        DOC.promise(32, "NONE: no such ones", () -> {
            RightsPool x = Pools.played();
            DOC.dueOutside("player", PLAYERS, -1, p -> x.bestClaim(p, 0));
            DOC.dueOutside("what", 2, -1, what -> x.bestClaim(U, what));
        });
        DOC.promise(33, "The PLAYER to whom a CLAIM of a SESSION would bring most, of several the first (what 0), how much (1)", () -> {
            RightsPool x = Pools.aged();
            due("t and u alike", x.claimant(M, 0), T);
            due("how much", x.claimant(M, 1), 142);
            due("r alone", x.claimant(O, 0), R);
            due("nothing for all", Pools.fresh().claimant(O, 0), P);
            due("nothing", Pools.fresh().claimant(O, 1), 0);
        });
        DOC.promise(33, "-2: there is none", () -> {
            for (int what = 0; what < 2; what++) {
                due("no seats", Pools.aged().claimant(N, what), -2);
                due("no open one", Pools.claimed().claimant(M, what), -2);
                due("no players", Texts.pool("session s unknown 1;").claimant(0, what), -2);
                due("all are of it", Texts.pool("land a all both 1; player p a; session s p side unknown 1;").claimant(0, what), -2);
            }
        });
        DOC.promise(33, "NONE: no such ones", () -> {
            RightsPool x = Pools.played();
            DOC.dueOutside("session", SESSIONS, -1, s -> x.claimant(s, 0));
            DOC.dueOutside("what", 2, -1, what -> x.claimant(M, what));
        });
    }

    private static void boxes() {
        DOC.promise(34, "-2, -3, NONE as part() (NONE: no such PLAYER, too)", () -> {
            RightsPool x = Pools.aged();
            x.part(A);
            for (int p = 0; p < PLAYERS; p++) {
                due("empty, player " + p, x.wouldPart(A, p), -2);
                due("no weight, player " + p, x.wouldPart(C, p), -3);
            }
            DOC.dueOutside("land", LANDS, -1, l -> x.wouldPart(l, P));
            DOC.dueOutside("player", PLAYERS, -1, p -> x.wouldPart(B, p));
            DOC.dueOutside("player, empty", PLAYERS, -1, p -> x.wouldPart(A, p));
            DOC.dueOutside("player, no weight", PLAYERS, -1, p -> x.wouldPart(C, p));
            due("one without a weight", x.wouldPart(B, U), 0);
        });
    }

    private static void otherTerms() {
        DOC.promise(35, "(may be below 0)", () -> {
            RightsPool x = Pools.fresh();
            due("less", x.gain(P, D, M, 10, 2, 3), -42);
            due("one less cent of one copy", x.gain(Q, A, M, 1, 0, 1), -2);
            due("more", x.gain(Q, D, M, 10, 0, 3), 10);
            due("by the same", x.gain(P, D, M, 10, 1, 3), 0);
        });
        DOC.promise(35, "-1000000000: no such ones", () -> {
            RightsPool x = Pools.fresh();
            DOC.dueOutside("player", PLAYERS, Pools.NO_SUM, p -> x.gain(p, D, M, 10, 0, 3));
            DOC.dueOutside("land", LANDS, Pools.NO_SUM, l -> x.gain(P, l, M, 10, 0, 3));
            DOC.dueOutside("session", SESSIONS, Pools.NO_SUM, s -> x.gain(P, D, s, 10, 0, 3));
            DOC.dueOutside("term", 3, Pools.NO_SUM, term -> x.gain(P, D, M, 10, term, 3));
            DOC.dueOfCopies(Pools.NO_SUM, copies -> x.gain(P, D, M, copies, 0, 3));
            for (int roles : NO_ROLES) {
                due("roles " + roles, x.gain(P, D, M, 10, 0, roles), Pools.NO_SUM);
            }
        });
        DOC.promise(36, "NONE: no such ones", () -> {
            RightsPool x = Pools.fresh();
            DOC.dueOutside("role", 2, -1, role -> x.pairs(role, C, 1, 3));
            DOC.dueOutside("land", LANDS, -1, l -> x.pairs(0, l, 1, 3));
            DOC.dueOutside("term", 3, -1, term -> x.pairs(0, C, term, 3));
            for (int roles : NO_ROLES) {
                due("roles " + roles, x.pairs(0, C, 1, roles), -1);
            }
        });
        DOC.promise(36, "pairs of a LAND and another one", () -> {
            due("of one land", Texts.pool("land a all both 1;").pairs(0, 0, 0, 3), 0);
            due("of two", Texts.pool("land a all both 1; land b own both 1;").pairs(0, 1, 0, 3), 2);
            RightsPool x = Texts.pool("land a all both 1; land b all both 1; land c all both 1; land d all both 1; land e all both 1;"
                + "land f all both 1;");
            due("of six, all", x.pairs(1, 5, 0, 3), 30);
            due("of six, one of own", x.pairs(1, 5, 2, 3), 25);
            due("of six, one of the other role", x.pairs(1, 5, 0, 1), 25);
        });
    }
}
