/** The boundaries of what is told of the most, the least, and what would be by a round: promises 37 to 50. */
public final class RankBoundsTest {
    private static final Sentences DOC = new Sentences("RankBoundsTest", Sentences.promises(37, 50));

    private static final int A = Pools.A;
    private static final int B = Pools.B;
    private static final int C = Pools.C;
    private static final int D = Pools.D;
    private static final int P = Pools.P;
    private static final int Q = Pools.Q;
    private static final int R = Pools.R;
    private static final int T = Pools.T;
    private static final int U = Pools.U;
    private static final int M = Pools.M;
    private static final int LANDS = 4;
    private static final int PLAYERS = 5;
    private static final int SESSIONS = 3;

    public static void main(String[] args) {
        mostPaid();
        ranked();
        across();
        idle();
        nextLapse();
        bestLand();
        extremes();
        rounds();
        statements();
        homes();
        DOC.end();
    }

    private static void due(String what, long got, long want) {
        DOC.due(what, got, want);
    }

    private static void mostPaid() {
        DOC.promise(37, "The PLAYER PAID most (l NONE: in all LANDS), of several the first (what 0), how much (1)", () -> {
            RightsPool x = Texts.pool("land a all both 1; land b all both 1; player p a; player q a; player r a; session s q first"
                + " r first; session u r first;");
            due("nobody", x.most(-1, 0), 0);
            due("nothing", x.most(-1, 1), 0);
            x.play(0, 0, 6);
            due("two alike in a", x.most(0, 0), 1);
            due("two alike in all", x.most(-1, 0), 1);
            due("how much", x.most(-1, 1), 3);
            x.play(1, 1, 1);
            due("a cent more in all", x.most(-1, 0), 2);
            due("how much in all", x.most(-1, 1), 4);
            due("still alike in a", x.most(0, 0), 1);
            due("in b", x.most(1, 1), 1);
        });
        DOC.promise(37, "-2: there are no PLAYERS", () -> {
            for (int what = 0; what < 2; what++) {
                due("in all", new RightsPool().most(-1, what), -2);
                due("in a land", Texts.pool("land a all both 1;").most(0, what), -2);
                due("in all of one", Texts.pool("land a all both 1;").most(-1, what), -2);
            }
        });
        DOC.promise(37, "NONE: no such ones", () -> {
            RightsPool x = Pools.played();
            for (int l : new int[] {-2, LANDS, Pools.LOW, Pools.HIGH}) {
                due("land " + l, x.most(l, 0), -1);
            }
            DOC.dueOutside("what", 2, -1, what -> x.most(A, what));
            DOC.dueOutside("what in all", 2, -1, what -> x.most(-1, what));
        });
    }

    private static void ranked() {
        DOC.promise(38, "The k-th PLAYER by what he is PAID in all, most first, of like ones by numbers (k from 0 on)", () -> {
            RightsPool fresh = Pools.fresh();
            for (int k = 0; k < PLAYERS; k++) {
                due("all alike " + k, fresh.ranked(k), k);
            }
            RightsPool x = Pools.played();
            int[] ranked = {P, Q, T, R, U};
            for (int k = 0; k < PLAYERS; k++) {
                due("k " + k, x.ranked(k), ranked[k]);
            }
        });
        DOC.promise(38, "-2: there are not so many", () -> {
            due("five", Pools.played().ranked(5), -2);
            due("far behind", Pools.played().ranked(Pools.HIGH), -2);
            due("none", new RightsPool().ranked(0), -2);
        });
        DOC.promise(38, "NONE: k below 0", () -> {
            due("by one", Pools.played().ranked(-1), -1);
            due("far", Pools.played().ranked(Pools.LOW), -1);
            due("of none", new RightsPool().ranked(-1), -1);
        });
    }

    private static void across() {
        DOC.promise(39, "-1000000000: no such ones", () -> {
            RightsPool x = Pools.played();
            DOC.dueOutside("land", LANDS, Pools.NO_SUM, l -> x.across(l, A, false));
            DOC.dueOutside("other land", LANDS, Pools.NO_SUM, l -> x.across(A, l, false));
            DOC.dueOutside("land, balance", LANDS, Pools.NO_SUM, l -> x.across(l, A, true));
            DOC.dueOutside("land and itself, balance", LANDS, Pools.NO_SUM, l -> x.across(l, l, true));
            due("its own", x.across(A, A, false), 600);
            due("its own, balance", x.across(A, A, true), 0);
        });
    }

    private static void idle() {
        DOC.promise(40, "who are of no SESSION (nor by a CLAIM) and were PAID nothing", () -> {
            due("no players", new RightsPool().idle(), 0);
            RightsPool x = Texts.pool("land a all both 1; player p a; player q a; session s unknown 1; session u q first;");
            due("the first alone", x.idle(), 1);
            x.claim(0, 0);
            due("by a claim", x.idle(), 0);
            x.giveBack(0, 0);
            due("given back", x.idle(), 1);
            x.play(0, 0, 1);
            x.claim(0, 0);
            x.giveBack(0, 0);
            due("paid a cent", x.idle(), 0);
            StringBuilder text = new StringBuilder("land z all both 1;");
            for (int p = 0; p < 16; p++) {
                text.append("player ").append((char) ('a' + p)).append(" z;");
            }
            due("all sixteen", Texts.pool(text.toString()).idle(), 65535);
        });
    }

    private static void nextLapse() {
        DOC.promise(41, "In how many YEARS something LAPSES in a LAND next (1 .. 9)", () -> {
            for (int keep = 1; keep <= 9; keep++) {
                RightsPool x = Texts.pool("land a all both 1; land b all both 1; session s unknown 1; keep " + keep + ";");
                for (int k = 0; k < keep; k++) {
                    x.play(k == 0 ? 0 : 1, 0, 5);
                    due("keep " + keep + ", year " + k, x.nextLapse(0), keep - k);
                    due("the other, keep " + keep + ", year " + k, x.nextLapse(1), k == 0 ? -2 : keep - k + 1);
                    x.year();
                }
                due("lapsed", x.nextLapse(0), -2);
            }
        });
        DOC.promise(41, "-2: nothing is KEPT there", () -> {
            RightsPool x = Pools.played();
            due("b", x.nextLapse(B), -2);
            due("a", x.nextLapse(A), 2);
            due("fresh", Pools.fresh().nextLapse(A), -2);
            due("all lapsed", Pools.aged().nextLapse(A), -2);
            RightsPool zero = Texts.pool("land a all both 1; player p a; session s p side unknown 1;");
            zero.play(0, 0, 1);
            due("a seat without a cent", zero.nextLapse(0), -2);
            zero.play(0, 0, 2);
            due("a cent", zero.nextLapse(0), 3);
        });
        DOC.promise(41, "NONE: no such one", () -> DOC.dueOutside("land", LANDS, -1, Pools.played()::nextLapse));
    }

    private static void bestLand() {
        DOC.promise(42, "The LAND in which a PLAYER would be PAID most by a PLAY of a SESSION (COPIES 1 .. 99999, MONEY whatever it"
            + " is), of several the first (what 0), how much (1)", () -> {
                RightsPool x = Texts.pool("land a own both 9; land b all both 3; land c all both 3; player p b; session s p first;");
                due("two alike", x.bestLand(0, 0, 1, 0), 1);
                due("one copy", x.bestLand(0, 0, 1, 1), 3);
                due("as many as can be", x.bestLand(0, 0, 99999, 1), 299997);
                DOC.dueOfCopies(-1, copies -> x.bestLand(0, 0, copies, 0));
                RightsPool y = Texts.pool("land a all both 300; land b all both 299; player p a; session s p first;");
                for (int k = 0; k < 10; k++) {
                    y.play(0, 0, 99999);
                }
                due("though it is full", y.bestLand(0, 0, 99999, 0), 0);
                due("how much", y.bestLand(0, 0, 99999, 1), 29999700);
                due("of none the first", Pools.fresh().bestLand(U, M, 10, 0), 0);
                due("nothing", Pools.fresh().bestLand(U, M, 10, 1), 0);
            });
        DOC.promise(42, "-2: there are no LANDS", () -> {
            // a player needs a land, and NONE goes first
            RightsPool x = Texts.pool("session s unknown 1;");
            for (int what = 0; what < 2; what++) {
                due("nor players", x.bestLand(0, 0, 1, what), -1);
                due("nor sessions", new RightsPool().bestLand(0, 0, 1, what), -1);
            }
        });
        DOC.promise(42, "NONE: no such ones", () -> {
            RightsPool x = Pools.fresh();
            DOC.dueOutside("player", PLAYERS, -1, p -> x.bestLand(p, M, 1, 0));
            DOC.dueOutside("session", SESSIONS, -1, s -> x.bestLand(P, s, 1, 0));
            DOC.dueOutside("what", 2, -1, what -> x.bestLand(P, M, 1, what));
        });
    }

    private static void extremes() {
        DOC.promise(43, "-1000000000: no such LAND", () -> {
            DOC.dueOutside("land", LANDS, Pools.NO_SUM, Pools.played()::net);
            due("nothing", Pools.fresh().net(D), 0);
            due("below 0", Pools.played().net(D), -42);
        });
        DOC.promise(44, "The LAND of greatest (what 0), least NET (1), of several the first", () -> {
            due("all alike, greatest", Pools.fresh().extreme(0), A);
            due("all alike, least", Pools.fresh().extreme(1), A);
            RightsPool x = Texts.pool("land a all both 1; land b all both 1; land c all both 1; land d all both 1; player p a; player"
                + " q b; player r c; player t d; session s p first q first; session u r first t first;");
            x.play(2, 0, 20);
            x.play(3, 0, 20);
            due("a and b alike", x.extreme(0), 0);
            due("c and d alike", x.extreme(1), 2);
            x.move(0, 1);
            due("b alone", x.extreme(0), 1);
        });
        DOC.promise(44, "-2: there are no LANDS", () -> {
            due("greatest", new RightsPool().extreme(0), -2);
            due("least", new RightsPool().extreme(1), -2);
        });
        DOC.promise(44, "NONE: no such what", () -> {
            DOC.dueOutside("what", 2, -1, Pools.played()::extreme);
            DOC.dueOutside("what without lands", 2, -1, new RightsPool()::extreme);
        });
    }

    private static void rounds() {
        DOC.promise(45, "NONE: no such ones", () -> {
            RightsPool x = Pools.fresh();
            DOC.dueOutside("land", LANDS, -1, l -> x.round(l, 0));
            DOC.dueOutside("what", 4, -1, what -> x.round(A, what));
            due("no sessions", Texts.pool("land a all both 1; player p a;").round(0, 0), 0);
        });
        DOC.promise(46, "OTHER TERMS of a LAND (its own, too) by which round(l, 0) would be most, of several the least TERM, then ROLES",
            () -> {
                RightsPool none = Texts.pool("land a own both 1;");
                due("all alike: term", none.bestTerms(0, 0), 0);
                due("all alike: roles", none.bestTerms(0, 1), 1);
                due("all alike: how much", none.bestTerms(0, 2), 0);
                RightsPool side = Texts.pool("land a own leads 1; player p a; session s p side;");
                due("side: term", side.bestTerms(0, 0), 0);
                due("side: roles", side.bestTerms(0, 1), 2);
                due("side: how much", side.bestTerms(0, 2), 1000);
                // a like land of the same role pays, if it is not own: all does as well
                RightsPool like = Texts.pool("land a own both 1; land b like both 1; player p a; session s p first unknown 1;");
                due("its own are worse: term", like.bestTerms(0, 0), 0);
                due("its own are worse: roles", like.bestTerms(0, 1), 1);
                due("its own are worse: how much", like.bestTerms(0, 2), 1200);
                RightsPool both = Texts.pool("land a all both 1; player p a; player q a; session s p first q side;");
                due("its own: roles", both.bestTerms(0, 1), 3);
                due("its own: how much", both.bestTerms(0, 2), 1000);
            });
        DOC.promise(46, "NONE: no such ones", () -> {
            RightsPool x = Pools.fresh();
            DOC.dueOutside("land", LANDS, -1, l -> x.bestTerms(l, 0));
            DOC.dueOutside("what", 3, -1, what -> x.bestTerms(A, what));
        });
        DOC.promise(47, "NONE for another what", () -> {
            DOC.dueOutside("what", 2, -1, Pools.fresh()::unknown);
            DOC.dueOutside("what of a new object", 2, -1, new RightsPool()::unknown);
            due("no lands", new RightsPool().unknown(0), 0);
            due("the only open seat, in b", Pools.claimed().unknown(1), 10000);
        });
    }

    private static void statements() {
        DOC.promise(48, "The k-th LAND in which a PLAYER was PAID something, by numbers (k from 0 on)", () -> {
            RightsPool x = Texts.pool("land a own both 1; land b all both 1; land c all both 1; player p b; session s p first;");
            x.play(2, 0, 1);
            due("a cent alone", x.statement(0, 0, 0), 2);
            due("a cent", x.statement(0, 0, 1), 1);
            x.play(1, 0, 7);
            x.play(0, 0, 7);
            due("by numbers", x.statement(0, 0, 0), 1);
            due("behind it", x.statement(0, 1, 0), 2);
            due("not a", x.statement(0, 2, 0), -2);
            RightsPool cent = Texts.pool("land a all both 1; land b all both 1; player p b; session s p first;");
            cent.play(0, 0, 1);
            cent.play(1, 0, 2);
            due("a cent is the first", cent.statement(0, 0, 0), 0);
            due("the second", cent.statement(0, 1, 0), 1);
        });
        DOC.promise(48, "-2: there are not so many", () -> {
            RightsPool x = Pools.played();
            for (int what = 0; what < 2; what++) {
                due("three", x.statement(P, 3, what), -2);
                due("far behind", x.statement(P, Pools.HIGH, what), -2);
                due("none", x.statement(U, 0, what), -2);
            }
        });
        DOC.promise(48, "NONE: no such ones", () -> {
            RightsPool x = Pools.played();
            DOC.dueOutside("player", PLAYERS, -1, p -> x.statement(p, 0, 0));
            DOC.dueOutside("what", 2, -1, what -> x.statement(P, 0, what));
            due("k below 0", x.statement(P, -1, 0), -1);
            due("k far below 0", x.statement(P, Pools.LOW, 1), -1);
        });
    }

    private static void homes() {
        DOC.promise(49, "(may be below 0)", () -> {
            RightsPool x = Pools.fresh();
            due("less", x.moveGain(T, C), -14500);
            due("more", x.moveGain(Q, A), 934);
            due("where he is", x.moveGain(Q, B), 0);
        });
        DOC.promise(49, "-1000000000: no such ones", () -> {
            RightsPool x = Pools.fresh();
            DOC.dueOutside("player", PLAYERS, Pools.NO_SUM, p -> x.moveGain(p, A));
            DOC.dueOutside("land", LANDS, Pools.NO_SUM, l -> x.moveGain(P, l));
        });
        DOC.promise(50, "The LAND by being of which a PLAYER would be PAID most by a ROUND, of several the first (what 0), how much (1)",
            () -> {
                RightsPool x = Texts.pool("land a own both 1; land b own both 2; land c own both 2; player p c; player q a; session s"
                    + " p first;");
                due("two alike", x.bestHome(0, 0), 1);
                due("how much", x.bestHome(0, 1), 2000);
                due("all alike", x.bestHome(1, 0), 0);
                due("nothing", x.bestHome(1, 1), 0);
            });
        DOC.promise(50, "NONE: no such ones", () -> {
            RightsPool x = Pools.fresh();
            DOC.dueOutside("player", PLAYERS, -1, p -> x.bestHome(p, 0));
            DOC.dueOutside("what", 2, -1, what -> x.bestHome(P, what));
        });
    }
}
