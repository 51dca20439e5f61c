/** The boundaries of what is told of single lands and sessions, and of all together: promises 51 to 59. */
public final class SumBoundsTest {
    private static final Sentences DOC = new Sentences("SumBoundsTest", Sentences.promises(51, 59));

    private static final int A = Pools.A;
    private static final int C = Pools.C;
    private static final int P = Pools.P;
    private static final int R = Pools.R;
    private static final int T = Pools.T;
    private static final int U = Pools.U;
    private static final int M = Pools.M;
    private static final int N = Pools.N;
    private static final int O = Pools.O;
    private static final int LANDS = 4;
    private static final int SESSIONS = 3;

    public static void main(String[] args) {
        answers();
        poorest();
        seats();
        splits();
        dearest();
        reached();
        sums();
        DOC.end();
    }

    private static void due(String what, long got, long want) {
        DOC.due(what, got, want);
    }

    private static void answers() {
        DOC.promise(51, "LANDS (bits) that ANSWER a LAND and it them (not itself)", () -> {
            due("one land", Texts.pool("land a all both 1;").answers(0), 0);
            RightsPool x = Texts.pool("land a all both 1; land b all both 1; land c all both 1; land d all both 1; land e all both 1;"
                + "land f all both 1;");
            for (int l = 0; l < 6; l++) {
                due("all but " + l, x.answers(l), 63 - (1 << l));
            }
            x.terms(3, 2, 3);
            due("all but it and d", x.answers(0), 54);
            due("d", x.answers(3), 0);
        });
        DOC.promise(51, "NONE: no such one", () -> DOC.dueOutside("land", LANDS, -1, Pools.fresh()::answers));
    }

    private static void poorest() {
        DOC.promise(52, "Of PLAYERS of a LAND the one PAID least in all, of several the first (what 0), how much (1)", () -> {
            RightsPool x = Texts.pool("land a all both 1; land b all both 1; player p b; player q a; player r a; session s q first"
                + " r first; session u q first;");
            due("two alike", x.poorest(0, 0), 1);
            due("nothing", x.poorest(0, 1), 0);
            x.play(0, 0, 8);
            due("two alike, paid", x.poorest(0, 0), 1);
            due("how much", x.poorest(0, 1), 4);
            x.play(1, 1, 1);
            due("a cent less, in all", x.poorest(0, 0), 2);
            due("of b", x.poorest(1, 0), 0);
        });
        DOC.promise(52, "-2: it has none", () -> {
            RightsPool x = Pools.played();
            x.move(R, A);
            for (int what = 0; what < 2; what++) {
                due("moved away", x.poorest(C, what), -2);
                due("no players", Texts.pool("land a all both 1;").poorest(0, what), -2);
            }
            due("moved there", x.poorest(A, 0), R);
        });
        DOC.promise(52, "NONE: no such ones", () -> {
            RightsPool x = Pools.played();
            DOC.dueOutside("land", LANDS, -1, l -> x.poorest(l, 0));
            DOC.dueOutside("what", 2, -1, what -> x.poorest(A, what));
        });
    }

    private static void seats() {
        DOC.promise(53, "NONE: no such one", () -> {
            RightsPool x = Pools.fresh();
            DOC.dueOutside("session", SESSIONS, -1, x::openSeats);
            due("no seats", x.openSeats(N), 0);
            RightsPool five = Texts.pool("land a all both 1; player p a; session s unknown 5;");
            due("five", five.openSeats(0), 31);
            five.claim(0, 0);
            due("four", five.openSeats(0), 30);
            due("all are claimed", Pools.claimed().openSeats(M), 0);
        });
        DOC.promise(54, "LAPSED of a SESSION's first OPEN SEAT, in all LANDS together", () -> {
            RightsPool x = Pools.aged();
            due("seat 0", x.late(M), 142);
            x.claim(U, M);
            due("seat 1", x.late(M), 142);
            x.giveBack(M, 0);
            due("seat 0 again, nothing of it", x.late(M), 0);
            due("nothing yet", Pools.played().late(M), 0);
        });
        DOC.promise(54, "-3: no SEAT is OPEN", () -> {
            due("there is none", Pools.aged().late(N), -3);
            due("all are claimed", Pools.claimed().late(M), -3);
        });
        DOC.promise(54, "NONE: no such one", () -> DOC.dueOutside("session", SESSIONS, -1, Pools.aged()::late));
    }

    private static void splits() {
        DOC.promise(55, "Of a PLAY in a LAND (COPIES 1 .. 99999, MONEY whatever it is)", () -> {
            RightsPool x = Texts.pool("land a all both 999; player p a; session s p first unknown 1;");
            for (int k = 0; k < 3; k++) {
                x.play(0, 0, 99999);
            }
            due("one copy", x.split(0, 0, 1, 0), 599);
            due("its rest", x.split(0, 0, 1, 1), 400);
            due("as many as can be", x.split(0, 0, 99999, 0), 59939400);
            due("their rest", x.split(0, 0, 99999, 2), 39959601);
            DOC.dueOfCopies(-1, copies -> x.split(0, 0, copies, 0));
        });
        DOC.promise(55, "1 the others (SEATS, too), 2 OPEN SEATS alone", () -> {
            RightsPool x = Pools.fresh();
            due("others", x.split(A, M, 100, 1), 400);
            due("open seats", x.split(A, M, 100, 2), 266);
            x.claim(U, M);
            due("others with a claim", x.split(A, M, 100, 1), 400);
            due("the open one", x.split(A, M, 100, 2), 133);
            due("no seats", x.split(A, N, 100, 2), 0);
        });
        DOC.promise(55, "NONE: no such ones", () -> {
            RightsPool x = Pools.fresh();
            DOC.dueOutside("land", LANDS, -1, l -> x.split(l, M, 1, 0));
            DOC.dueOutside("session", SESSIONS, -1, s -> x.split(A, s, 1, 0));
            DOC.dueOutside("what", 3, -1, what -> x.split(A, M, 1, what));
        });
    }

    private static void dearest() {
        DOC.promise(56, "The SESSION of most MONEY, of several the first (what 0), how much (1)", () -> {
            RightsPool x = Pools.fresh();
            due("all alike", x.dearest(0), M);
            due("nothing", x.dearest(1), 0);
            x.play(A, N, 7);
            x.play(A, O, 7);
            due("two alike", x.dearest(0), N);
            due("how much", x.dearest(1), 70);
            x.play(C, O, 1);
            due("more", x.dearest(0), O);
        });
        DOC.promise(56, "-2: there are no SESSIONS", () -> {
            for (int what = 0; what < 2; what++) {
                due("new", new RightsPool().dearest(what), -2);
                due("lands alone", Texts.pool("land a all both 1; player p a;").dearest(what), -2);
            }
        });
        DOC.promise(56, "NONE: no such what", () -> {
            DOC.dueOutside("what", 2, -1, Pools.played()::dearest);
            DOC.dueOutside("what of a new object", 2, -1, new RightsPool()::dearest);
        });
    }

    private static void reached() {
        DOC.promise(57, "NONE: no such ones", () -> {
            RightsPool x = Pools.fresh();
            DOC.dueOutside("land", LANDS, -1, l -> x.reached(l, M));
            DOC.dueOutside("session", SESSIONS, -1, s -> x.reached(A, s));
            due("nobody", x.reached(C, M), 0);
            due("seats alone", Texts.pool("land a all both 1; session s unknown 5;").reached(0, 0), 0);
        });
    }

    private static void sums() {
        DOC.promise(58, "NONE for another what", () -> {
            DOC.dueOutside("what", 6, -1, Pools.aged()::money);
            DOC.dueOutside("what of a new object", 6, -1, new RightsPool()::money);
            due("the last what", Pools.aged().money(5), 309);
        });
        DOC.promise(58, "All money, what 0 of all PLAYS", () -> {
            // six full lands are 1800000000, which an int still holds
            RightsPool x = Texts.pool("land a all both 300; land b all both 300; land c all both 300; land d all both 300; land e all"
                + " both 300; land f all both 300; player p a; session s p first;");
            for (int l = 0; l < 6; l++) {
                for (int k = 0; k < 10; k++) {
                    x.play(l, 0, 99999);
                }
                x.play(l, 0, 10);
            }
            due("of all plays", x.money(0), 1800000000);
            due("paid", x.money(1), 1800000000);
            due("of the player", x.player(0, 1), 1800000000);
            due("of the session", x.session(0, 5), 1800000000);
            due("net", x.net(0), 1500000000);
            due("least net", x.net(5), -300000000);
            due("most", x.most(-1, 1), 1800000000);
            due("dearest", x.dearest(1), 1800000000);
        });
        DOC.promise(59, "NONE for another what", () -> {
            DOC.dueOutside("what", 10, -1, Pools.aged()::count);
            DOC.dueOutside("what of a new object", 10, -1, new RightsPool()::count);
            due("the last what", Pools.aged().count(9), 0);
        });
        DOC.promise(59, "7 OPEN SEATS, 8 what can be undone, 9 bytes of the TAPE", () -> {
            RightsPool x = Pools.fresh();
            due("open seats", x.count(7), 3);
            x.claim(U, M);
            x.claim(T, M);
            x.claim(P, O);
            due("none is open", x.count(7), 0);
            due("three to undo", x.count(8), 3);
            x.undo();
            due("one is open", x.count(7), 1);
            x.feed(0, 0, 0, 0, 0);
            due("bytes", x.count(9), 20);
        });
    }
}
