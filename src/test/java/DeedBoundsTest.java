/** The boundaries of what happens, and that a refused call changes nothing: promises 16 to 24. */
public final class DeedBoundsTest {
    private static final Sentences DOC = new Sentences("DeedBoundsTest", Sentences.promises(16, 24));

    private static final int A = Pools.A;
    private static final int B = Pools.B;
    private static final int C = Pools.C;
    private static final int D = Pools.D;
    private static final int P = Pools.P;
    private static final int R = Pools.R;
    private static final int T = Pools.T;
    private static final int U = Pools.U;
    private static final int M = Pools.M;
    private static final int N = Pools.N;
    private static final int O = Pools.O;
    private static final int LANDS = 4;
    private static final int PLAYERS = 5;
    private static final int SESSIONS = 3;

    public static void main(String[] args) {
        playing();
        passingYears();
        claiming();
        parting();
        partingAll();
        otherTerms();
        moving();
        givingBack();
        undoing();
        DOC.end();
    }

    private static void due(String what, long got, long want) {
        DOC.due(what, got, want);
    }

    private static void dueFalse(String what, boolean got) {
        DOC.due(what, got, false);
    }

    /** Nothing happened to the first pool, which was made as the other one, not even what could be undone. */
    private static void dueUnchanged(RightsPool x, RightsPool like) {
        DOC.due("nothing happens", Pools.state(x), Pools.state(like));
        due("what can be undone", x.undo(), like.undo());
        DOC.due("it is undone", Pools.state(x), Pools.state(like));
    }

    private static void playing() {
        DOC.promise(16, "A PLAY of so many COPIES (1 .. 99999): how much of it was PAID", () -> {
            RightsPool x = Pools.fresh();
            due("one copy", x.play(A, M, 1), 8);
            due("as many as can be", x.play(A, M, 99999), 599994 + 133332);
            due("copies", x.session(M, 4), 100000);
            RightsPool y = Pools.fresh();
            DOC.dueOfCopies(-1, copies -> y.play(A, M, copies));
            dueUnchanged(y, Pools.fresh());
        });
        DOC.promise(16, "-2, and nothing happens: MONEY of all PLAYS in that LAND would be beyond 300000000", () -> {
            RightsPool x = nearlyFull();
            due("a cent beyond", x.play(0, 0, 22510), -2);
            dueUnchanged(x, nearlyFull());
            due("not beyond", nearlyFull().play(0, 0, 22509), 551470);
            RightsPool y = Texts.pool("land a all both 300; land b all both 999; session s unknown 1; session u unknown 1;");
            for (int k = 0; k < 10; k++) {
                due("a tenth", y.play(0, k % 2, 99999), 0);
            }
            due("the whole of it", y.play(0, 0, 10), 0);
            due("full", y.land(0, 4), 300000000);
            due("one copy more", y.play(0, 1, 1), -2);
            due("many more", y.play(0, 0, 99999), -2);
            due("in another land", y.play(1, 0, 99999), 0);
            due("still full", y.land(0, 4), 300000000);
            due("eleven in it and one", y.count(8), 12);
        });
        DOC.promise(16, "NONE: no such ones", () -> {
            RightsPool x = Pools.played();
            DOC.dueOutside("land", LANDS, -1, l -> x.play(l, M, 1));
            DOC.dueOutside("session", SESSIONS, -1, s -> x.play(A, s, 1));
            dueUnchanged(x, Pools.played());
        });
    }

    /** 298897011 of it: 22510 copies more are 300000001. */
    private static RightsPool nearlyFull() {
        RightsPool x = Texts.pool("land a all both 49; player p a; session s p first unknown 1; lead 50;");
        for (int k = 0; k < 61; k++) {
            x.play(0, 0, 99999);
        }
        return x;
    }

    private static void passingYears() {
        DOC.promise(17, "A YEAR goes by: how much LAPSES", () -> {
            RightsPool x = Pools.played();
            due("nothing yet", x.year(), 0);
            due("all", x.year(), 309);
            due("nothing more", x.year(), 0);
            due("the year", x.count(6), 3);
            due("without lands", new RightsPool().year(), 0);
        });
        DOC.promise(17, "-2, and nothing happens: it is YEAR 9999", () -> {
            // this year lies beyond the 512 calls of an object: there is no other way to it
            RightsPool x = Texts.pool("land a all both 1; session s unknown 1; keep 1;");
            for (int k = 0; k < 9998; k++) {
                x.year();
            }
            due("the last but one", x.count(6), 9998);
            due("the last", x.year(), 0);
            x.play(0, 0, 5);
            due("refused", x.year(), -2);
            due("refused again", x.year(), -2);
            due("the year stays", x.count(6), 9999);
            due("kept stays", x.kept(0, 0, 0, 0), 5);
            due("the play is the latest", x.undo(), 11);
            due("it is undone", x.money(0), 0);
        });
    }

    private static void claiming() {
        DOC.promise(18, "-2: he is of that SESSION", () -> {
            RightsPool x = Pools.claimed();
            due("first", x.claim(P, M), -2);
            due("side", x.claim(T, O), -2);
            due("by a claim", x.claim(R, M), -2);
            due("by a claim of the last seat", x.claim(U, M), -2);
            due("of one without seats", x.claim(T, N), -2);
            dueUnchanged(x, Pools.claimed());
        });
        DOC.promise(18, "-3: no SEAT is OPEN", () -> {
            RightsPool x = Pools.claimed();
            due("all are claimed", x.claim(T, M), -3);
            due("there is none", x.claim(U, N), -3);
            dueUnchanged(x, Pools.claimed());
            x.giveBack(M, 1);
            due("open again", x.claim(T, M), 0);
        });
        DOC.promise(18, "NONE: no such ones", () -> {
            RightsPool x = Pools.played();
            DOC.dueOutside("player", PLAYERS, -1, p -> x.claim(p, M));
            DOC.dueOutside("session", SESSIONS, -1, s -> x.claim(U, s));
            dueUnchanged(x, Pools.played());
        });
    }

    private static void parting() {
        DOC.promise(19, "-2, and nothing happens: it is empty", () -> {
            RightsPool x = Pools.played();
            due("never filled", x.part(A), -2);
            dueUnchanged(x, Pools.played());
            RightsPool y = Pools.claimed();
            due("parted already", y.part(A), -2);
            due("parted with others", y.part(D), -2);
            dueUnchanged(y, Pools.claimed());
            RightsPool cent = Texts.pool("land a own both 1; land b own both 1; player p a; player q b; session s p first;"
                + "session u q first;");
            cent.play(0, 0, 9);
            cent.play(0, 1, 1);
            due("a cent", cent.part(0), 1);
            due("no cent", cent.part(0), -2);
        });
        DOC.promise(19, "-3: there is no WEIGHT", () -> {
            RightsPool x = Pools.aged();
            due("nobody was paid", x.part(C), -3);
            dueUnchanged(x, Pools.aged());
            // what is paid in another land is no weight here
            RightsPool y = Texts.pool("land a own both 1; land b own both 1; player p b; session s p first;");
            y.play(0, 0, 4);
            y.play(1, 0, 4);
            due("a weight elsewhere", y.part(0), -3);
            y.move(0, 0);
            y.play(0, 0, 1);
            due("a weight of a cent", y.part(0), 4);
        });
        DOC.promise(19, "NONE: no such LAND", () -> {
            RightsPool x = Pools.aged();
            DOC.dueOutside("land", LANDS, -1, x::part);
            dueUnchanged(x, Pools.aged());
            DOC.dueOutside("land of none", 0, -1, l -> new RightsPool().part(l));
        });
    }

    private static void partingAll() {
        DOC.promise(21, "All BOXES that can be are PARTED, by numbers of LANDS (one that can be undone as a whole): how much", () -> {
            RightsPool x = Pools.aged();
            due("all but c", x.partAll(), 266 + 80 + 39);
            due("c", x.land(C, 3), 100);
            due("one more", x.undo(), 8);
            DOC.due("as a whole", Pools.state(x), Pools.state(Pools.aged()));
        });
        DOC.promise(21, "-2, and nothing happens: none can be", () -> {
            RightsPool x = Pools.claimed();
            due("all were, or have no weight", x.partAll(), -2);
            dueUnchanged(x, Pools.claimed());
            due("all are empty", Pools.fresh().partAll(), -2);
            due("no lands", new RightsPool().partAll(), -2);
        });
    }

    private static void otherTerms() {
        DOC.promise(20, "OTHER TERMS of a LAND (TERM 0 .. 2, ROLES 1 .. 3): true", () -> {
            for (int term = 0; term <= 2; term++) {
                for (int roles = 1; roles <= 3; roles++) {
                    RightsPool x = Pools.fresh();
                    boolean isOther = term != 1 || roles != 3;
                    DOC.due("term " + term + ", roles " + roles, x.terms(D, term, roles), isOther);
                    due("term", x.land(D, 0), term);
                    due("roles", x.land(D, 1), roles);
                    due("can be undone", x.count(8), isOther ? 1 : 0);
                }
            }
        });
        DOC.promise(20, "false: they are so, no such ones", () -> {
            RightsPool x = Pools.played();
            dueFalse("a", x.terms(A, 0, 3));
            dueFalse("b", x.terms(B, 1, 1));
            dueFalse("c", x.terms(C, 2, 2));
            DOC.dueOutside("land", LANDS, 0, l -> x.terms(l, 0, 2) ? 1 : 0);
            DOC.dueOutside("term", 3, 0, term -> x.terms(A, term, 2) ? 1 : 0);
            for (int roles : new int[] {0, 4, -1, Pools.LOW, Pools.HIGH}) {
                dueFalse("roles " + roles, x.terms(A, 1, roles));
            }
            dueUnchanged(x, Pools.played());
        });
    }

    private static void moving() {
        DOC.promise(22, "false: he is of that LAND, no such ones", () -> {
            RightsPool x = Pools.played();
            dueFalse("p", x.move(P, A));
            dueFalse("r", x.move(R, C));
            DOC.dueOutside("player", PLAYERS, 0, p -> x.move(p, A) ? 1 : 0);
            DOC.dueOutside("land", LANDS, 0, l -> x.move(P, l) ? 1 : 0);
            dueUnchanged(x, Pools.played());
            DOC.due("to the last land", x.move(P, D), true);
            dueFalse("he is there now", x.move(P, D));
            DOC.due("back to the first", x.move(P, A), true);
        });
    }

    private static void givingBack() {
        DOC.promise(23, "-2: it is OPEN", () -> {
            RightsPool x = Pools.claimed();
            due("never claimed", x.giveBack(O, 0), -2);
            dueUnchanged(x, Pools.claimed());
            RightsPool y = Pools.claimed();
            due("whose", y.giveBack(M, 1), U);
            due("given back", y.giveBack(M, 1), -2);
            due("the other's", y.giveBack(M, 0), R);
            RightsPool z = Pools.fresh();
            z.claim(P, O);
            due("of player 0", z.giveBack(O, 0), P);
        });
        DOC.promise(23, "NONE: no such ones", () -> {
            RightsPool x = Pools.claimed();
            DOC.dueOutside("session", SESSIONS, -1, s -> x.giveBack(s, 0));
            DOC.dueOutside("seat of two", 2, -1, seat -> x.giveBack(M, seat));
            DOC.dueOutside("seat of none", 0, -1, seat -> x.giveBack(N, seat));
            dueUnchanged(x, Pools.claimed());
        });
    }

    private static void undoing() {
        DOC.promise(24, "The latest that can be undone is undone: how many more can be", () -> {
            RightsPool x = Pools.fresh();
            for (int k = 0; k < 20; k++) {
                x.play(A, M, 1 + k);
            }
            for (int k = 11; k >= 0; k--) {
                due("more", x.undo(), k);
                due("told", x.count(8), k);
            }
            due("eight stay", x.session(M, 4), 36);
        });
        DOC.promise(24, "NONE: none", () -> {
            due("of a new object", new RightsPool().undo(), -1);
            RightsPool x = Pools.fresh();
            due("of a new text", x.undo(), -1);
            x.play(A, M, 1);
            due("the only one", x.undo(), 0);
            due("no more", x.undo(), -1);
            due("again", x.undo(), -1);
            DOC.due("nothing happens", Pools.state(x), Pools.state(Pools.fresh()));
            RightsPool full = Pools.fresh();
            for (int k = 0; k < 13; k++) {
                full.year();
            }
            for (int k = 0; k < 12; k++) {
                full.undo();
            }
            due("the eldest is forgotten", full.undo(), -1);
            due("it stays", full.count(6), 1);
        });
    }
}
