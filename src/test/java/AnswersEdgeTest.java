/** The boundary cases that "Terms 4, ANSWERS" names, sentence by sentence: every refusal, and which one comes first. */
public final class AnswersEdgeTest {
    private static final Edges e = new Edges();
    private static final String OPENED = "new 64 3 2; group 2 40\n";
    /** Store 4 was forced, and store 0 has heard of it. */
    private static final String FENCED = "new 64 2 8; group 1 40; write 0 0 0 1; snapshot 0; tick; all\n"
        + "force 4 = 4; tick; all; state 0 0 = 3\n";
    private static final String[] OF_A_STORE = {"flush", "checkpoint", "snapshot", "leave", "stay", "force", "back"};

    public static void main(String[] args) {
        noSuchStore();
        noSuchPlace();
        down();
        downMeanwhile();
        role();
        order();
        refusedChangesNothing();
        toWrite();
        e.end("AnswersEdgeTest");
    }

    private static void noSuchStore() {
        String words = "BAD (-2): no such store (its group, too), volume, place, number.";
        for (String name : OF_A_STORE) {
            StringBuilder run = new StringBuilder(OPENED + "mark\n");
            for (String h : "-1 1 2 3 5 6 7 8 9 MIN MAX".split(" ")) {
                run.append(name).append(' ').append(h).append(" = BAD\n");
            }
            e.edge(words, run + "unchanged\n");
        }
        StringBuilder run = new StringBuilder(OPENED + "mark\n");
        for (String h : "-1 1 3 5 7 8 MIN MAX".split(" ")) {
            run.append("write " + h + " 0 0 1 = BAD; fill " + h + " 0 0 1 1 = BAD; read " + h + " 0 0 = OUT\n");
            run.append("old " + h + " 0 0 0 = OUT; sum " + h + " 0 = OUT; differ " + h + " 0 0 = OUT\n");
            run.append("state " + h + " 0 = BAD; snap " + h + " 0 0 = BAD; lost " + h + " 0 0 = OUT\n");
        }
        e.edge(words, run + "unchanged\n");
        // The store is there as soon as its group is, and not before.
        e.edge(words, "new 64 3 2; write 0 0 0 1 = BAD; flush 4 = BAD; group 2 40; write 0 0 0 1 = 1; flush 4 = 0; flush 5 = BAD\n"
            + "group 1 1; flush 5 = 0; flush 6 = BAD; state 3 0 = BAD; state 7 0 = BAD\n");
    }

    private static void noSuchPlace() {
        String words = "BAD (-2): no such store (its group, too), volume, place, number.";
        StringBuilder run = new StringBuilder(OPENED + "write 0 0 0 1; snapshot 0; mark\n");
        for (String volume : "-1 2 8 MIN MAX".split(" ")) {
            run.append("write 0 " + volume + " 0 1 = BAD; fill 0 " + volume + " 0 1 1 = BAD; read 0 " + volume + " 0 = OUT\n");
            run.append("old 0 0 " + volume + " 0 = OUT; sum 0 " + volume + " = OUT\n");
        }
        for (String place : "-1 40 4096 MIN MAX".split(" ")) {
            run.append("write 0 0 " + place + " 1 = BAD; fill 0 0 " + place + " 1 1 = BAD; read 0 0 " + place + " = OUT\n");
            run.append("old 0 0 0 " + place + " = OUT\n");
        }
        run.append("unchanged; write 0 1 39 1 = 1; read 0 1 39 = 1; old 0 0 1 39 = 0; sum 0 1 = 1\n");
        e.edge(words, run.toString(), """
            new 64 3 2; group 2 40; write 0 0 0 1; snapshot 0
            old 0 -1 0 0 = OUT; old 0 1 0 0 = OUT; old 0 MIN 0 0 = OUT; old 0 MAX 0 0 = OUT; old 0 0 0 0 = 1
            fill 0 0 0 0 1 = BAD; fill 0 0 0 -1 1 = BAD; fill 0 0 0 41 1 = BAD; fill 0 0 0 4097 1 = BAD
            snap 0 0 -1 = BAD; snap 0 0 2 = BAD; state 0 -1 = BAD; state 0 25 = BAD
            """);
    }

    private static void down() {
        String words = "DOWN (-3): the site is DOWN, or comes to be so meanwhile.";
        for (int h = 0; h < 8; h += 4) {
            StringBuilder run = new StringBuilder(OPENED + "crash " + h / 4 + "; mark\n");
            for (String name : OF_A_STORE) {
                run.append(name + " " + h + " = DOWN; ");
            }
            run.append("write " + h + " 0 0 1 = DOWN; fill " + h + " 0 0 1 1 = DOWN; unchanged\n");
            // Of the site that is not DOWN nothing is refused for it.
            run.append("flush " + (4 - h) + " = 0; checkpoint " + (4 - h) + " = 0\n");
            e.edge(words, run.toString());
        }
        e.edge(words, OPENED + """
            write 0 0 0 1; snapshot 0; crash 0
            read 0 0 0 = DARK; old 0 0 0 0 = DARK; sum 0 0 = DARK; differ 0 0 0 = DARK
            state 0 2 = 1; snap 0 0 0 = 4097; lost 0 0 0 = OUT               # these tell all the same
            """);
    }

    private static void downMeanwhile() {
        e.edge("or comes to be so meanwhile.", OPENED + """
            fill 0 0 0 40 1; fill 0 0 0 24 1; power 0 7; write 0 1 0 1 = DOWN; state 0 : 2=64 3=56
            """, OPENED + """
            fill 0 0 0 40 1; fill 0 0 0 24 1; power 0 0; fill 0 1 0 2 1 = DOWN; state 0 : 2=64 3=0
            """, OPENED + """
            write 0 0 0 1; power 0 0; flush 0 = DOWN; total 10 = 0
            """, OPENED + """
            write 0 0 0 1; power 0 3; checkpoint 0 = DOWN; total : 10=0 11=3
            """, OPENED + """
            write 0 0 0 1; power 0 4; snapshot 0 = DOWN; total : 10=0 11=4; state 0 : 4=1 5=0
            """, OPENED + """
            write 0 0 0 1; power 0 5; leave 0 = DOWN; total : 10=0 11=5; state 0 : 0=1 5=1
            """, OPENED + """
            write 0 0 0 1; power 0 4; leave 0 = DOWN; total : 10=0 11=4; state 0 : 0=1 5=0
            """, OPENED + """
            power 0 0; leave 0 = DOWN; total 10 = 0; state 0 0 = 1; up 0; leave 0 = 0
            power 0 0; stay 0 = DOWN; total 10 = 0; state 0 0 = 2
            """, OPENED + """
            power 1 0; force 4 = DOWN; total 20 = 0; state 4 : 0=0 1=1 5=0
            """, OPENED + """
            write 0 0 0 1; force 4; tick; pass 0 1; state 0 0 = 3; power 0 2; force 0 = DOWN; state 0 : 0=3 1=4 4=0
            up 0; write 4 0 0 1; force 0 = 7
            """);
    }

    private static void role() {
        String words = "ROLE (-4): it is of another one.";
        e.edge(words, OPENED + """
            mark; write 4 0 0 1 = ROLE; fill 4 0 0 1 1 = ROLE; snapshot 4 = ROLE; leave 4 = ROLE; stay 4 = ROLE; back 4 = ROLE
            stay 0 = ROLE; force 0 = ROLE; back 0 = ROLE; unchanged
            """, OPENED + """
            leave 0; mark; write 0 0 0 1 = ROLE; fill 0 0 0 1 1 = ROLE; snapshot 0 = ROLE; leave 0 = ROLE; force 0 = ROLE
            back 0 = ROLE; unchanged; flush 0 = 0; checkpoint 0 = 0; stay 0 = 0; state 0 0 = 1
            """, FENCED + """
            mark; write 0 0 0 1 = ROLE; fill 0 0 0 1 1 = ROLE; snapshot 0 = ROLE; leave 0 = ROLE; stay 0 = ROLE
            force 4 = ROLE; back 4 = ROLE; stay 4 = ROLE; unchanged; flush 0 = 0; checkpoint 0 = 0; back 0 = 0
            """);
    }

    private static void order() {
        String words = "The first of these that holds, in this order, but where another is told.";
        e.edge(words, OPENED + """
            crash 0; crash 1                                                 # BAD before DOWN
            write 0 2 0 1 = BAD; write 0 0 40 1 = BAD; write 1 0 0 1 = BAD; fill 0 0 0 0 1 = BAD; fill 0 0 39 2 1 = BAD
            flush 1 = BAD; checkpoint 1 = BAD; snapshot 1 = BAD; leave 1 = BAD; stay 1 = BAD; force 1 = BAD; back 5 = BAD
            read 0 2 0 = OUT; read 0 0 40 = OUT; sum 0 2 = OUT; old 0 0 0 0 = OUT; differ 0 0 0 = OUT
            """, OPENED + """
            crash 0; crash 1                                                 # DOWN before ROLE
            write 4 0 0 1 = DOWN; fill 4 0 0 1 1 = DOWN; snapshot 4 = DOWN; leave 4 = DOWN; stay 4 = DOWN; stay 0 = DOWN
            force 0 = DOWN; back 0 = DOWN; back 4 = DOWN
            """, OPENED + """
            write 4 2 0 1 = BAD; write 4 0 40 1 = BAD; fill 4 0 0 41 1 = BAD # BAD before ROLE
            """, """
            new 8192 2 1; group 1 4096; 14 * fill 0 0 0 4096 1 = 4096; fill 0 0 0 4096 1 = 2656; total 2 = 60000
            write 4 0 0 1 = ROLE; fill 4 0 0 1 1 = ROLE; write 0 0 4096 1 = BAD; fill 0 0 0 4097 1 = BAD
            write 0 0 0 1 = LIMIT; fill 0 0 0 1 1 = LIMIT; crash 0; write 0 0 0 1 = DOWN; fill 0 0 0 1 1 = DOWN
            """, """
            new 4096 2 1; group 1 4096; 19 * fill 0 0 0 3000 1 = 3000; fill 0 0 0 1904 1 = 1904; checkpoint 0
            fill 0 0 3000 1096 1 = 1096; total : 2=60000 12=0
            write 0 0 0 1 = LIMIT; fill 0 0 0 1 1 = LIMIT                    # LIMIT before FULL
            """, OPENED + """
            set 0 taken 4095; write 0 0 0 1; snapshot 0 = LIMIT; leave 0 = LIMIT; set 0 role 0
            snapshot 0 = ROLE; leave 0 = ROLE; crash 0; snapshot 0 = DOWN; leave 0 = DOWN
            """);
    }

    private static void refusedChangesNothing() {
        e.edge("LIMIT (-5), FULL (-6) as told.", """
            new 16 2 1; group 1 40; fill 0 0 0 16 1 = 16; write 0 0 0 1 = -6; fill 0 0 0 1 1 = -6
            set 0 taken 4095; snapshot 0 = -5; leave 0 = -5
            """);
        String words = "What is refused changes nothing (but what came before it by ACTS).";
        e.edge(words, """
            new 16 2 1; group 1 40; fill 0 0 0 16 1; mark
            group 0 1 = BAD; write 0 0 0 5 = FULL; fill 0 0 0 5 5 = FULL; write 4 0 0 5 = ROLE; write 0 0 40 5 = BAD
            stay 0 = ROLE; force 0 = ROLE; back 0 = ROLE; leave 4 = ROLE; snapshot 4 = ROLE
            period -1 = false; period 1001 = false; power 2 1 = false; power 0 -2 = false; crash 2 = false; up 0 = NONE
            up 2 = BAD; pass 0 1 = NONE; pass -1 0 = NONE; unchanged
            """, """
            new 16 2 1; group 1 40; tick; write 0 0 0 1; snapshot 0; tick; mark; pass 0 3 = NONE; pass 0 -1 = NONE
            pass 1 1 = NONE; unchanged; crash 0; mark; crash 0 = false; unchanged
            group 1 1; group 1 1; group 1 1 = 3; total 1 = 4; group 1 1 = NONE; total 1 = 4
            """, """
            new 65 2 1; group 1 80; fill 0 0 0 64 1; state 0 3 = 0; write 0 0 64 1 = 1; state 0 3 = 64
            fill 0 0 0 1 1 = FULL; state 0 3 = 64
            """, """
            new 64 2 1; group 1 80; fill 0 0 0 64 1; state 0 : 2=64 3=0; total 12 = 0
            write 0 0 0 1 = FULL; state 0 : 2=64 3=64; total : 2=64 11=8     # the FLUSH before it was done
            mark; write 0 0 0 1 = FULL; unchanged
            """, """
            new 64 2 1; group 1 80; write 0 0 0 1; power 0 4; snapshot 0 = DOWN; state 0 : 2=1 3=1 4=1 5=0 24=0
            """);
    }

    private static void toWrite() {
        e.edge("To write: BAD, DOWN, ROLE (PRIMARY alone), LIMIT (60,000 writes were made in all); then, if 64 are PENDING, a FLUSH "
            + "(DOWN if power fails: it is not written); then FULL (no block is FREE); then NOW is one write longer.", """
            new 8192 2 1; group 1 2000; group 1 2000
            29 * fill 0 0 0 2000 1 = 2000; fill 1 0 0 1999 1 = 1999; total 2 = 59999
            write 1 0 0 7 = 16; total 2 = 60000                              # the last one there may be
            write 1 0 0 8 = LIMIT; write 0 0 0 8 = LIMIT; total 2 = 60000; state 1 2 = 2000; read 1 0 0 = 7
            force 4; write 4 0 0 1 = LIMIT                                   # of both sites
            """, """
            new 8192 2 1; group 1 4096; 14 * fill 0 0 0 4096 1; fill 0 0 0 2592 1 = 2592; flush 0; fill 0 0 0 64 1 = 64
            total 2 = 60000; state 0 : 2=60000 3=59936; mark; write 0 0 0 1 = LIMIT; unchanged    # no FLUSH before it
            """, """
            new 200 2 1; group 1 100; fill 0 0 0 63 1 = 63; write 0 0 63 1 = 64; total 11 = 0; state 0 3 = 0
            write 0 0 64 1 = 1; total 11 = 8; state 0 : 2=65 3=64            # 64 were PENDING
            """, """
            new 200 2 1; group 1 100; fill 0 0 0 64 1; power 0 7; write 0 0 64 9 = DOWN; total : 2=64 10=0; state 0 : 2=64 3=56
            up 0 = 8; read 0 0 64 = 0
            """, """
            new 200 2 1; group 1 100; fill 0 0 0 64 1; power 0 8; write 0 0 64 9 = 1; total : 2=65 10=1 13=0
            """, """
            new 16 2 1; group 1 40; fill 0 0 0 15 1; total 12 = 1; write 0 0 0 9 = 16; total 12 = 1
            write 0 0 15 9 = 17; total 12 = 0; write 0 0 0 9 = FULL; total : 2=17 12=0     # one over another needs one, too
            """, """
            new 16 2 1; group 1 40; fill 0 0 0 7 1; checkpoint 0; 82 * fill 0 0 0 7 1 = 7
            fill 0 0 7 2 1 = 2; total 12 = 0; state 0 : 2=583 3=519 4=7      # 512 and 64 behind KEPT, no block FREE
            write 0 0 9 1 = 1; state 0 : 3=583 4=583 23=10                   # the CHECKPOINT makes room first
            """);
    }
}
