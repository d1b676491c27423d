/** The boundary cases that the promises 1 to 16 name, sentence by sentence. */
public final class CallsEdgeTest {
    private static final Edges e = new Edges();
    private static final String OPENED = "new 64 3 2; group 2 40\n";
    /** Both stores have 4097, of one write. */
    private static final String BOTH = "new 64 2 8; group 1 40; write 0 0 0 1; snapshot 0; tick; all\n";
    /** Store 4 was forced, and store 0 has heard of it. */
    private static final String FENCED = BOTH + "force 4 = 4; tick; all; state 0 0 = 3\n";

    public static void main(String[] args) {
        newObject();
        group();
        write();
        fill();
        flush();
        checkpoint();
        snapshot();
        leave();
        stay();
        force();
        back();
        period();
        tick();
        power();
        crash();
        up();
        e.end("CallsEdgeTest");
    }

    private static void newObject() {
        String words = "No groups; POOL 16 .. 8192 (of each site), KEEP 2 .. 8, WINDOW 1 .. 8 (others count as the nearest of these); "
            + "PERIOD 0.";
        String[][] pools = {{"MIN", "16"}, {"-1", "16"}, {"0", "16"}, {"15", "16"}, {"16", "16"}, {"17", "17"}, {"8191", "8191"},
            {"8192", "8192"}, {"8193", "8192"}, {"MAX", "8192"}};
        for (String[] pool : pools) {
            e.edge(words, "new " + pool[0] + " 2 1; total : 1=0 12=" + pool[1] + " 22=" + pool[1] + "\n");
        }
        String[][] keeps = {{"MIN", "2"}, {"0", "2"}, {"1", "2"}, {"2", "2"}, {"3", "3"}, {"7", "7"}, {"8", "8"}, {"9", "8"},
            {"MAX", "8"}};
        for (String[] keep : keeps) {
            StringBuilder run = new StringBuilder("new 64 " + keep[0] + " 1; group 1 4\n");
            for (int i = 1; i <= 10; i++) {
                run.append("write 0 0 0 1; snapshot 0; state 0 5 = " + Math.min(i, Integer.parseInt(keep[1])) + "\n");
            }
            e.edge(words, run.toString());
        }
        String[][] windows = {{"MIN", "1"}, {"-1", "1"}, {"0", "1"}, {"1", "1"}, {"2", "2"}, {"7", "7"}, {"8", "8"}, {"9", "8"},
            {"MAX", "8"}};
        for (String[] window : windows) {
            e.edge(words, "new 64 2 " + window[0] + "; group 1 40; fill 0 0 0 40 1; snapshot 0; tick; pass 0 1; pass 0 1; total 3 = "
                + window[1] + "\n");
        }
        e.edge(words, "new 16 2 1; group 1 4; write 0 0 0 1; 20 * tick; state 0 24 = 0\n");
    }

    private static void group() {
        e.edge("A new group: its number. BAD: volumes, places are not so; NONE: there are four.", """
            new 16 2 1; total 1 = 0
            group 0 1 = BAD; group -1 1 = BAD; group 9 1 = BAD; group MIN 1 = BAD; group MAX 1 = BAD
            group 1 0 = BAD; group 1 -1 = BAD; group 1 4097 = BAD; group 1 MIN = BAD; group 1 MAX = BAD; group 0 0 = BAD
            total 1 = 0; state 0 0 = BAD; state 4 0 = BAD
            group 1 1 = 0; group 8 4096 = 1; state 2 0 = BAD; state 6 0 = BAD; group 1 4096 = 2; group 8 1 = 3; total 1 = 4
            mark; group 1 1 = NONE; group 8 4096 = NONE; group 0 1 = BAD; group 1 4097 = BAD; unchanged
            """, """
            new 16 2 1; crash 0; crash 1; group 1 1 = 0; state 0 0 = 1       # no site need be UP
            """);
    }

    private static void write() {
        e.edge("As told: how many are PENDING then.", """
            new 200 2 1; group 1 100; write 0 0 0 1 = 1; write 0 0 0 1 = 2; fill 0 0 0 60 1; write 0 0 0 1 = 63
            write 0 0 99 1 = 64; write 0 0 99 1 = 1; write 0 0 99 1 = 2; flush 0; write 0 0 0 1 = 1
            """, OPENED + """
            write 0 0 0 MIN = 1; write 0 0 39 MAX = 2; write 0 1 0 -1 = 3; write 0 1 39 0 = 4     # any number may be written
            read 0 0 0 = MIN; read 0 0 39 = MAX; read 0 1 0 = -1; read 0 1 39 = 0; state 0 23 = 4
            write 0 0 -1 1 = BAD; write 0 0 40 1 = BAD; write 0 -1 0 1 = BAD; write 0 2 0 1 = BAD
            write -1 0 0 1 = BAD; write 8 0 0 1 = BAD; write 1 0 0 1 = BAD; write 4 0 0 1 = ROLE
            """);
    }

    private static void fill() {
        e.edge("The places from one on, so many (1 .. 4096, all there: else BAD), are written one by one, with number, number + 1, "
            + "..", OPENED + """
            mark; fill 0 0 0 0 1 = BAD; fill 0 0 0 -1 1 = BAD; fill 0 0 0 MIN 1 = BAD; fill 0 0 0 MAX 1 = BAD; fill 0 0 39 MAX 1 = BAD
            fill 0 0 0 41 1 = BAD; fill 0 0 1 40 1 = BAD; fill 0 0 39 2 1 = BAD; fill 0 0 40 1 1 = BAD; fill 0 0 -1 1 1 = BAD
            fill 0 0 -1 2 1 = BAD; fill 0 2 0 1 1 = BAD; fill 0 -1 0 1 1 = BAD; fill 1 0 0 1 1 = BAD; fill 0 0 MAX 1 1 = BAD
            fill 0 0 MAX MAX 1 = BAD; fill 0 0 MIN MIN 1 = BAD; fill 0 0 5 0 1 = BAD; fill 0 0 5 -1 1 = BAD; unchanged
            fill 0 0 39 1 5 = 1; fill 0 1 0 40 7 = 40; read 0 0 39 = 5; read 0 1 0 = 7; read 0 1 39 = 46; read 0 0 38 = 0
            """, """
            new 8192 2 1; group 2 4096; fill 0 0 0 4097 1 = BAD; fill 0 0 1 4096 1 = BAD; fill 0 1 0 4096 3 = 4096
            read 0 1 4095 = 4098; read 0 0 0 = 0; fill 0 0 4095 1 9 = 1; read 0 0 4095 = 9; read 0 1 0 = 3
            """, OPENED + """
            fill 0 0 0 3 2147483646 = 3; read 0 0 1 = MAX; read 0 0 2 = MIN  # numbers go round
            fill 0 0 5 2 -1 = 2; read 0 0 5 = -1; read 0 0 6 = 0
            """);
        e.edge("how many were, up to the first that is refused; if that is the first one, what write() would answer.", """
            new 16 2 1; group 1 40; fill 0 0 0 40 1 = 16; fill 0 0 16 24 1 = FULL; total 2 = 16; read 0 0 15 = 16
            """, """
            new 16 2 1; group 1 40; fill 0 0 0 15 1 = 15; fill 0 0 15 2 1 = 1; fill 0 0 16 1 1 = FULL
            """, """
            new 200 2 1; group 1 100; power 0 7; fill 0 0 0 65 1 = 64; total : 2=64 10=0; fill 0 0 0 65 1 = DOWN
            """, """
            new 200 2 1; group 1 100; fill 0 0 0 64 1; power 0 7; fill 0 0 0 65 1 = DOWN; total 2 = 64
            """, OPENED + """
            fill 4 0 0 40 1 = ROLE; crash 0; fill 0 0 0 40 1 = DOWN
            """, """
            new 8192 2 1; group 1 4096; 14 * fill 0 0 0 4096 1; fill 0 0 0 2655 1 = 2655; fill 0 0 0 2 1 = 1; fill 0 0 0 2 1 = LIMIT
            """);
    }

    private static void flush() {
        e.edge("FLUSH: how many writes the JOURNAL has then. BAD, DOWN.", OPENED + """
            flush 0 = 0; flush 4 = 0; write 0 0 0 1; flush 0 = 1; flush 0 = 1; write 0 0 0 1; flush 0 = 2; checkpoint 0; flush 0 = 0
            flush -1 = BAD; flush 1 = BAD; flush 5 = BAD; flush 8 = BAD; crash 0; flush 0 = DOWN; flush 1 = BAD; flush 4 = 0
            """, """
            new 64 2 8; group 1 40; write 0 0 0 1; force 4; tick; pass 0 1; state 0 0 = 3; flush 0 = 1    # of any ROLE
            """);
    }

    private static void checkpoint() {
        e.edge("CHECKPOINT: the ACTS that it took. BAD, DOWN.", OPENED + """
            checkpoint 0 = 0; checkpoint 4 = 0; write 0 0 0 1; checkpoint 0 = 4; total 11 = 4; checkpoint 0 = 0
            write 0 0 0 1; flush 0; checkpoint 0 = 4; total 11 = 9           # the FLUSH's ACT is none of it
            checkpoint -1 = BAD; checkpoint 1 = BAD; checkpoint 5 = BAD; checkpoint 8 = BAD
            crash 0; checkpoint 0 = DOWN; checkpoint 1 = BAD; checkpoint 4 = 0
            """, """
            new 64 2 8; group 1 40; write 0 0 0 1; force 4; tick; pass 0 1; state 0 0 = 3; checkpoint 0 = 4   # of any ROLE
            """);
    }

    private static void snapshot() {
        e.edge("A SNAPSHOT is TAKEN: its ID; 0, doing nothing, if NOW is the line of LATEST.", OPENED + """
            power 0 0; mark; snapshot 0 = 0; unchanged; power 0 NONE; write 0 0 0 1; snapshot 0 = 4097
            power 0 0; mark; snapshot 0 = 0; unchanged; power 0 NONE
            write 0 0 0 1; snapshot 0 = 4098                                 # the same number makes another line
            write 0 0 0 2; checkpoint 0; snapshot 0 = 4099; snapshot 0 = 0
            write 0 0 0 3; crash 0; up 0 = 1; snapshot 0 = 0                 # what was new is lost
            """, FENCED + """
            snapshot 4 = 0; write 4 0 0 5; snapshot 4 = 16386
            """);
        e.edge("BAD, DOWN, ROLE (PRIMARY), LIMIT (4095 in its EPOCH).", OPENED + """
            snapshot -1 = BAD; snapshot 1 = BAD; snapshot 8 = BAD; snapshot 4 = ROLE; crash 1; snapshot 4 = DOWN; snapshot 5 = BAD
            set 0 taken 4094; write 0 0 0 1; snapshot 0 = 8191; write 0 0 0 1; mark; snapshot 0 = LIMIT; unchanged
            """, FENCED + """
            snapshot 0 = ROLE; crash 0; snapshot 0 = DOWN
            """, OPENED + """
            leave 0; snapshot 0 = ROLE
            """);
    }

    private static void leave() {
        e.edge("A planned change: if NOW is not the line of LATEST a SNAPSHOT is TAKEN; an ACT: it is LEAVING, GIFT 0: LATEST.",
            OPENED + """
            power 0 1; leave 0 = 0; total : 10=1 11=1; state 0 : 0=2 5=0 11=0    # the empty line: no SNAPSHOT
            """, OPENED + """
            write 0 0 0 1; snapshot 0; leave 0 = 4097; total 11 = 6; state 0 : 0=2 5=1; stay 0
            write 0 0 0 1; leave 0 = 4098; state 0 : 0=2 5=2 6=4098; total 11 = 13
            """, OPENED + """
            set 0 gift 6; leave 0 = 0; state 0 11 = 0
            """, OPENED + """
            write 0 0 0 1; power 0 5; leave 0 = DOWN; state 0 : 0=1 6=4097; up 0; power 0 0; leave 0 = DOWN; state 0 0 = 1
            """, OPENED + """
            write 0 0 0 1; power 0 3; leave 0 = DOWN; state 0 : 0=1 4=0 5=0; up 0 = 1
            write 0 0 0 1; power 0 4; leave 0 = DOWN; state 0 : 0=1 4=1 5=0
            """);
        e.edge("BAD, DOWN, ROLE (PRIMARY), LIMIT.", OPENED + """
            leave -1 = BAD; leave 1 = BAD; leave 8 = BAD; leave 4 = ROLE; set 0 taken 4095; write 0 0 0 1; mark; leave 0 = LIMIT
            unchanged; crash 0; leave 0 = DOWN; leave 1 = BAD; up 0 = 1; leave 0 = 0; leave 0 = ROLE   # no SNAPSHOT, no LIMIT
            """, FENCED + """
            leave 0 = ROLE; crash 0; leave 0 = DOWN
            """);
    }

    private static void stay() {
        e.edge("An ACT: it is PRIMARY: 0. BAD, DOWN, ROLE (LEAVING, without a GIFT).", BOTH + """
            stay 0 = ROLE; stay 4 = ROLE; stay -1 = BAD; stay 1 = BAD; stay 8 = BAD; leave 0; power 0 0; stay 0 = DOWN; state 0 0 = 2
            stay 0 = DOWN; up 0; power 0 1; stay 0 = 0; total : 10=1 13=0; state 0 0 = 1; stay 0 = ROLE
            power 0 NONE; leave 0; tick; state 0 11 = 2; mark; stay 0 = ROLE; unchanged; crash 0; stay 0 = DOWN    # with a GIFT
            """, FENCED + """
            stay 0 = ROLE
            """);
    }

    private static void force() {
        e.edge("A forced change: of a FENCED one a CHECKPOINT; then an ACT:", FENCED + """
            total 11 = 8; power 0 1; force 0 = 7; total : 10=1 11=9          # nothing to keep: one ACT
            """, BOTH + """
            write 0 0 0 5; force 4 = 4; tick; pass 0 1; state 0 : 0=3 2=2 3=1 4=1; power 0 4; force 0 = DOWN
            state 0 : 0=3 1=4 2=2 3=2 4=2 5=1; up 0 = 0; force 0 = 7; state 0 : 0=1 1=7 6=28673; snap 0 1 1 = 2
            """, BOTH + """
            power 1 1; force 4 = 4; total : 20=1 23=0                        # of a COPY: one ACT
            """, BOTH + """
            power 1 0; force 4 = DOWN; total 20 = 0; state 4 : 0=0 1=1 5=1 9=0
            """);
        e.edge("it is PRIMARY, EPOCH is the NEXT one by force,", BOTH + """
            force 4 = 4; state 4 : 0=1 1=4; write 4 0 0 2 = 1; tick; all; force 0 = 7; state 0 : 0=1 1=7; write 0 0 0 2 = 1
            """);
        e.edge("NOW is a SNAPSHOT with the ID 4096 * EPOCH + 1 (the first one taken in it)", """
            new 64 2 8; group 1 40; force 4 = 4; state 4 : 5=1 6=16385 24=1; snap 4 0 1 = 0     # even of the empty line
            snapshot 4 = 0; write 4 0 0 1; snapshot 4 = 16386
            """);
        e.edge("HELD are: of a COPY LATEST as it was, and 0; of a FENCED one ACKED and TARGET, if both were 0, else as they were;", """
            new 64 2 8; group 1 40; force 4; state 4 : 9=0 10=0              # LATEST was 0
            """, BOTH + """
            force 4; state 4 : 9=4097 10=0
            """, BOTH + """
            set 4 held 4090; set 4 heldToo 4091; force 4; state 4 : 9=4097 10=0          # whatever they were
            """, FENCED + """
            state 0 : 7=4097 8=0 9=0 10=0; force 0; state 0 : 9=4097 10=0
            """, FENCED + """
            set 0 base 0; force 0; state 0 : 9=4097 10=0                     # ACKED, not BASE
            """, BOTH + """
            write 0 0 0 2; snapshot 0; tick; force 4; tick; pass 1 1; force 0; state 0 : 9=4097 10=4098
            """, BOTH + """
            write 0 0 0 2; snapshot 0; tick; force 4; tick; pass 1 1; set 0 held 4090; force 0; state 0 : 9=4090 10=0
            """, BOTH + """
            write 0 0 0 2; snapshot 0; tick; force 4; tick; pass 1 1; set 0 heldToo 4090; force 0; state 0 : 9=0 10=4090
            """);
        e.edge("ACKED, TARGET, BASE are 0, PHASE and WAIT, too, it is not RETURNING, what is STAGED goes; THINNING: the EPOCH.",
            BOTH + """
            write 0 0 0 2; snapshot 0; tick; force 4; tick; pass 1 1; back 0; 3 * tick; set 0 phase 1
            state 0 : 7=4097 8=4098 12=4097 16=3 17=1; force 0 = 7; state 0 : 7=0 8=0 12=0 13=0 16=0 17=0
            """, """
            new 64 2 8; group 1 40; fill 0 0 0 9 1; snapshot 0; tick; 3 * pass 0 1; state 4 : 18=1 19=4 20=4097
            force 4 = 4; state 4 : 18=0 19=0 20=0 23=0
            """, """
            new 64 2 8; group 1 40; write 0 0 0 1; snapshot 0; tick; all; write 0 0 0 2; snapshot 0; tick; all
            snaps 4 = 4097 4098; force 4 = 4; snaps 4 = 4098 16385
            """);
        e.edge("BAD, DOWN, ROLE (COPY or FENCED).", OPENED + """
            force -1 = BAD; force 1 = BAD; force 5 = BAD; force 8 = BAD; force 0 = ROLE; leave 0; force 0 = ROLE
            crash 0; force 0 = DOWN; crash 1; force 4 = DOWN; force 5 = BAD
            """);
    }

    private static void back() {
        e.edge("It is RETURNING, WAIT 0, and sends HELLO: 0. BAD, DOWN, ROLE (FENCED).", FENCED + """
            power 0 0; back 0 = 0; total : 3=1 10=1; state 0 : 16=0 17=1; message 0 0 = 10           # no ACT
            3 * tick; state 0 16 = 3; back 0 = 0; state 0 : 16=0 17=1; total 3 = 2                   # again
            back 4 = ROLE; back -1 = BAD; back 1 = BAD; back 8 = BAD; crash 0; back 0 = DOWN; back 1 = BAD
            """, OPENED + """
            back 0 = ROLE; back 4 = ROLE; leave 0; back 0 = ROLE; total 4 = 0
            """);
    }

    private static void period() {
        e.edge("PERIOD is n: true; false if n is not 0 .. 1000.", """
            new 64 8 2; group 1 4; period -1 = false; period 1001 = false; period MIN = false; period MAX = false
            period 0 = true; period 1 = true; period 999 = true; period 1000 = true; period 2 = true
            period 1001 = false; period -1 = false                           # it is 2 still
            write 0 0 0 1; tick; state 0 24 = 0; tick; state 0 24 = 1
            period 0; write 0 0 0 1; 4 * tick; state 0 24 = 1
            """);
    }

    private static void tick() {
        e.edge("A TICK: TIME then.", """
            new 64 8 2; total 0 = 0; tick = 1; tick = 2; total 0 = 2; crash 0; crash 1; tick = 3; 500 * tick; tick = 504
            """);
    }

    private static void power() {
        e.edge("n more ACTS of a site (0 .. 100000) are done before power fails; NONE: it doesn't any more: true; false if there is no "
            + "such site or n.", """
            new 64 8 2; group 1 40; power -1 0 = false; power 2 0 = false; power MIN 0 = false; power MAX 0 = false
            power 0 -2 = false; power 0 100001 = false; power 0 MIN = false; power 0 MAX = false; total : 13=NONE 23=NONE
            power 0 100000 = true; total : 13=100000 23=NONE; power 0 -2 = false; power 0 100001 = false; total 13 = 100000
            power 1 99999 = true; total : 13=100000 23=99999; power 0 NONE = true; total : 13=NONE 23=99999
            power 0 0 = true; total : 10=1 13=0; write 0 0 0 1; flush 0 = DOWN; total 13 = NONE
            power 0 1 = true; up 0; total 13 = 1; write 0 0 0 1; flush 0 = 1; total : 10=1 13=0    # set while it was DOWN
            power 0 NONE = true; write 0 0 0 1; flush 0 = 2; total 10 = 1
            """);
    }

    private static void crash() {
        e.edge("The site is DOWN now: true; false if there is none such, or it is.", """
            new 64 8 2; crash -1 = false; crash 2 = false; crash MIN = false; crash MAX = false; total : 10=1 20=1
            crash 0 = true; total : 10=0 11=0 20=1; crash 0 = false; total : 10=0 20=1; crash 1 = true; crash 1 = false
            up 0; crash 0 = true
            """);
    }

    private static void up() {
        e.edge("The site comes UP: how many PENDING writes its stores lost by that. BAD; NONE if it is UP.", """
            new 200 8 2; group 1 40; group 1 100; up -1 = BAD; up 2 = BAD; up MIN = BAD; up MAX = BAD; up 0 = NONE; up 1 = NONE
            crash 0; up 0 = 0; fill 0 0 0 10 1; flush 0; fill 0 0 0 3 1; fill 1 0 0 64 1; crash 0; total 10 = 0
            up 1 = NONE; up 0 = 67; total 10 = 1; up 0 = NONE; state 0 2 = 10; state 1 2 = 0
            crash 1; up 1 = 0
            """, """
            new 200 8 2; group 1 4; group 1 4; group 1 4; group 1 4; force 4; fill 4 0 0 2 1; fill 0 0 0 3 1; fill 3 0 0 4 1; force 7
            fill 7 0 0 1 1; tick; crash 0; up 0 = 7; state 4 : 2=2 3=0 13=1; state 7 : 2=1 13=1; state 3 2 = 0
            fill 3 0 0 4 1; crash 1; up 1 = 3; state 3 : 2=4 3=0; state 4 : 2=0 13=0       # those of its own site alone
            """);
    }
}
