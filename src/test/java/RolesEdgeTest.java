/** The boundary cases that "Terms 2, ROLES" names, sentence by sentence. */
public final class RolesEdgeTest {
    private static final Edges e = new Edges();
    /** Both stores have 4097, of one write. */
    private static final String BOTH = "new 64 2 8; group 1 40; write 0 0 0 1; snapshot 0; tick; all\n";
    /** Store 4 was forced, and store 0 has heard of it. */
    private static final String FENCED = BOTH + "force 4 = 4; tick; all; state 0 0 = 3\n";
    /** Store 0 has given store 4 its role. */
    private static final String GIVEN = BOTH + "leave 0; tick; all; state 0 0 = 0; state 4 0 = 1\n";

    public static void main(String[] args) {
        whatStays();
        epochs();
        taken();
        comesUp();
        offering();
        tickInOrder();
        tickByPeriod();
        tickToTheOther();
        tickOfOneThatReturns();
        e.end("RolesEdgeTest");
    }

    private static void whatStays() {
        e.edge("ROLES of a store: 0 COPY, 1 PRIMARY, 2 LEAVING, 3 FENCED.", BOTH + """
            state 0 0 = 1; state 4 0 = 0; leave 0; state 0 0 = 2; force 4; tick; all; state 0 0 = 3
            """);
        e.edge("It has an EPOCH, ACKED, TARGET, two HELD (IDS, 0: none), a GIFT (an epoch; 0 none): these and its ROLE stay "
            + "when the site is DOWN.", BOTH + """
            state 0 : 0=1 1=1 7=4097 8=0 9=0 10=0 11=0
            write 0 0 0 2; snapshot 0; tick; crash 0; state 0 : 0=1 1=1 7=4097 8=4098
            up 0; state 0 : 0=1 1=1 7=4097 8=4098 9=0 10=0 11=0
            """, BOTH + """
            leave 0; crash 0; up 0; state 0 : 0=2 11=0; tick; state 0 11 = 2
            crash 0; state 0 : 0=2 1=1 7=4097 11=2; up 0; state 0 : 0=2 1=1 7=4097 11=2
            """, BOTH + """
            write 0 0 0 2; snapshot 0; tick; force 4; tick; pass 1 1; state 0 : 0=3 1=4
            crash 0; up 0; state 0 : 0=3 1=4 7=4097 8=4098
            force 0 = 7; crash 0; state 0 : 9=4097 10=4098; up 0; state 0 : 0=1 1=7 7=0 8=0 9=4097 10=4098
            """);
        e.edge("A new group's stores have EPOCH 1; site 0's is PRIMARY, site 1's COPY; all else is 0 and empty.", """
            new 16 2 1; group 8 4096
            state 0 : 0=1 1=1 2=0 3=0 4=0 5=0 6=0 7=0 8=0 9=0 10=0 11=0 12=0
            state 0 : 13=0 14=0 15=0 16=0 17=0 18=0 19=0 20=0 21=0 22=0 23=0 24=0
            state 4 : 0=0 1=1 2=0 3=0 4=0 5=0 6=0 7=0 8=0 9=0 10=0 11=0 12=0
            state 4 : 13=0 14=0 15=0 16=0 17=0 18=0 19=0 20=0 21=0 22=0 23=0 24=0
            sum 0 7 = 0; sum 4 7 = 0; total 3 = 0
            """, FENCED + """
            crash 0; crash 1; group 1 4 = 1; state 1 : 0=1 1=1 2=0 6=0; state 5 : 0=0 1=1 2=0 6=0
            """);
    }

    private static void epochs() {
        e.edge("the least number above the store's EPOCH that divided by 4 leaves 1 (site 0, gift), 3 (site 0, force), 2 "
            + "(site 1, gift), 0 (site 1, force).", BOTH + """
            force 4 = 4; tick; all; force 0 = 7; tick; all; force 4 = 8; tick; all; force 0 = 11
            """, GIVEN + """
            state 4 1 = 2; state 0 1 = 2; force 0 = 3; tick; all; force 4 = 4        # the very next ones
            """, GIVEN + """
            leave 4; tick; all; tick; message 0 5 = 5; all; state 0 : 0=1 1=5        # from 2 to 5
            leave 0; tick; all; tick; message 0 5 = 6; all; state 4 : 0=1 1=6        # from 5 to 6
            force 0 = 7
            """, GIVEN + """
            leave 4; tick; all; tick; all; state 4 : 0=0 1=5; force 4 = 8
            """, FENCED + """
            back 0; all; 8 * tick; all; state 4 7 = 16385
            leave 4; tick; message 0 5 = 5                                           # from 4 to 5
            """, GIVEN + """
            force 0 = 3; tick; all; back 4; all; 8 * tick; all; state 0 7 = 12289
            leave 0; tick; message 0 5 = 6                                           # from 3 to 6
            """);
    }

    private static void taken() {
        e.edge("its ID 4096 * EPOCH and how many were taken in this EPOCH, this one too (at most 4095)", """
            new 64 2 8; group 1 40; state 0 24 = 0
            write 0 0 0 1; snapshot 0 = 4097; state 0 24 = 1; write 0 0 0 2; snapshot 0 = 4098
            write 0 0 0 3; snapshot 0 = 4099; state 0 : 5=2 24=3             # those that went are counted
            crash 0; up 0; write 0 0 0 4; snapshot 0 = 4100                  # and those before it was DOWN
            force 4 = 4; state 4 : 6=16385 24=1; write 4 0 0 1; snapshot 4 = 16386; state 4 24 = 2
            """, """
            new 64 2 8; group 1 40; set 0 taken 4094; write 0 0 0 1
            snapshot 0 = 8191; state 0 24 = 4095                             # the last one of the epoch
            write 0 0 0 2; mark; snapshot 0 = LIMIT; unchanged; leave 0 = LIMIT; unchanged
            """, """
            new 64 2 8; group 1 40; set 0 taken 4095; write 0 0 0 1; snapshot 0 = LIMIT
            tick; force 4; tick; all; state 0 : 0=3 24=0; force 0 = 7        # a new epoch counts anew
            state 0 24 = 1; write 0 0 0 2; snapshot 0 = 28674
            """);
        e.edge("how many were taken in this EPOCH, this one too (at most 4095); THINNING.", """
            new 64 2 8; group 1 40; write 0 0 0 1; snapshot 0; write 0 0 0 2; snapshot 0; snaps 0 = 4097 4098
            write 0 0 0 3; power 0 4; snapshot 0 = DOWN; snaps 0 = 4097 4098; up 0; snapshot 0; snaps 0 = 4098 4099
            """);
        e.edge("A SNAPSHOT is TAKEN (of a PRIMARY): CHECKPOINT; then an ACT: NOW is a SNAPSHOT", """
            new 64 2 8; group 1 40; write 0 0 0 1; power 0 3; snapshot 0 = DOWN
            state 0 : 2=1 3=0 4=0 5=0 24=0; up 0 = 1
            write 0 0 0 1; power 0 4; snapshot 0 = DOWN                      # the CHECKPOINT stays
            state 0 : 2=1 3=1 4=1 5=0 24=0; up 0 = 0
            power 0 1; snapshot 0 = 4097; total : 10=1 13=0; state 0 : 5=1 24=1
            """);
    }

    private static void comesUp() {
        e.edge("a PHASE (0 idle, 1 offered, 2 sending), CHUNKS that are acknowledged and the NEXT one, WAIT (ticks), whether it is "
            + "RETURNING.", """
            new 64 2 1; group 1 40; fill 0 0 0 5 1; snapshot 0; state 0 : 13=0 14=0 15=0 16=0 17=0; tick; state 0 : 13=1 14=0 15=0
            pass 0 1; pass 0 1; state 0 : 13=2 14=0 15=1; pass 0 1; pass 0 1; state 0 : 13=2 14=1 15=2
            pass 0 1; pass 0 1; state 0 : 7=4097 13=0 14=1 15=2 16=0         # idle; the others till they are told anew
            """);
        e.edge("When its site comes UP (not when it is DOWN: till then all is told as it was): BASE is ACKED, all others 0, "
            + "none; NOW is SAFE (PENDING are lost).", """
            new 64 2 2; group 1 40; write 0 0 0 1; snapshot 0; tick; all
            fill 0 0 0 30 2; snapshot 0; fill 0 0 0 9 50; flush 0; write 0 0 39 7
            tick; pass 0 1; pass 0 1; pass 0 1; pass 1 1; tick
            set 0 base 0                                                     # else it is ACKED all the time
            state 0 : 2=41 3=40 12=0 13=2 14=1 15=3 16=1; crash 0
            state 0 : 2=41 3=40 12=0 13=2 14=1 15=3 16=1 23=41               # told as it was
            up 0 = 1; state 0 : 2=40 3=40 4=31 12=4097 13=0 14=0 15=0 16=0 23=40
            read 0 0 39 = 0; read 0 0 8 = 58
            """, FENCED + """
            back 0; 3 * tick; state 0 : 16=3 17=1; crash 0; state 0 : 16=3 17=1; up 0; state 0 : 16=0 17=0
            """, """
            new 64 2 8; group 1 40; fill 0 0 0 9 1; snapshot 0; tick; pass 0 1; pass 0 1; pass 0 1
            crash 1; state 4 : 18=1 19=4 20=4097; up 1 = 0                   # what is STAGED is none of these
            state 4 : 12=0 13=0 18=1 19=4 20=4097
            """, """
            new 64 2 8; group 1 40; crash 0; up 0 = 0; state 0 : 2=0 12=0    # nothing to lose
            """);
    }

    private static void offering() {
        e.edge("OFFERING (of a TARGET): PHASE is 1, WAIT 0; OFFER is sent.", BOTH + """
            write 0 0 0 2; snapshot 0; tick; state 0 : 13=1 16=0; message 0 = 1 0 1 4097 4098 1 2 0
            pass 0 1; pass 0 1; state 0 13 = 2; 7 * tick; state 0 : 13=2 16=7
            tick; state 0 : 13=1 16=0; message 1 = 1 0 1 4097 4098 1 2 0     # out of PHASE 2, too
            """, """
            new 64 2 8; group 1 40; write 0 0 0 1; snapshot 0; tick; crash 0; up 0
            8 * tick; state 0 : 13=1 16=0; message 1 = 1 0 1 0 4097 1 1 0    # and out of PHASE 0
            """);
    }

    private static void tickInOrder() {
        e.edge("A TICK: TIME is 1 more; then site 0's stores, 0 first, then site 1's, each as long as its site is UP:", """
            new 64 2 8; group 1 4; group 1 4; group 1 4; group 1 4; force 5; force 7
            write 0 0 0 1; write 1 0 0 1; write 2 0 0 1; write 3 0 0 1; period 1
            tick = 1; total : 0=1 3=6
            message 0 1 = 0; message 1 1 = 1; message 2 1 = 2; message 3 1 = 3; message 4 1 = 5; message 5 1 = 7
            """, """
            new 64 2 8; tick = 1; tick = 2; crash 0; crash 1; tick = 3; total 0 = 3      # without any store
            """, """
            new 64 2 8; group 1 4; group 1 4; force 4; force 5; write 0 0 0 1; write 1 0 0 1; period 1
            power 0 5; tick = 1; total : 10=0 11=5 3=2           # store 0's SNAPSHOT, not its TARGET; no store 1
            state 0 : 6=4097 8=0; state 1 : 4=0 6=0; message 0 1 = 4; message 1 1 = 5
            """, """
            new 64 2 8; group 1 4; group 1 4; force 4; force 5; write 0 0 0 1; snapshot 0
            power 1 1; tick = 1; total : 3=2 20=0                # site 1 goes DOWN between its two
            message 0 1 = 0; message 1 1 = 4; state 4 8 = 16385; state 5 8 = 0
            tick = 2; total 3 = 2; state 4 16 = 0; state 0 16 = 1
            """);
    }

    private static void tickByPeriod() {
        e.edge("PRIMARY: if PERIOD is above 0, TIME a multiple of it, and NOW not the line of LATEST: a SNAPSHOT is TAKEN "
            + "(if it may be).", """
            new 64 8 8; group 1 4; write 0 0 0 1; 4 * tick; state 0 24 = 0                     # PERIOD is 0
            period 3; tick; state 0 24 = 0; tick = 6; state 0 24 = 1; 2 * tick; state 0 24 = 1
            tick = 9; state 0 24 = 1                                                           # LATEST's line
            write 0 0 0 1; tick = 10; tick = 11; state 0 24 = 1; tick = 12; state 0 24 = 2
            period 1; write 0 0 0 2; tick; state 0 24 = 3; write 0 0 0 3; tick; state 0 24 = 4
            period 0; write 0 0 0 4; 3 * tick; state 0 24 = 4
            """, """
            new 64 8 8; group 1 4; period 1; tick; total : 4=0 11=0; state 0 : 5=0 24=0        # the empty line
            set 0 taken 4095; write 0 0 0 1; tick; state 0 : 2=1 4=0 5=0 24=4095               # it may not be
            """, """
            new 64 8 8; group 1 4; period 499; write 0 0 0 1; 498 * tick; state 0 24 = 0; tick = 499
            state 0 24 = 1
            """, FENCED + """
            period 1; write 4 0 0 5; tick; state 4 24 = 2; state 0 : 0=3 24=0; state 0 5 = 1   # of a PRIMARY alone
            """, """
            new 64 8 8; group 1 4; write 0 0 0 1; force 4; tick; pass 0 1; state 0 : 0=3 2=1
            period 1; tick; state 0 : 4=0 5=0
            """, """
            new 64 8 8; group 1 4; period 1; write 0 0 0 1; power 0 4; tick = 1                # the tick ends there
            total : 3=0 10=0; state 0 : 4=1 5=0 8=0
            """);
    }

    private static void tickToTheOther() {
        e.edge("if TARGET is 0 and LATEST is not ACKED: an ACT: TARGET is LATEST; BASE is ACKED; OFFERING.", BOTH + """
            tick; total : 3=0 11=7; state 0 : 8=0 16=0                       # LATEST is ACKED
            write 0 0 0 2; write 0 0 0 3; snapshot 0; set 0 base 0; power 0 1
            tick; state 0 : 7=4097 8=4098 12=4097 13=1; total : 3=1 10=1 13=0; message 0 = 1 0 1 4097 4098 1 3 0
            """, BOTH + """
            write 0 0 0 2; snapshot 0; power 0 0; tick; total : 3=0 10=0; state 0 : 8=0 12=4097 13=0
            """, """
            new 64 2 8; group 1 40; write 0 0 0 1; snapshot 0; tick; state 4 8 = 0; total 3 = 1    # of no COPY
            """);
        e.edge("Else if TARGET is not 0: WAIT is 1 more; from 8 on: OFFERING.", BOTH + """
            write 0 0 0 2; snapshot 0; tick; write 0 0 0 3; snapshot 0
            7 * tick; state 0 : 8=4098 16=7; total : 3=1 11=18               # a later one must wait
            tick; state 0 : 8=4098 16=0; total : 3=2 11=18; message 1 4 = 4098
            7 * tick; total 3 = 2; tick; total 3 = 3
            leave 0; 7 * tick; state 0 16 = 7; tick; total 3 = 4             # of one that is LEAVING, too
            """);
        e.edge("Else if it is LEAVING: without a GIFT an ACT: GIFT is the other site's NEXT epoch by gift (above its own "
            + "EPOCH), WAIT 0, GIVE is sent; with one WAIT is 1 more; from 8 on: WAIT 0, GIVE is sent.", BOTH + """
            tick; total 3 = 0; state 0 11 = 0                                # PRIMARY: no GIFT
            leave 0; set 0 waited 3; tick; state 0 : 11=2 16=0; total : 3=1 11=9; message 0 = 8 0 1 0 4097 2 0 0
            7 * tick; state 0 : 11=2 16=7; total 3 = 1; tick; state 0 : 11=2 16=0; total : 3=2 11=9
            message 1 = 8 0 1 0 4097 2 0 0; 7 * tick; total 3 = 2; tick; total 3 = 3
            """, BOTH + """
            write 0 0 0 2; leave 0 = 4098; tick; state 0 11 = 0; message 0 0 = 1; all      # LATEST comes first
            state 0 : 7=4098 11=0; tick; state 0 11 = 2; message 0 0 = 8
            """, BOTH + """
            leave 0; power 0 0; tick; state 0 : 0=2 11=0; total : 3=0 10=0; up 0; tick; state 0 11 = 2
            """);
    }

    private static void tickOfOneThatReturns() {
        e.edge("FENCED and RETURNING: WAIT is 1 more; from 8 on: WAIT 0, HELLO is sent.", FENCED + """
            9 * tick; state 0 16 = 0; pass 0 0; total 3 = 0                  # it is not RETURNING
            set 4 waited -90; back 0; total 3 = 1; 7 * tick; state 0 16 = 7; total 3 = 1
            tick; state 0 16 = 0; total : 3=2 11=8; message 1 = 10 0 4 0 0 0 0 1
            7 * tick; total 3 = 2; tick; total 3 = 3; state 0 16 = 0
            """);
    }
}
