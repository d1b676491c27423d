/** The boundary cases that "Terms 3, MESSAGES" names for each KIND that is received, sentence by sentence. */
public final class KindsEdgeTest {
    private static final Edges e = new Edges();
    /** Both stores have 4097, of one write. */
    private static final String BOTH = "new 64 2 8; group 1 40; write 0 0 0 1; snapshot 0; tick; all\n";
    /** Store 4 was forced, and store 0 has heard of it. */
    private static final String FENCED = BOTH + "force 4 = 4; tick; all; state 0 0 = 3\n";
    /** Nine places, of which nothing is there yet, are offered: three chunks. */
    private static final String OFFERED = "new 64 2 8; group 1 40; fill 0 0 0 9 1; snapshot 0; tick\n";
    /** The three chunks are in flight. */
    private static final String SENT = OFFERED + "pass 0 1; pass 0 1; total 3 = 3\n";
    /** The same with a window of one chunk: the first one is in flight. */
    private static final String NARROW = "new 64 2 1; group 1 40; fill 0 0 0 9 1; snapshot 0; tick; pass 0 1; pass 0 1\n";
    /** The copy has 4097 and 4098; 4099 was offered behind 4097, as if 4098 were not known there: LACK is in flight. */
    private static final String LACKED = "new 64 4 8; group 1 40; write 0 0 0 1; snapshot 0; tick; all\n"
        + "write 0 0 1 2; snapshot 0; tick; all; write 0 0 2 3; snapshot 0; tick; pass 0 0\n"
        + "set 0 base 4097; 8 * tick; message 0 = 1 0 1 4097 4099 2 3 0; pass 0 1; message 0 = 6 4 1 0 4098 0 0 0\n";

    public static void main(String[] args) {
        offer();
        offerThatIsStaged();
        data();
        dataThatIsStaged();
        commit();
        accept();
        ack();
        have();
        lack();
        give();
        hello();
        common();
        fenceAndTook();
        e.end("KindsEdgeTest");
    }

    private static void offer() {
        e.edge("OFFER, of a COPY: if B is LATEST it sends HAVE with B.", OFFERED + """
            pass 0 2; 6 * pass 1 1; state 4 6 = 4097; total : 3=2 21=8; power 1 0
            pass 0 1; total : 20=1 21=8; message 1 = 5 4 1 0 4097 0 0 0      # without an ACT
            """, FENCED + """
            8 * tick; message 0 = 1 4 4 0 16385 1 1 0; mark; pass 0 2; unchanged       # of a FENCED one: nothing
            """, OFFERED + """
            set 4 role 1; mark; pass 0 2; unchanged; set 4 role 2; mark; pass 0 2; unchanged
            """);
        e.edge("If B is less than LATEST, nothing.", OFFERED + """
            pass 0 2; 6 * pass 1 1; pass 1 1; write 0 0 0 7; snapshot 0; tick; pass 1 1; pass 1 1; pass 1 1
            state 4 6 = 4098; message 0 4 = 4097; mark; pass 0 2; unchanged
            """);
        e.edge("If A is neither 0 nor LATEST, it sends LACK with LATEST.", LACKED + """
            state 4 : 6=4098 20=0; total : 20=1 21=12
            """, OFFERED + """
            set 0 base 4090; pass 0 0; 8 * tick; power 1 0; pass 0 1; total 20 = 1; message 0 = 6 4 1 0 0 0 0 0
            """);
    }

    private static void offerThatIsStaged() {
        e.edge("Else, if it STAGES just A, B: it COMMITS if it has all, else it sends ACCEPT with its chunks.", OFFERED + """
            pass 0 2; pass 1 1; pass 1 1; state 4 18 = 1; total 21 = 2; power 1 0
            pass 0 2; message 4 = 2 4 1 0 4097 1 0 0; total : 20=1 21=2; state 4 18 = 1     # no ACT: it goes on from there
            power 1 3; pass 1 1; pass 1 1; total : 20=0 21=5; up 1                          # one of the COMMIT's four
            state 4 : 6=0 18=3 19=9 20=4097; pass 0 1; total 21 = 9; state 4 : 6=4097 20=0  # it has all
            """);
        e.edge("Else an ACT: it STAGES A, B, of C items and LENGTH D, without any (what it staged goes); then likewise.",
            OFFERED + """
            power 1 0; pass 0 2; total : 3=1 20=0; state 4 20 = 0; up 1
            power 1 1; pass 0 2; total : 3=2 20=1 23=0; state 4 : 18=0 19=0 20=4097; message 1 5 = 0
            """, OFFERED + """
            pass 0 1; pass 0 1; pass 0 1; state 4 : 18=1 19=4 23=4; write 0 0 20 1; snapshot 0
            set 0 target 4098; 8 * tick; message 3 = 1 0 1 0 4098 10 10 0    # another B
            pass 3 1; state 4 : 18=0 19=0 20=4098 23=0; message 3 = 2 4 1 0 4098 0 0 0
            """, BOTH + """
            fill 0 0 0 9 2; snapshot 0; tick; pass 0 1; pass 0 1; pass 0 1; state 4 : 18=1 19=4 20=4098
            set 0 base 0; 8 * tick; message 3 = 1 0 1 0 4098 9 10 0; total 21 = 8    # another A
            pass 3 1; state 4 : 18=0 19=0 20=4098; message 3 = 2 4 1 0 4098 0 0 0; total 21 = 9
            """, FENCED + """
            back 0; all; 8 * tick; message 0 5 = 0; total 11 = 9
            power 0 1; pass 0 2; total : 10=0 11=10; state 0 : 6=4097 20=16385       # of no items: staged, not committed
            up 0; pass 0 2; total 11 = 11; state 0 : 6=16385 20=0
            """);
    }

    private static void data() {
        e.edge("DATA, of a COPY that STAGES just A, B:", SENT + """
            pass 0 2; pass 1 2; pass 2 2; state 4 : 6=4097 20=0; mark; pass 0 2; unchanged      # nothing is STAGED
            """, SENT + """
            write 0 0 20 1; snapshot 0; set 0 target 4098; 8 * tick; pass 3 1; state 4 20 = 4098
            mark; pass 0 2; unchanged                                        # another B is
            """, BOTH + """
            fill 0 0 0 9 2; snapshot 0; tick; pass 0 1; pass 0 1; set 0 base 0; 8 * tick; pass 3 1
            message 0 = 3 0 1 4097 4098 0 0 4; state 4 20 = 4098; mark; pass 0 2; unchanged     # another A is
            """, SENT + """
            set 4 role 3; mark; pass 0 2; unchanged; set 4 role 1; mark; pass 0 2; unchanged    # it is no COPY
            """);
        e.edge("if the chunk's number is less than its chunks, or it has all, it sends ACK; if it is more, nothing;", SENT + """
            pass 0 2; state 4 18 = 1; mark; pass 2 2; unchanged              # 2 is more than 1
            """, SENT + """
            mark; pass 1 2; unchanged; pass 2 2; unchanged                   # 1 and 2 are more than 0
            pass 0 2; state 4 18 = 1; message 3 = 4 4 1 0 4097 1 0 0
            power 1 0; pass 0 2; total : 20=1 21=2; message 4 = 4 4 1 0 4097 1 0 0; state 4 : 18=1 19=4
            power 1 NONE; pass 1 2; state 4 18 = 2; pass 0 2; message 6 = 4 4 1 0 4097 2 0 0
            """, SENT + """
            pass 0 2; pass 1 2; power 1 1; pass 2 2; total : 20=0 21=4; up 1; state 4 : 18=3 19=9 20=4097
            power 1 0; pass 2 2; message 5 = 4 4 1 0 4097 3 0 0; total 20 = 1        # it has all
            pass 0 2; message 6 = 4 4 1 0 4097 3 0 0; total : 20=1 21=4; state 4 : 6=0 18=3 19=9
            """);
        String shared = "new 16 2 8; group 1 40; group 1 40; force 5; fill 0 0 0 5 1; snapshot 0; tick; pass 1 0; pass 0 1\n"
            + "pass 0 1; total 3 = 2; message 0 7 = 4; message 1 7 = 1\n";
        e.edge("else if FREE are fewer than its ITEMS, they are REFUSED (counted);", shared + """
            fill 5 0 0 12 1; total 22 = 4; pass 0 1; state 4 : 18=1 19=4 21=0; total 22 = 0       # just as many
            pass 0 2; state 4 : 18=1 19=4 21=1 20=4097; total : 3=2 21=4                          # none for one
            crash 1; up 1; state 4 21 = 1; total 22 = 12; pass 0 1; state 4 : 6=4097 21=1 23=5
            """, shared + """
            fill 5 0 0 13 1; total 22 = 3; power 1 0; pass 0 2; total : 20=1 3=2                  # one fewer: no ACT, no ACK
            state 4 : 18=0 19=0 21=1; pass 0 2; pass 0 1; state 4 : 18=0 19=0 21=3 20=4097; total 22 = 3
            """, shared + """
            fill 5 0 0 16 1; total 22 = 0; pass 1 2; state 4 21 = 0; pass 0 2; state 4 21 = 1     # 1 is more than 0
            """);
    }

    private static void dataThatIsStaged() {
        e.edge("else an ACT: they are STAGED, its chunks are 1 more, and it COMMITS if it has all, else it sends ACK.", SENT + """
            power 1 0; pass 0 2; total : 3=3 20=0 21=1; state 4 : 18=0 19=0 20=4097; up 1
            pass 0 1; total : 3=3 21=2; state 4 : 18=1 19=4; message 2 = 4 4 1 0 4097 1 0 0
            pass 0 1; total : 3=3 21=3; state 4 : 18=2 19=8; message 2 = 4 4 1 0 4097 2 0 0
            pass 0 1; total : 3=3 21=8; state 4 : 6=4097 18=0 19=0 20=0; message 2 0 = 5     # no ACK, but HAVE
            """);
        e.edge("(Behind the last ACT of a COMMIT that power cut short it COMMITS as told of OFFER.)", SENT + """
            pass 0 1; pass 0 1; power 1 4; pass 0 2; total : 20=0 21=7; state 4 : 6=0 18=3 20=4097
            up 1; pass 0 2; state 4 6 = 0; 8 * tick; message 4 0 = 1; pass 4 1; total 21 = 11
            state 4 : 5=1 6=4097 2=9 3=9 4=9 18=0 19=0 20=0; message 4 0 = 5
            """);
    }

    private static void commit() {
        e.edge("To COMMIT: as many ACTS as the NODES of the places STAGED, then one more: with that it has a SNAPSHOT with ID "
            + "B: the line of B as the sender has it; NOW, SAFE, KEPT are that; nothing is STAGED any more;", """
            new 64 2 8; group 2 40; write 0 0 0 5; write 0 0 0 6; write 0 1 20 7; snapshot 0; tick; pass 0 1; pass 0 1
            power 1 7; pass 0 2; total : 20=0 21=8; state 4 : 2=0 5=0 6=0 18=1 19=2      # six NODES, not the last one
            up 1; 8 * tick; pass 1 2; total 21 = 15; state 4 : 2=3 3=3 4=3 5=1 6=4097 18=0 19=0 20=0 23=2
            read 4 0 0 = 6; read 4 1 20 = 7; snap 4 0 1 = 3
            """, FENCED + """
            back 0; all; 8 * tick; total 11 = 9; power 0 2; pass 0 1; total : 10=1 11=11 13=0
            state 0 : 5=2 6=16385; snap 0 1 1 = 1                            # of nothing: no NODES, but one ACT
            """);
        e.edge("the line of B as the sender has it", """
            new 64 2 8; group 1 40; write 0 0 0 1; write 0 0 0 2; write 0 0 1 3; write 0 0 1 4; snapshot 0; tick; all
            write 0 0 9 5; write 0 0 1 6; write 0 0 1 7; snapshot 0; tick; all; state 4 : 2=7 23=4; snap 4 1 = 4098 7
            read 4 0 0 = 2; read 4 0 1 = 7; read 4 0 9 = 5; old 4 0 0 0 = 2; old 4 0 0 1 = 4; old 4 0 0 9 = 0
            """);
        e.edge("if A is 0 all older SNAPSHOTS go;", BOTH + """
            write 0 0 0 2; snapshot 0; tick; pass 0 0; set 0 base 0; 8 * tick; message 0 = 1 0 1 0 4098 1 2 0
            all; snaps 4 = 4098; state 4 : 2=2 23=1
            """, BOTH + """
            write 0 0 20 2; snapshot 0; tick; pass 0 0; set 0 base 0; 8 * tick; total 21 = 6
            all; snaps 4 = 4098; state 4 : 2=2 23=2; total 21 = 13           # the NODES of both places, not of 20 alone
            read 4 0 0 = 1; read 4 0 20 = 2
            """, BOTH + """
            write 0 0 0 2; snapshot 0; tick; all; snaps 4 = 4097 4098; state 4 : 2=2 23=2
            """);
        e.edge("THINNING; it sends HAVE with B.", BOTH + """
            write 0 0 0 2; snapshot 0; tick; all; snaps 4 = 4097 4098
            write 0 0 0 3; snapshot 0; tick; 3 * pass 0 1; snaps 4 = 4098 4099; message 0 = 5 4 1 0 4099 0 0 0
            """);
    }

    private static void accept() {
        e.edge("ACCEPT, of a PRIMARY or LEAVING with PHASE 1 and BASE A, TARGET B: PHASE is 2, CHUNKS and NEXT are C, WAIT 0; "
            + "it SENDS ON.", OFFERED + """
            pass 0 1; 3 * tick; state 0 16 = 3; pass 0 2; state 0 : 13=2 14=0 15=3 16=0; total 3 = 4
            tick; mark; pass 0 2; unchanged                                  # PHASE 2
            """, OFFERED + """
            pass 0 1; crash 0; up 0; state 0 13 = 0; mark; pass 0 2; unchanged           # PHASE 0
            """, OFFERED + """
            pass 0 1; set 0 base 4090; mark; pass 0 2; unchanged             # another BASE
            set 0 base 0; set 0 target 4098; mark; pass 0 2; unchanged       # another TARGET
            """, OFFERED + """
            pass 0 1; set 0 role 3; mark; pass 0 2; unchanged; set 0 role 0; mark; pass 0 2; unchanged
            """, OFFERED + """
            pass 0 1; leave 0; pass 0 1; state 0 : 0=2 13=2; total 3 = 3     # LEAVING
            """, NARROW + """
            pass 0 1; pass 0 1; pass 0 1; pass 0 0; state 4 18 = 2; crash 0; up 0; 8 * tick
            pass 0 1; message 0 = 2 4 1 0 4097 2 0 0; pass 0 1; state 0 : 13=2 14=2 15=3
            message 0 = 3 0 1 0 4097 2 0 1; total 3 = 1                      # from the third one on
            """);
        e.edge("SENDING ON: as long as NEXT is less than CHUNKS + WINDOW and there is such a chunk: DATA of it, NEXT is 1 "
            + "more.", NARROW + """
            total 3 = 1; state 0 : 14=0 15=1                                 # WINDOW is 1
            """, SENT + """
            state 0 : 14=0 15=3                                              # there is no fourth one
            """, """
            new 64 2 2; group 1 40; fill 0 0 0 20 1; snapshot 0; tick; pass 0 1; pass 0 1; state 0 15 = 2; total 3 = 2
            pass 0 1; pass 1 1; state 0 : 14=1 15=3; total 3 = 2; message 1 5 = 2
            """, """
            new 64 2 8; group 1 40; fill 0 0 0 32 1; snapshot 0; tick; pass 0 1; pass 0 1; state 0 15 = 8; total 3 = 8
            """, """
            new 64 2 8; group 1 40; fill 0 0 0 36 1; snapshot 0; tick; pass 0 1; pass 0 1; state 0 15 = 8; total 3 = 8
            pass 0 1; pass 7 1; state 0 15 = 9; pass 0 1; pass 7 1; state 0 : 14=2 15=9; message 6 5 = 8; message 6 7 = 4
            """);
    }

    private static void ack() {
        e.edge("ACK, likewise with PHASE 2: if C is above CHUNKS: CHUNKS is C, NEXT C at least, WAIT 0; it SENDS ON.", NARROW + """
            tick; pass 0 1; state 0 16 = 1; pass 0 2; state 0 : 14=1 15=2 16=0; message 1 5 = 1
            tick; mark; pass 0 2; unchanged                                  # C is CHUNKS
            pass 1 1; pass 1 1; state 0 14 = 2; tick; mark; pass 0 2; unchanged          # C is less
            """, NARROW + """
            pass 0 1; 8 * tick; state 0 13 = 1; mark; pass 0 2; unchanged    # PHASE 1
            crash 0; up 0; mark; pass 0 2; unchanged                         # PHASE 0
            """, NARROW + """
            pass 0 1; set 0 base 4090; mark; pass 0 2; unchanged; set 0 base 0
            set 0 target 4098; mark; pass 0 2; unchanged
            """, NARROW + """
            pass 0 1; set 0 role 3; mark; pass 0 2; unchanged; set 0 role 2; pass 0 2; state 0 14 = 1
            """, """
            new 64 2 1; group 1 40; fill 0 0 0 20 1; snapshot 0; tick; pass 0 2; pass 1 2
            pass 2 1; pass 2 1; pass 2 1; pass 2 1; pass 2 1; state 4 18 = 3; state 0 15 = 3
            8 * tick; pass 1 1; state 0 : 13=2 14=0 15=1                     # the ACCEPT of before: from 0 on
            message 1 0 = 4; pass 1 1; state 0 : 14=3 15=4; message 3 5 = 3  # NEXT leaps
            """);
    }

    private static void have() {
        e.edge("with TARGET B (not 0)", BOTH + """
            write 0 0 0 2; snapshot 0; tick; 3 * pass 0 1; message 0 = 5 4 1 0 4098 0 0 0; pass 0 2; state 0 8 = 0
            forge 0 b 0; mark; pass 0 2; unchanged                           # B and TARGET are both 0
            """);
        e.edge("HAVE, of a PRIMARY or LEAVING with TARGET B (not 0): an ACT: ACKED and BASE are B, TARGET 0; PHASE 0, WAIT 0; "
            + "THINNING.", BOTH + """
            write 0 0 0 2; snapshot 0; write 0 0 0 3; tick; 3 * pass 0 1; snapshot 0; snaps 0 = 4097 4098 4099
            2 * tick; set 0 base 0; state 0 : 13=2 16=2; message 0 0 = 5; power 0 0; pass 0 2; total 10 = 0
            state 0 : 7=4097 8=4098; up 0; set 0 base 0; tick; power 0 1
            pass 0 2; total : 10=1 13=0; state 0 : 7=4098 8=0 12=4098 13=0 16=0; snaps 0 = 4098 4099
            power 0 0; mark; pass 0 2; unchanged                             # TARGET is 0
            power 0 1; tick; state 0 8 = 4099; mark; pass 0 2; unchanged     # TARGET is another one
            """, BOTH + """
            write 0 0 0 2; leave 0; tick; 4 * pass 0 1; state 0 : 0=2 7=4098 8=0         # LEAVING
            """, BOTH + """
            write 0 0 0 2; snapshot 0; tick; 3 * pass 0 1; message 0 0 = 5; set 0 role 3; mark; pass 0 2; unchanged
            """);
    }

    private static void lack() {
        e.edge("LACK, of a PRIMARY or LEAVING with a TARGET and PHASE 1 or 2:", LACKED + """
            crash 0; up 0; state 0 13 = 0; mark; pass 0 2; unchanged         # PHASE 0
            """, LACKED + """
            set 0 target 0; mark; pass 0 2; unchanged                        # no TARGET
            """, LACKED + """
            set 0 role 3; mark; pass 0 2; unchanged                          # FENCED
            """, LACKED + """
            set 0 phase 2; power 0 0; pass 0 2; state 0 : 12=4098 13=1; total : 3=2 10=1     # PHASE 2; no ACT
            """, LACKED + """
            leave 0; pass 0 1; state 0 : 0=2 12=4098 13=1; message 0 0 = 1   # LEAVING
            """);
        e.edge("BASE is B, if it is 0 or a SNAPSHOT of its, less than TARGET, else 0; OFFERING.", LACKED + """
            3 * tick; pass 0 1; state 0 : 8=4099 12=4098 13=1 16=0; message 0 = 1 0 1 4098 4099 1 3 0
            all; state 4 6 = 4099; state 0 7 = 4099
            """, LACKED + """
            rename 0 0 4000; rename 0 1 4050; rename 4 0 3999; rename 4 1 4000; set 0 base 4050; pass 0 0; 8 * tick; pass 0 1
            message 0 = 6 4 1 0 4000 0 0 0; pass 0 1; state 0 12 = 4000; message 0 = 1 0 1 4000 4099 2 3 0    # its oldest one
            """, LACKED + """
            set 0 target 4098; pass 0 1; state 0 12 = 0; message 0 = 1 0 1 0 4098 2 2 0      # it is not less
            """, LACKED + """
            set 0 target 4097; pass 0 1; state 0 12 = 0; message 0 = 1 0 1 0 4097 1 1 0
            """, LACKED + """
            rename 0 1 4097; rename 0 0 4090; pass 0 1; state 0 12 = 0; message 0 = 1 0 1 0 4099 3 3 0    # no SNAPSHOT of its
            """, OFFERED + """
            set 0 base 4090; pass 0 0; 8 * tick; pass 0 1; message 0 = 6 4 1 0 0 0 0 0; pass 0 1          # B is 0
            state 0 12 = 0; message 0 = 1 0 1 0 4097 9 9 0
            """);
    }

    private static void give() {
        e.edge("GIVE, of a COPY, if B is LATEST: an ACT: EPOCH is C, it is PRIMARY, ACKED and BASE B, TARGET and HELD 0, NOW is "
            + "a SNAPSHOT with the ID 4096 * C + 1 (the first one taken in it); what is STAGED goes; THINNING; it sends TOOK.",
            BOTH + """
            write 0 0 0 2; leave 0; tick; all; tick; message 0 = 8 0 1 0 4098 2 0 0
            set 4 held 4097; set 4 heldToo 4097; set 4 target 4097; power 1 0; pass 0 2; total : 3=1 20=0
            state 4 : 0=0 1=1 6=4098; up 1; power 1 1; pass 0 2; total : 3=2 20=1 23=0
            state 4 : 0=1 1=2 6=8193 7=4098 8=0 9=0 10=0 12=4098 24=1; snaps 4 = 4098 8193; snap 4 1 1 = 2
            message 1 = 9 4 2 0 0 0 0 0
            """, BOTH + """
            leave 0; tick; rename 4 0 4090; mark; pass 0 2; unchanged        # B is not LATEST
            rename 4 0 4097; set 4 role 3; mark; pass 0 2; unchanged         # no COPY
            set 4 role 0; pass 0 2; state 4 0 = 1
            """, """
            new 64 2 8; group 1 40; leave 0; tick; pass 0 1                  # B and LATEST are 0
            state 4 : 0=1 1=2 5=1 6=8193 7=0 12=0; snap 4 0 1 = 0
            """, BOTH + """
            leave 0; tick; set 0 role 1; write 0 0 0 2; snapshot 0; tick; pass 1 1; state 4 20 = 4098
            pass 0 1; state 4 : 0=1 20=0                                     # what is STAGED goes
            """);
    }

    private static void hello() {
        String said = FENCED + "back 0; message 0 0 = 10; state 4 : 7=0 8=16385 13=1\n";
        e.edge("HELLO, of a PRIMARY whose ACKED is not above 4096 * EPOCH:", said + """
            set 4 acked 16385; mark; pass 0 2; unchanged; set 4 acked 16384; pass 0 2; state 4 7 = 4097
            """, said + """
            pass 0 2; pass 1 1; 8 * tick; 2 * pass 1 1; state 4 7 = 16385; state 0 0 = 0
            mark; pass 0 2; unchanged                                        # the same HELLO once more
            """, said + """
            leave 4; mark; pass 0 2; unchanged; set 4 role 3; mark; pass 0 2; unchanged; set 4 role 0; mark; pass 0 2
            unchanged
            """);
        e.edge("the first of the IDS that it has a SNAPSHOT of (0 if there is none): an ACT: ACKED is that, HELD are 0, TARGET is "
            + "0 if it is that; BASE is that, PHASE 0, WAIT 0; THINNING; it sends COMMON with that.", said + """
            2 * tick; state 4 : 9=4097 16=2; power 1 0; pass 0 2; total : 3=1 20=0; state 4 : 7=0 9=4097 16=2; up 1; tick
            power 1 1; pass 0 2; total : 3=2 20=1; state 4 : 7=4097 8=16385 9=0 10=0 12=4097 13=0 16=0
            message 1 = 11 4 4 0 4097 0 0 0
            """, said + """
            rename 4 0 4090; pass 0 1; state 4 : 7=0 8=16385 9=0 10=0 12=0 13=0; message 0 = 11 4 4 0 0 0 0 0   # none
            """, said + """
            set 4 target 4097; pass 0 1; state 4 : 7=4097 8=0 12=4097        # TARGET is that
            """, """
            new 64 4 8; group 1 40; write 0 0 0 1; snapshot 0; tick; all; write 0 0 0 2; snapshot 0; tick; all
            write 0 0 0 3; snapshot 0; force 4; tick; pass 1 1; pass 0 0; back 0; message 0 7 = 3
            pass 0 1; message 0 = 11 4 4 0 4098 0 0 0                        # of 4099, 4098, 4097: not 4097
            """, """
            new 64 2 8; group 1 40; write 0 0 0 1; snapshot 0; tick; all; write 0 0 0 2; snapshot 0; tick; all
            force 4; tick; pass 0 1; write 4 0 0 5; snapshot 4; snaps 4 = 4098 16385 16386; rename 4 0 4095
            back 0; pass 0 1; snaps 4 = 16385 16386                          # HELD is free: it goes
            """);
    }

    private static void common() {
        String told = BOTH + "write 0 0 7 2; snapshot 0; write 0 0 0 3; write 0 0 7 4; write 0 0 5 0; force 4; tick; pass 1 1\n"
            + "pass 0 0; back 0; pass 0 1; message 0 = 11 4 4 0 4097 0 0 0\n";
        e.edge("COMMON, of a FENCED one that is RETURNING and has a SNAPSHOT B (or B is 0):", told + """
            crash 0; up 0; state 0 17 = 0; mark; pass 0 2; unchanged         # it is not RETURNING
            """, told + """
            rename 0 0 4090; mark; pass 0 2; unchanged                       # it has no SNAPSHOT B
            """, told + """
            set 0 role 1; mark; pass 0 2; unchanged; set 0 role 0; mark; pass 0 2; unchanged
            """, """
            new 64 2 8; group 1 40; write 0 0 7 2; snapshot 0; force 4; tick; pass 1 1; pass 0 0; back 0; pass 0 1
            message 0 = 11 4 4 0 0 0 0 0; pass 0 1; state 0 : 0=0 2=0 5=0 22=1; lost 0 0 = 0 7 2          # B is 0
            """);
        e.edge("an ACT: the WAY BACK: LOST are the places WRITTEN in NOW behind the line of B, by volumes, then places, each with "
            + "what it holds in NOW; then NOW, SAFE, KEPT are B's line, later SNAPSHOTS go, it is a COPY, ACKED, TARGET, BASE, "
            + "HELD are 0, it is not RETURNING; THINNING.", told + """
            set 0 held 4098; set 0 heldToo 4098; set 0 target 4098; total 11 = 14; power 0 0; pass 0 2; total : 10=0 11=14
            state 0 : 0=3 17=1 22=0; up 0 = 3; back 0; pass 1 0; power 0 1; pass 0 1; total : 10=1 11=15
            state 0 : 0=0 2=1 3=1 4=1 5=1 6=4097 7=0 8=0 9=0 10=0 12=0 17=0 22=1 23=1; lost 0 0 = 0 7 2
            """, told + """
            pass 0 1; state 0 22 = 3; lost 0 0 = 0 0 3; lost 0 1 = 0 5 0; lost 0 2 = 0 7 4; lost 0 3 0 = OUT
            read 0 0 0 = 1; read 0 0 7 = 0
            """, FENCED + """
            back 0; all; state 0 : 0=0 22=0; lost 0 0 0 = OUT                # nothing is LOST
            """, """
            new 64 2 8; group 3 40; write 0 2 0 1; write 0 1 39 2; write 0 0 39 3; write 0 1 0 4; force 4; tick; pass 0 1
            back 0; all; lost 0 0 = 0 39 3; lost 0 1 = 1 0 4; lost 0 2 = 1 39 2; lost 0 3 = 2 0 1
            """, """
            new 64 2 8; group 1 40; write 0 0 0 1; snapshot 0; tick; all; write 0 0 0 2; snapshot 0; tick
            3 * pass 0 1; write 0 0 0 3; snapshot 0; snaps 0 = 4097 4098 4099
            force 4; pass 0 0; tick; pass 0 1; back 0; all; state 0 0 = 0; snaps 0 = 4097 4098
            """, """
            new 64 2 8; group 1 40; write 0 0 0 1; snapshot 0; tick; all; write 0 0 0 2; snapshot 0; set 0 held 4098
            write 0 0 0 3; snapshot 0; tick; 3 * pass 0 1; pass 0 0; write 0 0 0 4; snapshot 0
            snaps 0 = 4097 4098 4099 4100; force 4; tick; pass 0 1; back 0; all; state 0 : 0=0 6=4099
            snaps 0 = 4098 4099                                              # more than KEEP, and no longer PINNED
            """, """
            new 64 2 8; group 1 40; write 0 0 0 1; write 0 0 1 1; snapshot 0; tick; all; write 0 0 0 2; snapshot 0; tick; all
            write 0 0 2 3; force 4; tick; pass 0 1; back 0; all; snaps 0 = 4097 4098; state 0 : 2=3 23=3; total 12 = 61
            """);
    }

    private static void fenceAndTook() {
        e.edge("FENCE, TOOK: nothing else.", OFFERED + """
            force 4; pass 0 2; pass 1 2; state 0 : 0=3 1=4; mark; pass 1 2; unchanged
            """, BOTH + """
            leave 0; tick; pass 0 1; pass 0 2; state 0 : 0=0 1=2; mark; pass 0 2; unchanged
            """);
    }
}
