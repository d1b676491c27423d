/** The boundary cases that "Terms 3, MESSAGES" names up to the EPOCHS, sentence by sentence. */
public final class MessagesEdgeTest {
    private static final Edges e = new Edges();
    /** Both stores have 4097, of one write. */
    private static final String BOTH = "new 64 2 8; group 1 40; write 0 0 0 1; snapshot 0; tick; all\n";
    /** Store 4 was forced, and store 0 has heard of it. */
    private static final String FENCED = BOTH + "force 4 = 4; tick; all; state 0 0 = 3\n";
    /** Nine places, of which nothing is there yet, are offered. */
    private static final String OFFERED = "new 64 2 8; group 1 40; fill 0 0 0 9 1; snapshot 0; tick\n";

    public static void main(String[] args) {
        whatMessagesHave();
        atMostSixty();
        offers();
        data();
        otherKinds();
        received();
        lessThanTheStores();
        moreThanTheStores();
        leaving();
        e.end("MessagesEdgeTest");
    }

    private static void whatMessagesHave() {
        e.edge("MESSAGES go from a store to its OTHER; each has its sender's EPOCH as it is sent", BOTH + """
            write 0 0 0 2; snapshot 0; tick; force 4; tick; pass 1 1; state 0 1 = 4
            message 0 = 1 0 1 4097 4098 1 2 0                                # of EPOCH 1 still
            """, BOTH + """
            leave 0; tick; message 0 2 = 1; pass 0 1; state 4 1 = 2; message 0 2 = 2   # TOOK is of the new one
            """);
        e.edge("numbers A, B, C, D (0 where nothing is told), ITEMS.", OFFERED + """
            message 0 = 1 0 1 0 4097 9 9 0; pass 0 1; message 0 = 2 4 1 0 4097 0 0 0; pass 0 1
            message 0 = 3 0 1 0 4097 0 0 4; pass 0 1; message 2 = 4 4 1 0 4097 1 0 0
            pass 0 1; pass 0 1; message 2 = 5 4 1 0 4097 0 0 0; all
            leave 0; tick; message 0 = 8 0 1 0 4097 2 0 0; pass 0 1; message 0 = 9 4 2 0 0 0 0 0
            """, FENCED + """
            back 0; message 0 = 10 0 4 0 0 0 0 1; pass 0 1; message 0 = 11 4 4 0 4097 0 0 0
            """);
    }

    private static void atMostSixty() {
        e.edge("At most 60 are in FLIGHT, in the order in which they were sent; one more is LOST at once.", FENCED + """
            total : 3=0 4=5 5=0; 59 * back 0; total : 3=59 4=64 5=0
            back 0 = 0; total : 3=60 4=65 5=0; message 59 0 = 10; message 60 0 = NONE
            back 0 = 0; total : 3=60 4=66 5=1; message 60 0 = NONE
            pass 0 2; total : 3=60 4=67 5=2; state 4 7 = 4097                # its COMMON is LOST; it was received
            pass 59 1; total : 3=60 4=68 5=2; message 59 0 = 11              # one left, one came behind
            pass 0 0; pass 0 0; total : 3=58 5=2
            back 0; back 0; total : 3=60 5=2; back 0; total : 3=60 5=3
            """, OFFERED + """
            pass 0 1; pass 0 1; total 3 = 3
            message 0 5 = 0; message 1 5 = 1; message 2 5 = 2                # the chunks in order
            pass 1 0; message 0 5 = 0; message 1 5 = 2; pass 0 1; message 0 5 = 2; message 1 0 = 4
            """, """
            new 64 2 8; group 1 40; group 1 40; force 5; tick; pass 0 1; fill 0 0 0 32 1; snapshot 0; tick
            58 * back 1; total 3 = 59; pass 0 2; total 3 = 60                # ACCEPT is the 60th
            pass 59 1; total : 3=60 5=7; state 0 : 13=2 15=8                 # one chunk in flight, seven LOST, all sent
            message 59 5 = 0; message 59 0 = 3
            """);
    }

    private static void offers() {
        e.edge("1 OFFER: A BASE, B TARGET, C how many places are WRITTEN in TARGET's line behind BASE's, D its LENGTH.",
            """
            new 64 2 8; group 1 40; 3 * write 0 0 7 1; snapshot 0; tick; message 0 = 1 0 1 0 4097 1 3 0
            all; write 0 0 7 2; write 0 0 8 2; write 0 0 7 3; snapshot 0; write 0 0 9 1
            tick; message 0 = 1 0 1 4097 4098 2 6 0
            """, FENCED + """
            back 0; all; 8 * tick; message 0 = 1 4 4 4097 16385 0 1 0        # nothing is WRITTEN behind BASE's
            """, """
            new 64 2 8; group 1 40; force 4; tick; message 0 = 1 4 4 0 16385 0 0 0     # nor anything at all
            """, """
            new 64 2 8; group 1 40; write 0 0 0 1; snapshot 0; tick; message 0 5 = 1; pass 0 0; force 4; tick; pass 0 1; back 0
            all; state 0 : 0=0 2=0 22=1; force 0 = 7; tick; message 0 = 1 0 7 0 28673 0 0 0    # nor any more
            """);
        e.edge("2 ACCEPT: A, B likewise, C chunks that it has.", OFFERED + """
            pass 0 2; message 1 = 2 4 1 0 4097 0 0 0; pass 1 1; pass 1 1; message 3 0 = 4
            pass 0 2; message 4 = 2 4 1 0 4097 1 0 0                         # one chunk
            pass 1 1; pass 0 1; message 4 = 2 4 1 0 4097 2 0 0               # two
            """);
    }

    private static void data() {
        String opened = "new 64 2 8; group 2 40; ";
        String sent = "snapshot 0; tick; pass 0 1; pass 0 1\n";
        e.edge("those with the numbers 4 * C .. 4 * C + 3, as far as there are: volume, place, what it holds in TARGET's "
            + "line.", opened + "fill 0 0 0 1 7;" + sent + """
            total 3 = 1; message 0 7 = 1; item 0 0 = 0 0 7; item 0 1 0 = OUT
            """, opened + "fill 0 0 0 3 7;" + sent + """
            total 3 = 1; message 0 7 = 3; item 0 2 = 0 2 9; item 0 3 0 = OUT
            """, opened + "fill 0 0 0 4 7;" + sent + """
            total 3 = 1; message 0 7 = 4; item 0 3 = 0 3 10; item 0 4 0 = OUT
            """, opened + "fill 0 0 0 5 7;" + sent + """
            total 3 = 2; message 0 7 = 4; message 1 5 = 1; message 1 7 = 1; item 1 0 = 0 4 11; item 1 1 0 = OUT
            """, opened + "fill 0 0 0 8 7;" + sent + """
            total 3 = 2; message 1 7 = 4; item 1 0 = 0 4 11; item 1 3 = 0 7 14
            """, opened + "write 0 1 39 1; write 0 1 0 2; write 0 0 39 3; write 0 0 39 0; write 0 0 2 5;" + sent + """
            item 0 0 = 0 2 5; item 0 1 = 0 39 0; item 0 2 = 1 0 2; item 0 3 = 1 39 1
            """);
        e.edge("3 DATA: A, B likewise, C the chunk, from 0 on; ITEMS: of these places, by volumes, then places,", opened + """
            write 0 0 7 1; write 0 0 3 1; write 0 1 38 1; snapshot 0; tick; all
            write 0 1 0 2; write 0 0 39 3; write 0 1 39 4; write 0 0 0 5; write 0 0 7 6
            """ + sent + """
            message 0 = 3 0 1 4097 4098 0 0 4; message 1 = 3 0 1 4097 4098 1 0 1
            item 0 0 = 0 0 5; item 0 1 = 0 7 6; item 0 2 = 0 39 3; item 0 3 = 1 0 2; item 1 0 = 1 39 4
            """, opened + """
            write 0 1 3 23; write 0 0 9 9; write 0 0 1 1; write 0 1 7 27; write 0 0 4 4; write 0 1 1 21; write 0 0 8 8; write 0 0 2 2
            write 0 1 9 29; write 0 1 0 20; write 0 0 30 10; write 0 0 5 5; write 0 1 2 22
            """ + sent + """
            item 0 0 = 0 1 1; item 0 1 = 0 2 2; item 0 2 = 0 4 4; item 0 3 = 0 5 5; item 1 0 = 0 8 8; item 1 1 = 0 9 9
            item 1 2 = 0 30 10; item 1 3 = 1 0 20; item 2 0 = 1 1 21; item 2 1 = 1 2 22; item 2 2 = 1 3 23; item 2 3 = 1 7 27
            item 3 0 = 1 9 29; message 3 7 = 1; total 3 = 4
            """);
        e.edge("4 ACK: A, B, C as 2.", OFFERED + """
            pass 0 1; pass 0 1; pass 0 2; message 3 = 4 4 1 0 4097 1 0 0; pass 0 2; message 4 = 4 4 1 0 4097 1 0 0
            pass 1 2; message 5 = 4 4 1 0 4097 2 0 0
            """);
        e.edge("10 HELLO: ITEMS: the IDS of its SNAPSHOTS, the last one first (each with 0, 0 behind it).", """
            new 64 8 8; group 1 40; force 4; tick; all; back 0; message 0 = 10 0 4 0 0 0 0 0; item 0 0 0 = OUT
            """, """
            new 64 8 8; group 1 40; write 0 0 0 1; snapshot 0; write 0 0 0 2; snapshot 0; write 0 0 0 3; snapshot 0
            force 4; tick; pass 1 1; back 0; message 1 7 = 3
            item 1 0 = 4099 0 0; item 1 1 = 4098 0 0; item 1 2 = 4097 0 0; item 1 3 0 = OUT
            """);
    }

    private static void otherKinds() {
        e.edge("5 HAVE: B an ID. 6 LACK: B an ID. 7 FENCE. 8 GIVE: B LATEST, C GIFT. 9 TOOK.", OFFERED + """
            set 0 base 4090; set 0 acked 4090; pass 0 0; 8 * tick            # as if it had one that the other lacks
            pass 0 1; message 0 = 6 4 1 0 0 0 0 0                            # LATEST is 0
            """, OFFERED + """
            force 4; pass 0 1; message 0 = 7 4 4 0 0 0 0 0
            """, """
            new 64 2 8; group 1 40; leave 0; tick; message 0 = 8 0 1 0 0 2 0 0    # LATEST is 0
            """);
        e.edge("11 COMMON: B an ID.", """
            new 64 2 8; group 1 40; force 4; tick; all; back 0; pass 0 1; message 0 = 11 4 4 0 0 0 0 0
            """, FENCED + """
            back 0; pass 0 1; message 0 = 11 4 4 0 4097 0 0 0
            """);
    }

    private static void received() {
        e.edge("RECEIVED by a store whose site is UP (else nothing happens):", OFFERED + """
            crash 1; mark; pass 0 2 = 1; unchanged                           # it stays, and nothing is staged
            pass 0 1 = 1; total 3 = 0; state 4 20 = 0
            """, OFFERED + """
            pass 0 1; crash 0; mark; pass 0 2 = 1; unchanged; pass 0 1; total 3 = 0; state 0 13 = 1
            """, BOTH + """
            write 0 0 0 2; snapshot 0; tick; force 4; crash 1; pass 0 1; total 3 = 0     # not even a FENCE
            """, FENCED + """
            pass 0 1; 8 * tick; crash 1; pass 0 1 = 1; total 3 = 0; state 0 1 = 4        # the sender may be DOWN
            """);
    }

    private static void lessThanTheStores() {
        String words = "The message's is less than the store's: for OFFER, DATA, GIVE it sends FENCE; nothing else happens.";
        e.edge(words, OFFERED + """
            force 4; pass 0 1; total : 3=1 21=1; message 0 = 7 4 4 0 0 0 0 0; state 4 : 0=1 1=4 20=0
            """, OFFERED + """
            pass 0 1; pass 0 1; force 4; power 1 0; pass 0 1; total : 3=3 20=1; message 2 = 7 4 4 0 0 0 0 0
            state 4 : 18=0 19=0
            """, BOTH + """
            leave 0; tick; force 4; pass 0 1; total 3 = 1; message 0 = 7 4 4 0 0 0 0 0; state 4 : 0=1 1=4 7=0 5=2
            """);
        // Each of the others would do something if its EPOCH were not looked at.
        e.edge(words, OFFERED + """
            pass 0 1; message 0 0 = 2; set 0 epoch 5; mark; pass 0 2; unchanged
            """, OFFERED + """
            pass 0 1; pass 0 1; pass 0 1; message 2 0 = 4; set 0 epoch 5; mark; pass 2 2; unchanged
            """, OFFERED + """
            5 * pass 0 1; message 2 0 = 5; set 0 epoch 5; mark; pass 2 2; unchanged
            """, OFFERED + """
            set 0 base 4090; pass 0 0; 8 * tick; pass 0 1; message 0 0 = 6; set 0 epoch 5; mark; pass 0 2; unchanged
            """, FENCED + """
            pass 0 0; back 0; force 0 = 7; tick; pass 1 1; force 4 = 8       # HELLO of 4 to a PRIMARY of 8
            message 0 0 = 10; state 4 7 = 0; mark; pass 0 2; unchanged
            """, FENCED + """
            back 0; pass 0 1; force 0 = 7; tick; pass 1 1; force 4 = 8; tick; pass 1 1; back 0
            state 0 : 0=3 1=8 17=1; message 0 = 11 4 4 0 4097 0 0 0          # COMMON of 4 to one that returns in 8
            mark; pass 0 2; unchanged
            """, OFFERED + """
            force 4; pass 0 1; message 0 0 = 7; set 0 epoch 5; mark; pass 0 2; unchanged
            """, BOTH + """
            leave 0; tick; pass 0 1; message 0 0 = 9; set 0 epoch 3; mark; pass 0 2; unchanged
            """);
    }

    private static void moreThanTheStores() {
        e.edge("It is more: an ACT: it is the store's EPOCH; a PRIMARY is FENCED;", BOTH + """
            write 0 0 0 2; force 4; tick; total 11 = 7; pass 0 1; total 11 = 8
            state 0 : 0=3 1=4 2=2 5=1 7=4097; write 0 0 0 3 = ROLE           # its lines are as they were
            """, """
            new 64 2 8; group 1 40; force 4; tick; set 0 role 0; pass 0 2; state 0 : 0=0 1=4    # a COPY is one still
            """, FENCED + """
            back 0; set 4 epoch 8; 8 * tick; message 2 0 = 1; pass 2 1; state 0 : 0=3 1=8 17=1          # and one that is FENCED
            """, """
            new 64 2 8; group 1 40; force 4; write 4 0 0 5; snapshot 4; fill 0 0 0 9 1; snapshot 0
            tick; pass 0 1; message 1 0 = 7; pass 1 1; state 0 : 0=3 1=4     # of any KIND: here FENCE
            """);
        e.edge("PHASE is 0; what is STAGED goes.", OFFERED + """
            state 0 13 = 1; force 4; tick; pass 1 1; state 0 : 0=3 8=4097 13=0
            """, OFFERED + """
            pass 0 1; pass 0 1; state 0 13 = 2; force 4; tick; pass 3 1; state 0 : 13=0 14=0 15=3
            """, OFFERED + """
            pass 0 1; pass 0 1; pass 0 1; state 4 : 18=1 19=4 23=4
            set 0 epoch 5; leave 0; set 0 acked 4097; set 0 target 0; tick; total 22 = 60
            message 3 0 = 8; pass 3 1                                        # GIVE of a later EPOCH, B is not LATEST
            state 4 : 0=0 1=5 18=0 19=0 20=0 23=0; total 22 = 64
            """);
        e.edge("(If power fails at the ACT nothing of this is.)", OFFERED + """
            force 4; tick; power 0 0; pass 1 2; total : 3=2 10=0; state 0 : 0=1 1=1 8=4097 13=1
            up 0; pass 1 1; state 0 : 0=3 1=4
            """, OFFERED + """
            pass 0 1; pass 0 1; pass 0 1; set 0 epoch 5; 8 * tick; power 1 0; pass 3 2; total : 20=0 3=4
            state 4 : 0=0 1=1 18=1 19=4 20=4097
            """);
        e.edge("Then, and if they are alike, by its KIND:", OFFERED + """
            pass 0 1; pass 0 1; pass 0 1; set 0 epoch 5; 8 * tick; message 3 2 = 5; total 21 = 2
            pass 3 1; total 21 = 4; state 4 : 1=5 18=0 20=4097               # an ACT for the EPOCH, one to STAGE
            message 3 = 2 4 5 0 4097 0 0 0                                   # what was staged went: from 0 on
            """);
    }

    private static void leaving() {
        e.edge("a LEAVING one is a COPY, if it is just its GIFT (its TARGET, ACKED, BASE, HELD, GIFT are 0 then), else "
            + "FENCED (GIFT 0)", BOTH + """
            leave 0; tick; pass 0 1; set 0 held 4097; set 0 heldToo 4097; set 0 target 4097
            state 0 : 0=2 7=4097 11=2 12=4097; pass 0 1                      # TOOK
            state 0 : 0=0 1=2 7=0 8=0 9=0 10=0 11=0 12=0 5=1
            """, BOTH + """
            leave 0; tick; state 0 11 = 2; force 4 = 4; tick; pass 1 1       # 4 is not its GIFT
            state 0 : 0=3 1=4 7=4097 11=0 12=4097
            """, BOTH + """
            force 4 = 4; tick; leave 0; state 0 11 = 0; pass 0 1             # it has none
            state 0 : 0=3 1=4 7=4097 11=0
            """);
    }
}
