/** The boundary cases that "Terms 1, LINES" names, sentence by sentence. */
public final class LinesEdgeTest {
    private static final Edges e = new Edges();

    public static void main(String[] args) {
        sitesAndGroups();
        lines();
        blocks();
        power();
        nodes();
        flush();
        checkpoint();
        pinned();
        thinning();
        e.end("LinesEdgeTest");
    }

    private static void sitesAndGroups() {
        e.edge("There are two SITES, 0 and 1, each UP (at first) or DOWN", """
            new 16 2 1; total : 10=1 20=1
            crash -1 = false; crash 2 = false; up -1 = BAD; up 2 = BAD; power -1 0 = false; power 2 0 = false
            up 0 = NONE; up 1 = NONE
            crash 0 = true; total : 10=0 20=1
            crash 1 = true; total : 10=0 20=0
            """);
        e.edge("GROUPS 0 .. 3 of VOLUMES (1 .. 8) of so many PLACES each (1 .. 4096)", """
            new 16 2 1
            group 0 1 = BAD; group 9 1 = BAD; group 1 0 = BAD; group 1 4097 = BAD; total 1 = 0
            group 1 1 = 0; group 8 4096 = 1; group 8 1 = 2; group 1 4096 = 3; group 1 1 = NONE; total 1 = 4
            write 0 0 0 5 = 1; write 0 0 1 5 = BAD; write 0 1 0 5 = BAD
            write 1 7 4095 5 = 1; write 1 7 4096 5 = BAD; write 1 8 4095 5 = BAD
            write 2 7 0 5 = 1; write 2 7 1 5 = BAD; write 2 8 0 5 = BAD
            write 3 0 4095 5 = 1; write 3 0 4096 5 = BAD; write 3 1 4095 5 = BAD
            """);
        e.edge("STORE h (0 .. 7) is site h / 4's part of group h % 4; its OTHER is the other site's part.", """
            new 64 2 1; group 1 1; group 1 2; group 1 3; group 1 4
            state -1 0 = BAD; state 8 0 = BAD; state MIN 0 = BAD; state MAX 0 = BAD
            read 0 0 0 = 0; read 0 0 1 = OUT; read 4 0 0 = 0; read 4 0 1 = OUT
            read 1 0 1 = 0; read 1 0 2 = OUT; read 5 0 1 = 0; read 5 0 2 = OUT
            read 2 0 2 = 0; read 2 0 3 = OUT; read 6 0 2 = 0; read 6 0 3 = OUT
            read 3 0 3 = 0; read 3 0 4 = OUT; read 7 0 3 = 0; read 7 0 4 = OUT
            crash 0; checkpoint 0 = DOWN; checkpoint 3 = DOWN; checkpoint 4 = 0; checkpoint 7 = 0; up 0
            crash 1; checkpoint 0 = 0; checkpoint 3 = 0; checkpoint 4 = DOWN; checkpoint 7 = DOWN; up 1
            write 3 0 3 9; snapshot 3 = 4097; tick; message 0 1 = 3
            pass 0 1; state 7 20 = 4097; message 0 1 = 7   # 3's OTHER is 7
            pass 0 1; state 3 13 = 2                       # and 7's is 3
            """);
    }

    private static void lines() {
        e.edge("a LINE is a row of writes, its LENGTH how many.", """
            new 64 3 2; group 1 40; state 0 : 2=0 3=0 4=0; state 4 : 2=0 3=0 4=0       # the empty one
            3 * write 0 0 0 1; state 0 : 2=3 3=0 4=0; snapshot 0; snap 0 0 1 = 3; state 0 : 2=3 3=3 4=3
            """);
        e.edge("A place holds in a line what the last write there says; 0 without one.", """
            new 64 3 2; group 2 40
            read 0 0 0 = 0; read 0 1 39 = 0; sum 0 0 = 0
            write 0 0 0 MIN; read 0 0 0 = MIN; write 0 0 0 MAX; read 0 0 0 = MAX; read 0 1 0 = 0; read 0 0 1 = 0
            snapshot 0; write 0 0 0 0; read 0 0 0 = 0; old 0 0 0 0 = MAX; old 0 0 0 1 = 0
            """);
        e.edge("WRITTEN in a row of writes are the places that come in it, each once.", """
            new 64 3 2; group 2 40
            3 * write 0 0 5 1; write 0 1 5 1; snapshot 0 = 4097
            write 0 0 5 1; write 0 0 5 2; snapshot 0 = 4098
            differ 0 0 0 = 0; differ 0 1 1 = 0                # an empty row
            differ 0 0 1 = 1
            tick; message 0 5 = 2                             # 0.5 and 1.5, though six writes were made
            """);
        e.edge("SNAPSHOTS: lines with IDS above 0, in order; each beginning with the one before.", """
            new 64 8 2; group 1 40
            write 0 0 1 10; snapshot 0; write 0 0 2 20; snapshot 0; write 0 0 1 11; snapshot 0
            snaps 0 = 4097 4098 4099; snap 0 0 1 = 1; snap 0 1 1 = 2; snap 0 2 1 = 3
            old 0 0 0 1 = 10; old 0 1 0 1 = 10; old 0 2 0 1 = 11; old 0 0 0 2 = 0; old 0 2 0 2 = 20
            """);
        e.edge("The empty line has ID 0 in every store, and counts as no SNAPSHOT.", """
            new 64 3 2; group 1 40
            snapshot 0 = 0; total 11 = 0; state 0 : 5=0 6=0 24=0; state 4 : 5=0 6=0
            snap 0 0 0 = BAD; old 0 0 0 0 = OUT; differ 0 0 0 = OUT; snap 4 0 0 = BAD
            tick; total 4 = 0                                 # LATEST, 0, is ACKED
            leave 0 = 0; state 0 5 = 0; total 11 = 1
            """, """
            new 64 3 2; group 1 40; write 0 0 0 7; snapshot 0
            force 4 = 4; tick; pass 1 1; back 0; pass 1 1     # nothing in common but the empty line
            message 1 = 11 4 4 0 0 0 0 0
            pass 1 1; state 0 : 0=0 2=0 3=0 4=0 5=0 6=0 23=0; read 0 0 0 = 0
            """);
        e.edge("PENDING are the writes of NOW behind SAFE, the JOURNAL those of SAFE behind KEPT.", """
            new 64 3 2; group 1 40
            flush 0 = 0; write 0 0 0 1 = 1; write 0 0 0 1 = 2; flush 0 = 2; write 0 0 0 1 = 1
            state 0 : 2=3 3=2 4=0
            checkpoint 0; state 0 : 2=3 3=3 4=3; flush 0 = 0; write 0 0 0 1 = 1; flush 0 = 1
            """);
        e.edge("LATEST is the ID of the last SNAPSHOT (0 without).", """
            new 64 2 2; group 1 40; state 0 6 = 0; state 4 6 = 0
            write 0 0 0 1; state 0 6 = 0; snapshot 0; state 0 6 = 4097
            write 0 0 0 2; state 0 6 = 4097; snapshot 0; write 0 0 0 3; snapshot 0; state 0 : 5=2 6=4099
            """);
    }

    private static void blocks() {
        e.edge("BLOCKS: a site has so many as its POOL tells.", """
            new 16 2 1; group 1 40; group 1 40
            fill 0 0 0 15 1 = 15; total : 12=1 22=16; write 1 0 0 1 = 1; total : 12=0 22=16
            write 0 0 15 1 = FULL; write 1 0 1 1 = FULL; total 12 = 0
            force 4 = 4; fill 4 0 0 16 1 = 16; total 22 = 0; write 4 0 0 1 = FULL
            """, """
            new 17 2 1; group 1 40; fill 0 0 0 40 1 = 17; total 12 = 0
            """);
        e.edge("A store needs one for each write that is the last one of its place in NOW, in KEPT, or in a SNAPSHOT (one "
            + "that is so in several of these: one), and one for each item that is STAGED there.", """
            new 64 8 8; group 1 40; state 0 23 = 0; state 4 23 = 0
            write 0 0 0 1; state 0 23 = 1; write 0 0 0 2; state 0 23 = 1       # in NOW alone
            flush 0; write 0 0 0 3; state 0 23 = 1                             # SAFE needs none
            checkpoint 0; state 0 23 = 1; write 0 0 0 4; state 0 23 = 2        # in KEPT
            write 0 0 0 5; state 0 23 = 2
            snapshot 0; state 0 23 = 1                                         # NOW, KEPT and a SNAPSHOT: one
            write 0 0 0 6; state 0 23 = 2; checkpoint 0; state 0 23 = 2
            write 0 0 0 7; state 0 23 = 3                                      # SNAPSHOT, KEPT, NOW
            write 0 0 1 7; state 0 23 = 4; snapshot 0; state 0 23 = 3; total 12 = 61
            """, """
            new 64 8 8; group 1 40; write 0 0 0 1; write 0 0 1 1; checkpoint 0; write 0 0 0 2; write 0 0 2 2; flush 0
            write 0 0 0 3; write 0 0 2 3; write 0 0 3 3; state 0 23 = 5; crash 0; up 0 = 3; state 0 23 = 4      # NOW is SAFE
            """, """
            new 64 2 8; group 1 40; fill 0 0 0 6 1; snapshot 0; tick; pass 0 1; pass 0 1
            state 4 : 19=0 23=0; pass 0 1; state 4 : 19=4 23=4; total 22 = 60
            pass 0 1; state 4 : 19=0 23=6; total 22 = 58                       # no more staged, but in the line
            """, """
            new 64 2 8; group 1 40; write 0 0 0 1; snapshot 0; write 0 0 0 2; snapshot 0; state 0 23 = 2
            write 0 0 1 3; snapshot 0; state 0 : 5=2 23=2                      # 4097's write went with it
            """, """
            new 64 2 8; group 1 40; write 0 0 0 1; snapshot 0; write 0 0 1 2; snapshot 0; write 0 0 0 3; snapshot 0
            snaps 0 = 4098 4099; state 0 23 = 3                                # 4098 holds what 4097 wrote
            """, """
            new 64 2 8; group 1 40; write 0 0 0 1; write 0 0 5 1; snapshot 0; tick; all; write 0 0 0 2; write 0 0 1 2; snapshot 0
            write 0 0 0 3; write 0 0 1 3; write 0 0 5 3; snapshot 0; snaps 0 = 4097 4099; state 0 23 = 5      # one between went
            """, """
            new 64 2 8; group 1 40; write 0 0 0 1; snapshot 0; tick; all; write 0 0 5 2; snapshot 0; tick; force 4; tick; pass 1 1
            pass 0 0; force 0 = 7; write 0 0 5 3; checkpoint 0; tick; snaps 0 = 4097 4098 28673; state 0 23 = 3
            pass 0 1; back 4; pass 0 1; snaps 0 = 4097 28673; state 0 23 = 3   # 28673 holds what 4098 wrote, KEPT does not
            """);
        e.edge("FREE are those that the site's stores don't need.", """
            new 64 2 8; group 1 40; group 1 40; total : 12=64 22=64
            fill 0 0 0 5 1; fill 1 0 0 7 1; total : 12=52 22=64
            snapshot 1; tick; all; total : 12=52 22=57
            crash 0; total 12 = 52; up 0 = 5; total 12 = 57                    # the pending ones of store 0 went
            """, """
            new 64 2 8; group 1 40; group 1 40; group 1 40; group 1 40; fill 3 0 0 9 1; fill 0 0 0 2 1; total : 12=53 22=64
            force 4; force 7; fill 4 0 0 5 1; fill 7 0 0 6 1; total : 12=53 22=53         # its first and its last store
            """);
    }

    private static void power() {
        e.edge("power(): after so many more of its ACTS the next one is not done: the site is DOWN, and what it was doing "
            + "ends there: what it did by ACTS before stays.", """
            new 64 3 2; group 1 40; fill 0 0 0 24 1
            power 0 2; flush 0 = DOWN; total : 10=0 11=2; state 0 : 2=24 3=16
            up 0 = 8; state 0 : 2=16 3=16; read 0 0 15 = 16; read 0 0 16 = 0
            """, """
            new 64 3 2; group 1 40; fill 0 0 0 24 1
            power 0 3; flush 0 = 24; total : 10=1 11=3 13=0                    # just so many
            """, """
            new 64 3 2; group 1 40; write 0 0 0 1
            power 0 0; flush 0 = DOWN; total : 10=0 11=0; state 0 3 = 0        # none more
            """);
        e.edge("(That a site is DOWN is no ACT; power() is spent then, and by crash().)", """
            new 64 3 2; group 1 40; write 0 0 0 1
            power 0 0; power 1 5; flush 0 = DOWN; total : 11=0 13=NONE 23=5
            up 0; write 0 0 0 1; flush 0 = 1; total : 10=1 11=1 13=NONE        # it does not fail again
            power 0 3; crash 0; total : 11=1 13=NONE; up 0; total 13 = NONE
            crash 1; total : 21=0 23=NONE
            """);
    }

    private static void nodes() {
        e.edge("NODES of a row of writes: how many different (volume, place / 16), (volume, place / 256) and volumes there "
            + "are in it, all three together.", """
            new 8192 2 1; group 8 4096
            checkpoint 0 = 0
            write 0 0 0 1; write 0 0 15 1; write 0 0 0 1; checkpoint 0 = 4        # 1 + 1 + 1, and one more
            write 0 0 15 1; write 0 0 16 1; checkpoint 0 = 5
            write 0 0 255 1; write 0 0 256 1; checkpoint 0 = 6
            write 0 0 240 1; write 0 0 255 1; checkpoint 0 = 4
            write 0 0 4095 1; checkpoint 0 = 4; write 0 0 4095 1; write 0 0 0 1; checkpoint 0 = 6
            write 0 0 3840 1; write 0 0 3839 1; checkpoint 0 = 6
            write 0 6 4095 1; write 0 7 0 1; checkpoint 0 = 7                     # neighbours, but of two volumes
            write 0 0 20 1; write 0 1 20 1; checkpoint 0 = 7                      # the same place of two volumes
            fill 0 3 0 512 1; checkpoint 0 = 36                                   # 32 + 2 + 1
            """, """
            new 8192 2 1; group 8 4096      # the same NODES are the ACTS of a COMMIT: one to stage, one for each chunk
            write 0 6 4095 1; write 0 7 0 1; snapshot 0; tick; all; total 21 = 9
            write 0 0 255 1; write 0 0 256 1; snapshot 0; tick; all; total 21 = 17
            """);
    }

    private static void flush() {
        e.edge("FLUSH of a store: its PENDING writes come to be SAFE, eight by eight in order (the last ones may be fewer), "
            + "by an ACT each.", """
            new 8192 2 1; group 1 4096
            flush 0 = 0; total 11 = 0; power 0 0; flush 0 = 0; total 10 = 1; power 0 NONE    # none: no ACT
            write 0 0 0 1; flush 0 = 1; total 11 = 1
            fill 0 0 0 7 1; flush 0 = 8; total 11 = 2
            fill 0 0 0 8 1; flush 0 = 16; total 11 = 3
            fill 0 0 0 9 1; flush 0 = 25; total 11 = 5
            fill 0 0 0 16 1; flush 0 = 41; total 11 = 7
            fill 0 0 0 63 1; flush 0 = 104; total 11 = 15
            fill 0 0 0 64 1; flush 0 = 168; total 11 = 23
            fill 0 0 0 17 100; power 0 1; flush 0 = DOWN; state 0 : 2=185 3=176
            up 0 = 9; read 0 0 7 = 107; read 0 0 8 = 9                                       # the first ones in order
            """);
        e.edge("If JOURNAL and PENDING together are more than 512: a CHECKPOINT instead.", """
            new 8192 2 1; group 1 4096; fill 0 0 0 500 1; flush 0 = 500; total 11 = 63
            fill 0 0 500 12 1; flush 0 = 512; state 0 : 3=512 4=0; total 11 = 65             # 512: a FLUSH
            flush 0 = 512; total 11 = 65
            write 0 0 512 1; flush 0 = 0; state 0 : 3=513 4=513; total 11 = 103              # 33 + 3 + 1, and one
            """, """
            new 8192 2 1; group 1 4096; fill 0 0 0 512 1
            state 0 : 2=512 3=448 4=0; write 0 0 0 1 = 1; state 0 : 3=512 4=0                # write()'s FLUSH, too
            fill 0 0 0 63 1 = 63; state 0 : 2=576 3=512
            write 0 0 0 1 = 1; state 0 : 2=577 3=576 4=576
            """, """
            new 8192 2 1; group 1 4096; fill 0 0 0 513 1; power 0 37
            flush 0 = DOWN; state 0 : 2=513 3=512 4=0; up 0 = 1                              # cut short: nothing of it
            """);
    }

    private static void checkpoint() {
        e.edge("CHECKPOINT of a store, if NOW is not KEPT: as many ACTS as the NODES of the writes behind KEPT, then one "
            + "more: with that SAFE and KEPT are NOW.", """
            new 64 3 2; group 1 40
            power 0 0; checkpoint 0 = 0; total : 10=1 11=0; power 0 NONE     # NOW is KEPT: no ACT is tried
            write 0 0 0 1; write 0 0 20 1; flush 0; write 0 0 0 2
            checkpoint 0 = 5; state 0 : 2=3 3=3 4=3; checkpoint 0 = 0
            write 0 0 39 1; checkpoint 0 = 4                                 # the writes behind KEPT alone
            """, """
            new 64 3 2; group 1 40; write 0 0 0 1; flush 0; write 0 0 0 2
            power 0 3; checkpoint 0 = DOWN; total 11 = 4; state 0 : 2=2 3=1 4=0; up 0 = 1
            power 0 4; checkpoint 0 = 4; total : 10=1 13=0; state 0 : 2=1 3=1 4=1
            """);
    }

    private static void pinned() {
        String twoKept = "new 64 2 8; group 1 40; write 0 0 0 1; snapshot 0\n";
        e.edge("PINNED are the SNAPSHOTS with the IDS LATEST, ACKED, TARGET, BASE and HELD (two of these).", twoKept + """
            write 0 0 0 2; snapshot 0; write 0 0 0 3; snapshot 0; snaps 0 = 4098 4099          # LATEST
            """, twoKept + """
            tick; all; state 0 7 = 4097                                                        # ACKED (and BASE)
            write 0 0 0 2; snapshot 0; write 0 0 0 3; snapshot 0; snaps 0 = 4097 4099
            tick; state 0 8 = 4099                                                             # and TARGET
            write 0 0 0 4; snapshot 0; write 0 0 0 5; snapshot 0; snaps 0 = 4097 4099 4101
            all; state 0 : 7=4099 8=0; snaps 0 = 4099 4101                                     # the one before is free
            """, twoKept + """
            tick; all; set 0 base 0; write 0 0 0 2; snapshot 0; write 0 0 0 3; snapshot 0; snaps 0 = 4097 4099   # ACKED alone
            """, twoKept + """
            write 0 0 0 2; snapshot 0; tick; state 0 8 = 4098; set 0 base 4097                 # BASE alone
            write 0 0 0 3; snapshot 0; snaps 0 = 4097 4098 4099
            set 0 base 0; write 0 0 0 4; snapshot 0; snaps 0 = 4098 4100
            """, twoKept + """
            tick; all; write 0 0 0 2; snapshot 0; tick; state 0 : 7=4097 8=4098                # both HELD
            force 4; tick; pass 1 1; force 0 = 7; state 0 : 9=4097 10=4098; snaps 0 = 4097 4098 28673
            write 0 0 0 3; snapshot 0; snaps 0 = 4097 4098 28674
            set 0 heldToo 0; write 0 0 0 4; snapshot 0; snaps 0 = 4097 28675
            set 0 held 0; write 0 0 0 5; snapshot 0; snaps 0 = 28675 28676
            """);
    }

    private static void thinning() {
        e.edge("THINNING of a store: while it has more than KEEP SNAPSHOTS and one of them is not PINNED, the oldest such "
            + "one goes.", """
            new 64 3 2; group 1 40
            write 0 0 0 1; snapshot 0; write 0 0 0 2; snapshot 0; write 0 0 0 3; snapshot 0
            snaps 0 = 4097 4098 4099                                         # KEEP: none goes
            write 0 0 0 4; snapshot 0; snaps 0 = 4098 4099 4100
            tick; all; write 0 0 0 5; snapshot 0; write 0 0 0 6; snapshot 0
            snaps 0 = 4100 4101 4102
            write 0 0 0 7; snapshot 0; snaps 0 = 4100 4102 4103              # the oldest is PINNED: the one behind it
            """, """
            new 64 2 8; group 1 40; write 0 0 0 1; snapshot 0; tick; all; write 0 0 0 2; snapshot 0; tick
            write 0 0 0 3; snapshot 0; snaps 0 = 4097 4098 4099              # all PINNED: more than KEEP
            """);
        e.edge("while it has more than KEEP SNAPSHOTS and one of them is not PINNED", """
            new 64 2 8; group 1 40; write 0 0 0 1; snapshot 0; tick; all; write 0 0 0 2; snapshot 0; tick
            force 4 = 4; tick; pass 1 1; force 0 = 7; tick                   # HELD 4097, 4098; TARGET 28673
            write 0 0 0 3; snapshot 0; snaps 0 = 4097 4098 28673 28674
            pass 0 0; pass 0 1; state 4 0 = 3
            rename 4 0 4090; back 4; message 0 0 = 10; pass 0 1              # as if it had lost what is common
            state 0 : 7=0 8=28673 9=0 10=0; snaps 0 = 28673 28674            # two go at once
            """);
    }
}
