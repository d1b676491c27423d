/** The boundary cases that the promises 17 to 27 name, sentence by sentence. */
public final class TellsEdgeTest {
    private static final Edges e = new Edges();
    /** Both stores have 4097, of one write. */
    private static final String BOTH = "new 64 2 8; group 1 40; write 0 0 0 1; snapshot 0; tick; all\n";
    /** Nine places, of which nothing is there yet, are offered: three chunks. */
    private static final String OFFERED = "new 64 2 8; group 1 40; fill 0 0 0 9 1; snapshot 0; tick\n";
    /** Three snapshots: of 0.3; of 0.3 anew and 1.39; of the same and 1.0. */
    private static final String THREE = "new 64 4 2; group 2 40; write 0 0 3 7; snapshot 0; write 0 0 3 8; write 0 1 39 9\n"
        + "write 0 0 3 10; snapshot 0; write 0 1 0 11; snapshot 0; write 0 0 3 12\n";

    public static void main(String[] args) {
        pass();
        message();
        item();
        read();
        old();
        sum();
        differ();
        state();
        snap();
        lost();
        total();
        lastCall();
        e.end("TellsEdgeTest");
    }

    private static void pass() {
        e.edge("how 0: it is lost, 1: it leaves, then is received, 2: it is received, and stays in FLIGHT (all that is sent by it comes "
            + "behind): 1; NONE if there is none such, or no such how.", """
            new 64 2 8; pass 0 0 = NONE; pass 0 1 = NONE; pass 0 2 = NONE; pass -1 1 = NONE
            """, OFFERED + """
            mark; pass 1 1 = NONE; pass -1 1 = NONE; pass MIN 0 = NONE; pass MAX 2 = NONE
            pass 0 -1 = NONE; pass 0 3 = NONE; pass 0 MIN = NONE; pass 0 MAX = NONE; unchanged
            pass 0 2 = 1; total 3 = 2; message 0 0 = 1; message 1 0 = 2      # it stays, ACCEPT comes behind
            pass 0 0 = 1; total : 3=1 5=0; message 0 0 = 2; state 4 20 = 4097
            pass 0 1 = 1; total 3 = 3; message 0 0 = 3; pass 3 1 = NONE; pass 2 0 = 1; total 3 = 2; pass 2 0 = NONE
            """, OFFERED + """
            pass 0 0 = 1; total : 3=0 4=1; state 4 20 = 0                    # lost: not received
            """, """
            new 64 2 8; group 1 4; force 4; tick; pass 0 1; 60 * back 0; total 3 = 60; pass 60 1 = NONE; pass 59 1 = 1
            total : 3=60 5=0; message 59 0 = 11                              # it leaves before it is received
            """, OFFERED + """
            power 1 0; pass 0 1 = 1; total : 3=0 20=0                        # 1, though power fails by it
            """);
    }

    private static void message() {
        e.edge("Of the i-th message in FLIGHT: what 0 its KIND, 1 its sender (a store), 2 its EPOCH, 3 .. 6 A .. D, 7 how many ITEMS; "
            + "NONE for others.", """
            new 64 2 8; message 0 0 = NONE; message 0 7 = NONE; message -1 0 = NONE
            """, OFFERED + """
            message 0 = 1 0 1 0 4097 9 9 0; message 0 8 = NONE; message 0 -1 = NONE; message 0 MIN = NONE; message 0 MAX = NONE
            message 1 0 = NONE; message -1 0 = NONE; message MIN 0 = NONE; message MAX 0 = NONE
            """, """
            new 64 2 8; group 1 4; force 4; tick; pass 0 1; 60 * back 0; message 59 0 = 10; message 60 0 = NONE; pass 0 0
            message 58 0 = 10; message 59 0 = NONE
            """);
    }

    private static void item() {
        e.edge("Of ITEM k of the i-th message: what 0 the volume (of HELLO the ID), 1 the place, 2 the number; "
            + "IndexOutOfBoundsException: there is none such.", """
            new 64 2 8; item 0 0 0 = OUT; item -1 0 0 = OUT
            """, OFFERED + """
            item 0 0 0 = OUT; pass 0 1; item 0 0 0 = OUT; pass 0 1           # OFFER and ACCEPT have none
            item 0 0 = 0 0 1; item 0 3 = 0 3 4; item 0 4 0 = OUT; item 0 -1 0 = OUT; item 0 MIN 0 = OUT; item 0 MAX 0 = OUT
            item 0 0 -1 = OUT; item 0 0 3 = OUT; item 0 3 3 = OUT; item 0 0 MIN = OUT; item 0 0 MAX = OUT; item 0 1431655766 0 = OUT
            item 2 0 = 0 8 9; item 2 1 0 = OUT; item 3 0 0 = OUT; item -1 0 0 = OUT; item MIN 0 0 = OUT; item MAX 0 0 = OUT
            """, BOTH + """
            force 4; tick; all; back 0; item 0 0 = 4097 0 0; item 0 0 3 = OUT; item 0 1 0 = OUT
            """);
    }

    private static void read() {
        e.edge("What a place holds in NOW. IndexOutOfBoundsException: BAD; IllegalStateException: the site is DOWN.", THREE + """
            read 0 0 3 = 12; read 0 1 39 = 9; read 0 0 0 = 0; read 4 1 39 = 0
            read 0 0 -1 = OUT; read 0 0 40 = OUT; read 0 -1 0 = OUT; read 0 2 0 = OUT; read 0 0 MIN = OUT; read 0 0 MAX = OUT
            read 0 MIN 0 = OUT; read 0 MAX 0 = OUT; read -1 0 0 = OUT; read 8 0 0 = OUT; read 1 0 0 = OUT; read 5 0 0 = OUT
            crash 0; read 0 0 3 = DARK; read 0 0 40 = OUT; read 1 0 0 = OUT; read 4 0 3 = 0; up 0; read 0 0 3 = 10
            """);
    }

    private static void old() {
        e.edge("What a place holds in the k-th SNAPSHOT (0 the oldest). As read().", THREE + """
            old 0 0 0 3 = 7; old 0 0 1 39 = 0; old 0 1 0 3 = 10; old 0 1 1 39 = 9; old 0 1 1 0 = 0; old 0 2 1 0 = 11; old 0 2 0 3 = 10
            old 0 3 0 3 = OUT; old 0 -1 0 3 = OUT; old 0 MIN 0 3 = OUT; old 0 MAX 0 3 = OUT; old 4 0 0 3 = OUT
            old 0 0 0 40 = OUT; old 0 0 0 -1 = OUT; old 0 0 2 0 = OUT; old 0 0 -1 0 = OUT; old 1 0 0 0 = OUT; old 8 0 0 0 = OUT
            old -1 0 0 0 = OUT; crash 0; old 0 0 0 3 = DARK; old 0 3 0 3 = OUT; old 0 0 0 40 = OUT
            """, """
            new 64 2 2; group 1 4; write 0 0 0 1; snapshot 0; write 0 0 0 2; snapshot 0; write 0 0 0 3; snapshot 0
            old 0 0 0 0 = 2; old 0 1 0 0 = 3; old 0 2 0 0 = OUT              # the oldest that is there
            """);
    }

    private static void sum() {
        e.edge("Of a volume in NOW, place by place: s is 0, then 31 * s + what it holds (lowest 32 bits). As read().", """
            new 64 2 2; group 2 1; sum 0 0 = 0; write 0 0 0 5; sum 0 0 = 5; sum 0 1 = 0; sum 0 2 = OUT; sum 0 -1 = OUT
            sum 0 MIN = OUT; sum 0 MAX = OUT; sum 1 0 = OUT; sum -1 0 = OUT; sum 8 0 = OUT
            crash 0; sum 0 0 = DARK; sum 0 2 = OUT; sum 4 0 = 0
            """, """
            new 64 2 2; group 1 2; write 0 0 0 3; write 0 0 1 4; sum 0 0 = 97; write 0 0 0 MAX; sum 0 0 = 2147483621   # bits are lost
            write 0 0 1 MIN; sum 0 0 = -31; write 0 0 0 -1; sum 0 0 = 2147483617
            """, """
            new 64 2 2; group 1 4096; write 0 0 4095 6; sum 0 0 = 6; write 0 0 4094 1; sum 0 0 = 37
            """);
    }

    private static void differ() {
        e.edge("How many places are WRITTEN in the j-th SNAPSHOT's line behind the i-th one's (i not above j). IndexOutOfBoundsException: "
            + "there are no such ones; IllegalStateException as read().", THREE + """
            differ 0 0 0 = 0; differ 0 2 2 = 0; differ 0 0 1 = 2; differ 0 1 2 = 1; differ 0 0 2 = 3
            differ 0 1 0 = OUT; differ 0 2 1 = OUT; differ 0 0 3 = OUT; differ 0 3 3 = OUT; differ 0 -1 0 = OUT; differ 0 -1 -1 = OUT
            differ 0 MIN 0 = OUT; differ 0 0 MAX = OUT; differ 0 MAX MAX = OUT; differ 4 0 0 = OUT; differ 1 0 0 = OUT
            differ -1 0 0 = OUT; differ 8 0 0 = OUT; crash 0; differ 0 0 1 = DARK; differ 0 1 0 = OUT; differ 0 0 3 = OUT
            """);
    }

    private static void state() {
        e.edge("Of a store (also of a site that is DOWN):", THREE + """
            crash 0; crash 1; state 0 : 0=1 1=1 2=6 3=5 4=5 5=3 6=4099 23=5 24=3; state 4 : 0=0 1=1 2=0
            """);
        e.edge("23 the blocks that it needs, 24 how many SNAPSHOTS were taken in its EPOCH; BAD for others.", THREE + """
            state 0 -1 = BAD; state 0 25 = BAD; state 0 MIN = BAD; state 0 MAX = BAD; state 0 23 = 5; state 0 24 = 3; state 4 24 = 0
            state 1 0 = BAD; state 1 24 = BAD; state 5 0 = BAD; state -1 0 = BAD; state 8 0 = BAD; state MIN 0 = BAD; state MAX 24 = BAD
            """, """
            new 64 2 2; state 0 0 = BAD; state 4 0 = BAD; group 1 1; state 0 0 = 1; state 4 0 = 0
            """, BOTH + """
            force 4; state 4 24 = 1; tick; all; state 0 24 = 0               # it has taken none in the EPOCH that it heard of
            """);
        e.edge("17 1 if it is RETURNING, else 0, 18 chunks and 19 items that are STAGED, 20 the ID that is STAGED (0 none), 21 its REFUSED "
            + "chunks", BOTH + """
            force 4; tick; all; state 0 17 = 0; back 0; state 0 17 = 1; all; state 0 17 = 0
            """, OFFERED + """
            state 4 : 18=0 19=0 20=0 21=0; pass 0 1; state 4 : 18=0 19=0 20=4097; pass 0 1; pass 0 1; state 4 : 18=1 19=4 20=4097
            pass 0 1; pass 0 1; state 4 : 18=0 19=0 20=0
            """);
        e.edge("22 how many are LOST by its latest WAY BACK", BOTH + """
            state 0 22 = 0; write 0 0 5 5; write 0 0 6 6; force 4; tick; all; state 0 22 = 0; back 0; all; state 0 22 = 2
            8 * tick; all; force 0 = 7; state 0 22 = 2; tick; all; back 4; all; 8 * tick; all; force 4 = 8; tick; all; state 0 0 = 3
            state 0 22 = 2; back 0; all; state 0 : 0=0 22=0; lost 0 0 0 = OUT          # the latest one lost nothing
            """, """
            new 64 2 8; group 1 40; write 0 0 5 5; force 4; tick; pass 0 1; back 0; all; state 0 : 0=0 2=0 22=1
            force 0 = 7; tick; all; state 4 0 = 3; force 4 = 8; tick; all; back 0; all; state 0 : 0=0 2=0 22=0   # nor of nothing
            """);
    }

    private static void snap() {
        e.edge("Of the k-th SNAPSHOT of a store: what 0 its ID, 1 its LENGTH; BAD.", THREE + """
            snap 0 0 = 4097 1; snap 0 1 = 4098 4; snap 0 2 = 4099 5; snap 0 3 0 = BAD; snap 0 -1 0 = BAD; snap 0 MIN 0 = BAD
            snap 0 MAX 0 = BAD; snap 0 0 2 = BAD; snap 0 0 -1 = BAD; snap 0 0 MIN = BAD; snap 0 0 MAX = BAD; snap 4 0 0 = BAD
            snap 1 0 0 = BAD; snap -1 0 0 = BAD; snap 8 0 0 = BAD; crash 0; snap 0 2 = 4099 5; snap 0 3 0 = BAD
            """);
    }

    private static void lost() {
        e.edge("Of the i-th place that the latest WAY BACK of a store told as LOST: what 0 the volume, 1 the place, 2 the number. "
            + "IndexOutOfBoundsException: there is none such.", BOTH + """
            lost 0 0 0 = OUT; write 0 0 5 5; write 0 0 39 6; force 4; tick; all; lost 0 0 0 = OUT; back 0; all
            lost 0 0 = 0 5 5; lost 0 1 = 0 39 6; lost 0 2 0 = OUT; lost 0 -1 0 = OUT; lost 0 MIN 0 = OUT; lost 0 MAX 0 = OUT
            lost 0 0 3 = OUT; lost 0 0 -1 = OUT; lost 0 0 MIN = OUT; lost 0 0 MAX = OUT; lost 4 0 0 = OUT; lost 1 0 0 = OUT
            lost -1 0 0 = OUT; lost 8 0 0 = OUT; crash 0; lost 0 1 = 0 39 6; lost 0 2 0 = OUT     # also of a site that is DOWN
            """);
    }

    private static void total() {
        e.edge("What 0 TIME, 1 groups, 2 writes made, 3 messages in FLIGHT, 4 sent (those LOST at once, too), 5 LOST for want of room;",
            """
            new 64 2 8; total : 0=0 1=0 2=0 3=0 4=0 5=0; group 1 4; force 4; tick; pass 0 1; 60 * back 0; total : 0=1 1=1 3=60 4=61 5=0
            back 0; total : 3=60 4=62 5=1; pass 3 0; total : 3=59 4=62 5=1; write 4 0 0 1; write 0 0 0 1; total 2 = 1
            """);
        e.edge("of site 0, and, 10 more, of site 1: 10 1 if it is UP, else 0, 11 ACTS done, 12 FREE blocks, 13 ACTS that are left before "
            + "power fails (NONE); NONE for others.", """
            new 64 2 8; group 1 4; total -1 = NONE; total 6 = NONE; total 7 = NONE; total 9 = NONE; total 14 = NONE; total 19 = NONE
            total 24 = NONE; total 30 = NONE; total 33 = NONE; total MIN = NONE; total MAX = NONE; total -10 = NONE
            total : 10=1 11=0 12=64 13=NONE 20=1 21=0 22=64 23=NONE; write 0 0 0 1; flush 0; power 0 0; power 1 8
            total : 10=1 11=1 12=63 13=0 20=1 21=0 22=64 23=8; crash 0; total : 10=0 11=1 12=63 13=NONE 20=1 23=8
            crash 1; total : 20=0 21=0 22=64 23=NONE
            """);
    }

    private static void lastCall() {
        e.edge("An object is used for at most 512 calls after it has been made", """
            new 64 2 8; group 1 4; 509 * tick; write 0 0 0 7 = 1; read 0 0 0 = 7        # the last one is answered as the first
            """);
    }
}
