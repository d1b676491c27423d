/-! the tables of the methods, printed by a program of ours (wip/tools/gen.py) out of the claim -/
/-- 0: java/lang/Math.floorMod(II)I -/
def bt_J9_floorMod_7cf53 : List bi_K := [(0, [(.iload_n 0, (0, 0, 0, 0)), (.iload_n 1, (0, 0, 0, 0)), (.irem, (0, 0, 0, 0)), (.istore_n 2, (0, 0, 0, 0)), (.iload_n 0, (0, 0, 0, 0)), (.iload_n 1, (0, 0, 0, 0)), (.ixor, (0, 0, 0, 0))], (.ifCond .ge 11, (0, 0, 0, 0)), [3, 1]),
  (10, [(.iload_n 2, (0, 0, 0, 0))], (.ifCond .eq 7, (0, 0, 0, 0)), [3, 2]),
  (14, [(.iload_n 2, (0, 0, 0, 0)), (.iload_n 1, (0, 0, 0, 0)), (.iadd, (0, 0, 0, 0))], (.ireturn, (0, 0, 0, 0)), []),
  (18, [(.iload_n 2, (0, 0, 0, 0))], (.ireturn, (0, 0, 0, 0)), [])]
/-- 1: java/lang/Math.max(II)I -/
def bt_J9_max_7cf53 : List bi_K := [(0, [(.iload_n 0, (0, 0, 0, 0)), (.iload_n 1, (0, 0, 0, 0))], (.if_icmp .lt 7, (0, 0, 0, 0)), [2, 1]),
  (5, [(.iload_n 0, (0, 0, 0, 0))], (.goto 4, (0, 0, 0, 0)), [3]),
  (9, [(.iload_n 1, (0, 0, 0, 0))], (.nop, (0, 0, 0, 0)), [3]),
  (10, [], (.ireturn, (0, 0, 0, 0)), [])]
/-- 2: java/lang/Math.min(II)I -/
def bt_J9_min_7cf53 : List bi_K := [(0, [(.iload_n 0, (0, 0, 0, 0)), (.iload_n 1, (0, 0, 0, 0))], (.if_icmp .gt 7, (0, 0, 0, 0)), [2, 1]),
  (5, [(.iload_n 0, (0, 0, 0, 0))], (.goto 4, (0, 0, 0, 0)), [3]),
  (9, [(.iload_n 1, (0, 0, 0, 0))], (.nop, (0, 0, 0, 0)), [3]),
  (10, [], (.ireturn, (0, 0, 0, 0)), [])]
/-- 3: TwinVaults$Link.add(LTwinVaults$Message;)V -/
def bt_X0_add : List bi_K := [(0, [(.aload_n 0, (0, 0, 0, 0)), (.dup, (0, 0, 0, 0)), (.getfield 21, (0, 2, 0, 0)), (.iconst 1, (0, 0, 0, 0)), (.iadd, (0, 0, 0, 0)), (.putfield 21, (0, 2, 0, 0)), (.aload_n 0, (0, 0, 0, 0)), (.getfield 17, (0, 1, 0, 0)), (.bipush 60, (0, 0, 0, 0))], (.if_icmp .lt 14, (0, 0, 0, 0)), [2, 1]),
  (19, [(.aload_n 0, (0, 0, 0, 0)), (.dup, (0, 0, 0, 0)), (.getfield 24, (0, 3, 0, 0)), (.iconst 1, (0, 0, 0, 0)), (.iadd, (0, 0, 0, 0)), (.putfield 24, (0, 3, 0, 0))], (.return_, (0, 0, 0, 0)), []),
  (30, [(.aload_n 0, (0, 0, 0, 0)), (.getfield 11, (0, 0, 1, 0)), (.aload_n 0, (0, 0, 0, 0)), (.getfield 17, (0, 1, 0, 0)), (.aload_n 1, (0, 0, 0, 0)), (.aastore, (0, 0, 0, 0)), (.aload_n 0, (0, 0, 0, 0)), (.dup, (0, 0, 0, 0)), (.getfield 17, (0, 1, 0, 0)), (.iconst 1, (0, 0, 0, 0)), (.iadd, (0, 0, 0, 0)), (.putfield 17, (0, 1, 0, 0))], (.return_, (0, 0, 0, 0)), [])]
/-- 4: TwinVaults$Link.at(I)LTwinVaults$Message; -/
def bt_X0_at : List bi_K := [(0, [(.iload_n 1, (0, 0, 0, 0))], (.ifCond .lt 11, (0, 0, 0, 0)), [2, 1]),
  (4, [(.iload_n 1, (0, 0, 0, 0)), (.aload_n 0, (0, 0, 0, 0)), (.getfield 17, (0, 1, 0, 0))], (.if_icmp .lt 7, (0, 0, 0, 0)), [3, 2]),
  (12, [(.aconst_null, (0, 0, 0, 0))], (.goto 9, (0, 0, 0, 0)), [4]),
  (16, [(.aload_n 0, (0, 0, 0, 0)), (.getfield 11, (0, 0, 1, 0)), (.iload_n 1, (0, 0, 0, 0)), (.aaload, (0, 0, 0, 0))], (.nop, (0, 0, 0, 0)), [4]),
  (22, [], (.areturn, (0, 0, 0, 0)), [])]
/-- 5: TwinVaults$Link.drop(I)V -/
def bt_X0_drop : List bi_K := [(0, [(.iload_n 1, (0, 0, 0, 0))], (.ifCond .lt 11, (0, 0, 0, 0)), [2, 1]),
  (4, [(.iload_n 1, (0, 0, 0, 0)), (.aload_n 0, (0, 0, 0, 0)), (.getfield 17, (0, 1, 0, 0))], (.if_icmp .lt 4, (0, 0, 0, 0)), [3, 2]),
  (12, [], (.return_, (0, 0, 0, 0)), []),
  (13, [(.iload_n 1, (0, 0, 0, 0)), (.iconst 1, (0, 0, 0, 0)), (.iadd, (0, 0, 0, 0)), (.istore_n 2, (0, 0, 0, 0))], (.nop, (0, 0, 0, 0)), [4]),
  (17, [(.iload_n 2, (0, 0, 0, 0)), (.aload_n 0, (0, 0, 0, 0)), (.getfield 17, (0, 1, 0, 0))], (.if_icmp .ge 23, (0, 0, 0, 0)), [6, 5]),
  (25, [(.aload_n 0, (0, 0, 0, 0)), (.getfield 11, (0, 0, 1, 0)), (.iload_n 2, (0, 0, 0, 0)), (.iconst 1, (0, 0, 0, 0)), (.isub, (0, 0, 0, 0)), (.aload_n 0, (0, 0, 0, 0)), (.getfield 11, (0, 0, 1, 0)), (.iload_n 2, (0, 0, 0, 0)), (.aaload, (0, 0, 0, 0)), (.aastore, (0, 0, 0, 0)), (.iinc 2 1, (0, 0, 0, 0))], (.goto (-25), (0, 0, 0, 0)), [4]),
  (45, [(.aload_n 0, (0, 0, 0, 0)), (.dup, (0, 0, 0, 0)), (.getfield 17, (0, 1, 0, 0)), (.iconst 1, (0, 0, 0, 0)), (.isub, (0, 0, 0, 0)), (.putfield 17, (0, 1, 0, 0)), (.aload_n 0, (0, 0, 0, 0)), (.getfield 11, (0, 0, 1, 0)), (.aload_n 0, (0, 0, 0, 0)), (.getfield 17, (0, 1, 0, 0)), (.aconst_null, (0, 0, 0, 0)), (.aastore, (0, 0, 0, 0))], (.return_, (0, 0, 0, 0)), [])]
/-- 6: TwinVaults$Link.<init>()V -/
def bt_X0_init : List bi_K := [(0, [(.aload_n 0, (0, 0, 0, 0)), (.invokespecial 3, (9999, 0, 0, 0)), (.aload_n 0, (0, 0, 0, 0)), (.bipush 60, (0, 0, 0, 0)), (.anewarray 9, (2, 0, 0, 0)), (.putfield 11, (0, 0, 1, 0))], (.return_, (0, 0, 0, 0)), [])]
/-- 7: TwinVaultsModel$Message.<init>()V -/
def bt_X10_init : List bi_K := [(0, [(.aload_n 0, (0, 0, 0, 0)), (.invokespecial 3, (9999, 0, 0, 0)), (.aload_n 0, (0, 0, 0, 0)), (.bipush 40, (0, 0, 0, 0)), (.newarray .int, (0, 0, 0, 0)), (.putfield 9, (10, 8, 1, 0)), (.aload_n 0, (0, 0, 0, 0)), (.bipush 40, (0, 0, 0, 0)), (.newarray .int, (0, 0, 0, 0)), (.putfield 15, (10, 9, 1, 0)), (.aload_n 0, (0, 0, 0, 0)), (.bipush 40, (0, 0, 0, 0)), (.newarray .int, (0, 0, 0, 0)), (.putfield 18, (10, 10, 1, 0))], (.return_, (0, 0, 0, 0)), [])]
/-- 8: TwinVaultsModel$Store.drop(I)V -/
def bt_X11_drop : List bi_K := [(0, [(.iload_n 1, (0, 0, 0, 0)), (.istore_n 2, (0, 0, 0, 0))], (.nop, (0, 0, 0, 0)), [1]),
  (2, [(.iload_n 2, (0, 0, 0, 0)), (.iconst 1, (0, 0, 0, 0)), (.iadd, (0, 0, 0, 0)), (.aload_n 0, (0, 0, 0, 0)), (.getfield 28, (11, 7, 0, 0))], (.if_icmp .ge 37, (0, 0, 0, 0)), [3, 2]),
  (12, [(.aload_n 0, (0, 0, 0, 0)), (.getfield 15, (11, 14, 1, 0)), (.iload_n 2, (0, 0, 0, 0)), (.aload_n 0, (0, 0, 0, 0)), (.getfield 15, (11, 14, 1, 0)), (.iload_n 2, (0, 0, 0, 0)), (.iconst 1, (0, 0, 0, 0)), (.iadd, (0, 0, 0, 0)), (.iaload, (0, 0, 0, 0)), (.iastore, (0, 0, 0, 0)), (.aload_n 0, (0, 0, 0, 0)), (.getfield 19, (11, 15, 1, 0)), (.iload_n 2, (0, 0, 0, 0)), (.aload_n 0, (0, 0, 0, 0)), (.getfield 19, (11, 15, 1, 0)), (.iload_n 2, (0, 0, 0, 0)), (.iconst 1, (0, 0, 0, 0)), (.iadd, (0, 0, 0, 0)), (.iaload, (0, 0, 0, 0)), (.iastore, (0, 0, 0, 0)), (.iinc 2 1, (0, 0, 0, 0))], (.goto (-41), (0, 0, 0, 0)), [1]),
  (46, [(.aload_n 0, (0, 0, 0, 0)), (.dup, (0, 0, 0, 0)), (.getfield 28, (11, 7, 0, 0)), (.iconst 1, (0, 0, 0, 0)), (.isub, (0, 0, 0, 0)), (.putfield 28, (11, 7, 0, 0)), (.aload_n 0, (0, 0, 0, 0)), (.iconst 0, (0, 0, 0, 0)), (.putfield 31, (11, 33, 2, 0))], (.return_, (0, 0, 0, 0)), [])]
/-- 9: TwinVaultsModel$Store.find(I)I -/
def bt_X11_find : List bi_K := [(0, [(.iconst 0, (0, 0, 0, 0)), (.istore_n 2, (0, 0, 0, 0))], (.nop, (0, 0, 0, 0)), [1]),
  (2, [(.iload_n 2, (0, 0, 0, 0)), (.aload_n 0, (0, 0, 0, 0)), (.getfield 28, (11, 7, 0, 0))], (.if_icmp .ge 19, (0, 0, 0, 0)), [4, 2]),
  (10, [(.aload_n 0, (0, 0, 0, 0)), (.getfield 15, (11, 14, 1, 0)), (.iload_n 2, (0, 0, 0, 0)), (.iaload, (0, 0, 0, 0)), (.iload_n 1, (0, 0, 0, 0))], (.if_icmp .eq 9, (0, 0, 0, 0)), [4, 3]),
  (20, [(.iinc 2 1, (0, 0, 0, 0))], (.goto (-21), (0, 0, 0, 0)), [1]),
  (26, [(.iload_n 2, (0, 0, 0, 0)), (.aload_n 0, (0, 0, 0, 0)), (.getfield 28, (11, 7, 0, 0))], (.if_icmp .ge 7, (0, 0, 0, 0)), [6, 5]),
  (34, [(.iload_n 2, (0, 0, 0, 0))], (.goto 4, (0, 0, 0, 0)), [7]),
  (38, [(.iconst (-1), (0, 0, 0, 0))], (.nop, (0, 0, 0, 0)), [7]),
  (39, [], (.ireturn, (0, 0, 0, 0)), [])]
/-- 10: TwinVaultsModel$Store.hasAll()Z -/
def bt_X11_hasAll : List bi_K := [(0, [(.iconst 4, (0, 0, 0, 0)), (.aload_n 0, (0, 0, 0, 0)), (.getfield 74, (11, 26, 0, 0)), (.imul, (0, 0, 0, 0)), (.aload_n 0, (0, 0, 0, 0)), (.getfield 71, (11, 25, 0, 0))], (.if_icmp .lt 7, (0, 0, 0, 0)), [2, 1]),
  (13, [(.iconst 1, (0, 0, 0, 0))], (.goto 4, (0, 0, 0, 0)), [3]),
  (17, [(.iconst 0, (0, 0, 0, 0))], (.nop, (0, 0, 0, 0)), [3]),
  (18, [], (.ireturn, (1, 0, 0, 0)), [])]
/-- 11: TwinVaultsModel$Store.<init>()V -/
def bt_X11_init : List bi_K := [(0, [(.aload_n 0, (0, 0, 0, 0)), (.invokespecial 3, (9999, 0, 0, 0)), (.aload_n 0, (0, 0, 0, 0)), (.iconst 1, (0, 0, 0, 0)), (.putfield 9, (11, 3, 0, 0)), (.aload_n 0, (0, 0, 0, 0)), (.bipush 40, (0, 0, 0, 0)), (.newarray .int, (0, 0, 0, 0)), (.putfield 15, (11, 14, 1, 0)), (.aload_n 0, (0, 0, 0, 0)), (.bipush 40, (0, 0, 0, 0)), (.newarray .int, (0, 0, 0, 0)), (.putfield 19, (11, 15, 1, 0)), (.aload_n 0, (0, 0, 0, 0)), (.iconst 0, (0, 0, 0, 0)), (.newarray .int, (0, 0, 0, 0)), (.putfield 22, (11, 29, 1, 0)), (.aload_n 0, (0, 0, 0, 0)), (.iconst 0, (0, 0, 0, 0)), (.newarray .int, (0, 0, 0, 0)), (.putfield 25, (11, 30, 1, 0))], (.return_, (0, 0, 0, 0)), [])]
/-- 12: TwinVaultsModel$Store.isPinned(I)Z -/
def bt_X11_isPinned : List bi_K := [(0, [(.iload_n 1, (0, 0, 0, 0)), (.aload_n 0, (0, 0, 0, 0)), (.invokevirtual 35, (13, 0, 11, 0))], (.if_icmp .eq 43, (0, 0, 0, 0)), [6, 1]),
  (8, [(.iload_n 1, (0, 0, 0, 0)), (.aload_n 0, (0, 0, 0, 0)), (.getfield 39, (11, 8, 0, 0))], (.if_icmp .eq 35, (0, 0, 0, 0)), [6, 2]),
  (16, [(.iload_n 1, (0, 0, 0, 0)), (.aload_n 0, (0, 0, 0, 0)), (.getfield 42, (11, 9, 0, 0))], (.if_icmp .eq 27, (0, 0, 0, 0)), [6, 3]),
  (24, [(.iload_n 1, (0, 0, 0, 0)), (.aload_n 0, (0, 0, 0, 0)), (.getfield 45, (11, 16, 0, 0))], (.if_icmp .eq 19, (0, 0, 0, 0)), [6, 4]),
  (32, [(.iload_n 1, (0, 0, 0, 0)), (.aload_n 0, (0, 0, 0, 0)), (.getfield 48, (11, 10, 0, 0))], (.if_icmp .eq 11, (0, 0, 0, 0)), [6, 5]),
  (40, [(.iload_n 1, (0, 0, 0, 0)), (.aload_n 0, (0, 0, 0, 0)), (.getfield 51, (11, 11, 0, 0))], (.if_icmp .ne 7, (0, 0, 0, 0)), [7, 6]),
  (48, [(.iconst 1, (0, 0, 0, 0))], (.goto 4, (0, 0, 0, 0)), [8]),
  (52, [(.iconst 0, (0, 0, 0, 0))], (.nop, (0, 0, 0, 0)), [8]),
  (53, [], (.ireturn, (1, 0, 0, 0)), [])]
/-- 13: TwinVaultsModel$Store.latest()I -/
def bt_X11_latest : List bi_K := [(0, [(.aload_n 0, (0, 0, 0, 0)), (.getfield 28, (11, 7, 0, 0))], (.ifCond .ne 7, (0, 0, 0, 0)), [2, 1]),
  (7, [(.iconst 0, (0, 0, 0, 0))], (.goto 14, (0, 0, 0, 0)), [3]),
  (11, [(.aload_n 0, (0, 0, 0, 0)), (.getfield 15, (11, 14, 1, 0)), (.aload_n 0, (0, 0, 0, 0)), (.getfield 28, (11, 7, 0, 0)), (.iconst 1, (0, 0, 0, 0)), (.isub, (0, 0, 0, 0)), (.iaload, (0, 0, 0, 0))], (.nop, (0, 0, 0, 0)), [3]),
  (22, [], (.ireturn, (0, 0, 0, 0)), [])]
/-- 14: TwinVaultsModel$Store.latestLine()I -/
def bt_X11_latestLine : List bi_K := [(0, [(.aload_n 0, (0, 0, 0, 0)), (.getfield 28, (11, 7, 0, 0))], (.ifCond .ne 7, (0, 0, 0, 0)), [2, 1]),
  (7, [(.iconst 0, (0, 0, 0, 0))], (.goto 14, (0, 0, 0, 0)), [3]),
  (11, [(.aload_n 0, (0, 0, 0, 0)), (.getfield 19, (11, 15, 1, 0)), (.aload_n 0, (0, 0, 0, 0)), (.getfield 28, (11, 7, 0, 0)), (.iconst 1, (0, 0, 0, 0)), (.isub, (0, 0, 0, 0)), (.iaload, (0, 0, 0, 0))], (.nop, (0, 0, 0, 0)), [3]),
  (22, [], (.ireturn, (0, 0, 0, 0)), [])]
/-- 15: TwinVaultsModel$Store.snaps(II)V -/
def bt_X11_snaps : List bi_K := [(0, [(.aload_n 0, (0, 0, 0, 0)), (.getfield 15, (11, 14, 1, 0)), (.aload_n 0, (0, 0, 0, 0)), (.getfield 28, (11, 7, 0, 0)), (.iload_n 1, (0, 0, 0, 0)), (.iastore, (0, 0, 0, 0)), (.aload_n 0, (0, 0, 0, 0)), (.getfield 19, (11, 15, 1, 0)), (.aload_n 0, (0, 0, 0, 0)), (.getfield 28, (11, 7, 0, 0)), (.iload_n 2, (0, 0, 0, 0)), (.iastore, (0, 0, 0, 0)), (.aload_n 0, (0, 0, 0, 0)), (.dup, (0, 0, 0, 0)), (.getfield 28, (11, 7, 0, 0)), (.iconst 1, (0, 0, 0, 0)), (.iadd, (0, 0, 0, 0)), (.putfield 28, (11, 7, 0, 0)), (.aload_n 0, (0, 0, 0, 0)), (.iconst 0, (0, 0, 0, 0)), (.putfield 31, (11, 33, 2, 0))], (.return_, (0, 0, 0, 0)), [])]
/-- 16: TwinVaultsModel$Store.stagesNothing()V -/
def bt_X11_stagesNothing : List bi_K := [(0, [(.aload_n 0, (0, 0, 0, 0)), (.iconst 0, (0, 0, 0, 0)), (.putfield 62, (11, 22, 2, 0)), (.aload_n 0, (0, 0, 0, 0)), (.iconst 0, (0, 0, 0, 0)), (.putfield 65, (11, 24, 0, 0)), (.aload_n 0, (0, 0, 0, 0)), (.iconst 0, (0, 0, 0, 0)), (.putfield 68, (11, 23, 0, 0)), (.aload_n 0, (0, 0, 0, 0)), (.iconst 0, (0, 0, 0, 0)), (.putfield 71, (11, 25, 0, 0)), (.aload_n 0, (0, 0, 0, 0)), (.iconst 0, (0, 0, 0, 0)), (.putfield 74, (11, 26, 0, 0)), (.aload_n 0, (0, 0, 0, 0)), (.iconst 0, (0, 0, 0, 0)), (.putfield 77, (11, 27, 0, 0))], (.return_, (0, 0, 0, 0)), [])]
/-- 17: TwinVaultsModel$Store.thins(I)V -/
def bt_X11_thins : List bi_K := [(0, [(.iconst 0, (0, 0, 0, 0)), (.istore_n 2, (0, 0, 0, 0))], (.nop, (0, 0, 0, 0)), [1]),
  (2, [(.aload_n 0, (0, 0, 0, 0)), (.getfield 28, (11, 7, 0, 0)), (.iload_n 1, (0, 0, 0, 0))], (.if_icmp .le 38, (0, 0, 0, 0)), [6, 2]),
  (10, [(.iload_n 2, (0, 0, 0, 0)), (.aload_n 0, (0, 0, 0, 0)), (.getfield 28, (11, 7, 0, 0))], (.if_icmp .ge 30, (0, 0, 0, 0)), [6, 3]),
  (18, [(.aload_n 0, (0, 0, 0, 0)), (.aload_n 0, (0, 0, 0, 0)), (.getfield 15, (11, 14, 1, 0)), (.iload_n 2, (0, 0, 0, 0)), (.iaload, (0, 0, 0, 0)), (.invokevirtual 54, (12, 1, 11, 0))], (.ifCond .eq 9, (0, 0, 0, 0)), [5, 4]),
  (31, [(.iinc 2 1, (0, 0, 0, 0))], (.goto (-32), (0, 0, 0, 0)), [1]),
  (37, [(.aload_n 0, (0, 0, 0, 0)), (.iload_n 2, (0, 0, 0, 0)), (.invokevirtual 58, (8, 1, 11, 0))], (.goto (-40), (0, 0, 0, 0)), [1]),
  (45, [], (.return_, (0, 0, 0, 0)), [])]
/-- 18: TwinVaultsModel.accepted(LTwinVaultsModel$Store;I)V -/
def bt_X12_accepted : List bi_K := [(0, [(.aload_n 1, (0, 0, 0, 0)), (.iconst 2, (0, 0, 0, 0)), (.putfield 277, (11, 17, 0, 0)), (.aload_n 1, (0, 0, 0, 0)), (.iload_n 2, (0, 0, 0, 0)), (.putfield 294, (11, 18, 0, 0)), (.aload_n 1, (0, 0, 0, 0)), (.iload_n 2, (0, 0, 0, 0)), (.putfield 291, (11, 19, 0, 0)), (.aload_n 1, (0, 0, 0, 0)), (.iconst 0, (0, 0, 0, 0)), (.putfield 280, (11, 20, 0, 0)), (.aload_n 0, (0, 0, 0, 0)), (.aload_n 1, (0, 0, 0, 0)), (.invokevirtual 391, (74, 1, 12, 0))], (.return_, (0, 0, 0, 0)), [])]
/-- 19: TwinVaultsModel.acknowledged(LTwinVaultsModel$Store;I)V -/
def bt_X12_acknowledged : List bi_K := [(0, [(.iload_n 2, (0, 0, 0, 0)), (.aload_n 1, (0, 0, 0, 0)), (.getfield 294, (11, 18, 0, 0))], (.if_icmp .le 25, (0, 0, 0, 0)), [2, 1]),
  (8, [(.aload_n 1, (0, 0, 0, 0)), (.iload_n 2, (0, 0, 0, 0)), (.putfield 294, (11, 18, 0, 0)), (.aload_n 1, (0, 0, 0, 0)), (.aload_n 1, (0, 0, 0, 0)), (.getfield 291, (11, 19, 0, 0)), (.iload_n 2, (0, 0, 0, 0)), (.invokestatic 106, (1, 2, 0, 0)), (.putfield 291, (11, 19, 0, 0)), (.aload_n 1, (0, 0, 0, 0)), (.iconst 0, (0, 0, 0, 0)), (.putfield 280, (11, 20, 0, 0))], (.nop, (0, 0, 0, 0)), [2]),
  (30, [(.aload_n 0, (0, 0, 0, 0)), (.aload_n 1, (0, 0, 0, 0)), (.invokevirtual 391, (74, 1, 12, 0))], (.return_, (0, 0, 0, 0)), [])]
/-- 20: TwinVaultsModel.act(I)Z -/
def bt_X12_act : List bi_K := [(0, [(.aload_n 0, (0, 0, 0, 0)), (.getfield 21, (12, 11, 1, 0)), (.iload_n 1, (0, 0, 0, 0)), (.iaload, (0, 0, 0, 0))], (.ifCond .ne 10, (0, 0, 0, 0)), [2, 1]),
  (9, [(.aload_n 0, (0, 0, 0, 0)), (.iload_n 1, (0, 0, 0, 0)), (.invokevirtual 174, (44, 1, 12, 0)), (.iconst 0, (0, 0, 0, 0))], (.ireturn, (1, 0, 0, 0)), []),
  (16, [(.aload_n 0, (0, 0, 0, 0)), (.getfield 21, (12, 11, 1, 0)), (.iload_n 1, (0, 0, 0, 0)), (.iaload, (0, 0, 0, 0))], (.ifCond .le 13, (0, 0, 0, 0)), [4, 3]),
  (25, [(.aload_n 0, (0, 0, 0, 0)), (.getfield 21, (12, 11, 1, 0)), (.iload_n 1, (0, 0, 0, 0)), (.dup2, (0, 0, 0, 0)), (.iaload, (0, 0, 0, 0)), (.iconst 1, (0, 0, 0, 0)), (.isub, (0, 0, 0, 0)), (.iastore, (0, 0, 0, 0))], (.nop, (0, 0, 0, 0)), [4]),
  (35, [(.aload_n 0, (0, 0, 0, 0)), (.getfield 17, (12, 10, 1, 0)), (.iload_n 1, (0, 0, 0, 0)), (.dup2, (0, 0, 0, 0)), (.iaload, (0, 0, 0, 0)), (.iconst 1, (0, 0, 0, 0)), (.iadd, (0, 0, 0, 0)), (.iastore, (0, 0, 0, 0)), (.iconst 1, (0, 0, 0, 0))], (.ireturn, (1, 0, 0, 0)), [])]
/-- 21: TwinVaultsModel.acts(II)Z -/
def bt_X12_acts : List bi_K := [(0, [(.iconst 1, (0, 0, 0, 0)), (.istore_n 3, (0, 0, 0, 0)), (.iconst 0, (0, 0, 0, 0)), (.istore 4, (0, 0, 0, 0))], (.nop, (0, 0, 0, 0)), [1]),
  (5, [(.iload 4, (0, 0, 0, 0)), (.iload_n 2, (0, 0, 0, 0))], (.if_icmp .ge 19, (0, 0, 0, 0)), [4, 2]),
  (11, [(.iload_n 3, (0, 0, 0, 0))], (.ifCond .eq 15, (0, 0, 0, 0)), [4, 3]),
  (15, [(.aload_n 0, (0, 0, 0, 0)), (.iload_n 1, (0, 0, 0, 0)), (.invokevirtual 178, (20, 1, 12, 0)), (.istore_n 3, (0, 0, 0, 0)), (.iinc 4 1, (0, 0, 0, 0))], (.goto (-19), (0, 0, 0, 0)), [1]),
  (27, [(.iload_n 3, (0, 0, 0, 0))], (.ireturn, (1, 0, 0, 0)), [])]
/-- 22: TwinVaultsModel.after(II)I -/
def bt_X12_after : List bi_K := [(0, [(.iload_n 0, (0, 0, 0, 0)), (.iconst 1, (0, 0, 0, 0)), (.iadd, (0, 0, 0, 0)), (.istore_n 2, (0, 0, 0, 0))], (.nop, (0, 0, 0, 0)), [1]),
  (4, [(.iload_n 2, (0, 0, 0, 0)), (.iconst 4, (0, 0, 0, 0)), (.irem, (0, 0, 0, 0)), (.iload_n 1, (0, 0, 0, 0))], (.if_icmp .eq 9, (0, 0, 0, 0)), [3, 2]),
  (11, [(.iinc 2 1, (0, 0, 0, 0))], (.goto (-10), (0, 0, 0, 0)), [1]),
  (17, [(.iload_n 2, (0, 0, 0, 0))], (.ireturn, (0, 0, 0, 0)), [])]
/-- 23: TwinVaultsModel.against(LTwinVaultsModel$Store;II)I -/
def bt_X12_against : List bi_K := [(0, [(.aload_n 1, (0, 0, 0, 0))], (.ifnonnull 6, (0, 0, 0, 0)), [2, 1]),
  (4, [(.bipush (-2), (0, 0, 0, 0))], (.ireturn, (0, 0, 0, 0)), []),
  (7, [(.aload_n 0, (0, 0, 0, 0)), (.getfield 13, (12, 9, 1, 0)), (.aload_n 1, (0, 0, 0, 0)), (.getfield 131, (11, 1, 0, 0)), (.baload, (0, 0, 0, 0))], (.ifCond .ne 6, (0, 0, 0, 0)), [4, 3]),
  (19, [(.bipush (-3), (0, 0, 0, 0))], (.ireturn, (0, 0, 0, 0)), []),
  (22, [(.aload_n 1, (0, 0, 0, 0)), (.getfield 305, (11, 2, 0, 0)), (.iload_n 2, (0, 0, 0, 0))], (.if_icmp .eq 16, (0, 0, 0, 0)), [7, 5]),
  (30, [(.aload_n 1, (0, 0, 0, 0)), (.getfield 305, (11, 2, 0, 0)), (.iload_n 3, (0, 0, 0, 0))], (.if_icmp .eq 8, (0, 0, 0, 0)), [7, 6]),
  (38, [(.bipush (-4), (0, 0, 0, 0))], (.goto 4, (0, 0, 0, 0)), [8]),
  (43, [(.iconst 0, (0, 0, 0, 0))], (.nop, (0, 0, 0, 0)), [8]),
  (44, [], (.ireturn, (0, 0, 0, 0)), [])]
/-- 24: TwinVaultsModel.back(I)I -/
def bt_X12_back : List bi_K := [(0, [(.aload_n 0, (0, 0, 0, 0)), (.iconst 0, (0, 0, 0, 0)), (.putfield 1, (12, 0, 0, 0)), (.aload_n 0, (0, 0, 0, 0)), (.iload_n 1, (0, 0, 0, 0)), (.invokevirtual 407, (61, 1, 12, 0)), (.astore_n 2, (0, 0, 0, 0)), (.aload_n 0, (0, 0, 0, 0)), (.aload_n 2, (0, 0, 0, 0)), (.iconst 3, (0, 0, 0, 0)), (.iconst 3, (0, 0, 0, 0)), (.invokevirtual 429, (23, 3, 12, 0)), (.istore_n 3, (0, 0, 0, 0)), (.iload_n 3, (0, 0, 0, 0))], (.ifCond .ge 5, (0, 0, 0, 0)), [2, 1]),
  (23, [(.iload_n 3, (0, 0, 0, 0))], (.ireturn, (0, 0, 0, 0)), []),
  (25, [(.aload_n 2, (0, 0, 0, 0)), (.iconst 1, (0, 0, 0, 0)), (.putfield 341, (11, 21, 2, 0)), (.aload_n 2, (0, 0, 0, 0)), (.iconst 0, (0, 0, 0, 0)), (.putfield 280, (11, 20, 0, 0)), (.aload_n 0, (0, 0, 0, 0)), (.aload_n 2, (0, 0, 0, 0)), (.bipush 10, (0, 0, 0, 0)), (.iconst 0, (0, 0, 0, 0)), (.iconst 0, (0, 0, 0, 0)), (.iconst 0, (0, 0, 0, 0)), (.iconst 0, (0, 0, 0, 0)), (.invokevirtual 287, (73, 6, 12, 0)), (.iconst 0, (0, 0, 0, 0))], (.ireturn, (0, 0, 0, 0)), [])]
/-- 25: TwinVaultsModel.begins(LTwinVaultsModel$Store;I)V -/
def bt_X12_begins : List bi_K := [(0, [(.aload_n 1, (0, 0, 0, 0)), (.iload_n 2, (0, 0, 0, 0)), (.putfield 201, (11, 3, 0, 0)), (.aload_n 1, (0, 0, 0, 0)), (.iconst 1, (0, 0, 0, 0)), (.putfield 198, (11, 13, 0, 0)), (.aload_n 1, (0, 0, 0, 0)), (.sipush 4096, (0, 0, 0, 0)), (.iload_n 2, (0, 0, 0, 0)), (.imul, (0, 0, 0, 0)), (.iconst 1, (0, 0, 0, 0)), (.iadd, (0, 0, 0, 0)), (.aload_n 1, (0, 0, 0, 0)), (.getfield 144, (11, 4, 0, 0)), (.invokevirtual 204, (15, 2, 11, 0)), (.aload_n 0, (0, 0, 0, 0)), (.aload_n 1, (0, 0, 0, 0)), (.getfield 134, (11, 0, 0, 0)), (.aload_n 1, (0, 0, 0, 0)), (.invokevirtual 208, (13, 0, 11, 0)), (.aload_n 1, (0, 0, 0, 0)), (.getfield 144, (11, 4, 0, 0)), (.invokevirtual 212, (51, 3, 12, 0))], (.return_, (0, 0, 0, 0)), [])]
/-- 26: TwinVaultsModel.checkpoint(I)I -/
def bt_X12_checkpoint : List bi_K := [(0, [(.aload_n 0, (0, 0, 0, 0)), (.iconst 0, (0, 0, 0, 0)), (.putfield 1, (12, 0, 0, 0)), (.aload_n 0, (0, 0, 0, 0)), (.iload_n 1, (0, 0, 0, 0)), (.invokevirtual 407, (61, 1, 12, 0)), (.astore_n 2, (0, 0, 0, 0)), (.aload_n 2, (0, 0, 0, 0))], (.ifnonnull 6, (0, 0, 0, 0)), [2, 1]),
  (15, [(.bipush (-2), (0, 0, 0, 0))], (.ireturn, (0, 0, 0, 0)), []),
  (18, [(.aload_n 0, (0, 0, 0, 0)), (.getfield 13, (12, 9, 1, 0)), (.aload_n 2, (0, 0, 0, 0)), (.getfield 131, (11, 1, 0, 0)), (.baload, (0, 0, 0, 0))], (.ifCond .eq 11, (0, 0, 0, 0)), [4, 3]),
  (30, [(.aload_n 0, (0, 0, 0, 0)), (.aload_n 2, (0, 0, 0, 0)), (.invokevirtual 182, (27, 1, 12, 0))], (.goto 4, (0, 0, 0, 0)), [5]),
  (38, [(.iconst (-1), (0, 0, 0, 0))], (.nop, (0, 0, 0, 0)), [5]),
  (39, [(.istore_n 3, (0, 0, 0, 0)), (.iload_n 3, (0, 0, 0, 0))], (.ifCond .ge 8, (0, 0, 0, 0)), [7, 6]),
  (44, [(.bipush (-3), (0, 0, 0, 0))], (.goto 4, (0, 0, 0, 0)), [8]),
  (49, [(.iload_n 3, (0, 0, 0, 0))], (.nop, (0, 0, 0, 0)), [8]),
  (50, [], (.ireturn, (0, 0, 0, 0)), [])]
/-- 27: TwinVaultsModel.checks(LTwinVaultsModel$Store;)I -/
def bt_X12_checks : List bi_K := [(0, [(.aload_n 1, (0, 0, 0, 0)), (.getfield 144, (11, 4, 0, 0)), (.aload_n 1, (0, 0, 0, 0)), (.getfield 159, (11, 6, 0, 0))], (.if_icmp .ne 5, (0, 0, 0, 0)), [2, 1]),
  (11, [(.iconst 0, (0, 0, 0, 0))], (.ireturn, (0, 0, 0, 0)), []),
  (13, [(.aload_n 0, (0, 0, 0, 0)), (.aload_n 1, (0, 0, 0, 0)), (.getfield 134, (11, 0, 0, 0)), (.aload_n 1, (0, 0, 0, 0)), (.getfield 159, (11, 6, 0, 0)), (.aload_n 1, (0, 0, 0, 0)), (.getfield 144, (11, 4, 0, 0)), (.invokevirtual 191, (60, 3, 12, 0)), (.iconst 1, (0, 0, 0, 0)), (.iadd, (0, 0, 0, 0)), (.istore_n 2, (0, 0, 0, 0)), (.aload_n 0, (0, 0, 0, 0)), (.aload_n 1, (0, 0, 0, 0)), (.getfield 131, (11, 1, 0, 0)), (.iload_n 2, (0, 0, 0, 0)), (.invokevirtual 195, (21, 2, 12, 0))], (.ifCond .ne 5, (0, 0, 0, 0)), [4, 3]),
  (44, [(.iconst (-1), (0, 0, 0, 0))], (.ireturn, (0, 0, 0, 0)), []),
  (46, [(.aload_n 1, (0, 0, 0, 0)), (.aload_n 1, (0, 0, 0, 0)), (.getfield 144, (11, 4, 0, 0)), (.putfield 185, (11, 5, 0, 0)), (.aload_n 1, (0, 0, 0, 0)), (.aload_n 1, (0, 0, 0, 0)), (.getfield 144, (11, 4, 0, 0)), (.putfield 159, (11, 6, 0, 0)), (.aload_n 1, (0, 0, 0, 0)), (.iconst 0, (0, 0, 0, 0)), (.putfield 147, (11, 33, 2, 0)), (.iload_n 2, (0, 0, 0, 0))], (.ireturn, (0, 0, 0, 0)), [])]
/-- 28: TwinVaultsModel.copies(LTwinVaultsModel$Store;)V -/
def bt_X12_copies : List bi_K := [(0, [(.aload_n 1, (0, 0, 0, 0)), (.getfield 271, (11, 9, 0, 0))], (.ifCond .ne 50, (0, 0, 0, 0)), [5, 1]),
  (7, [(.aload_n 1, (0, 0, 0, 0)), (.invokevirtual 208, (13, 0, 11, 0)), (.aload_n 1, (0, 0, 0, 0)), (.getfield 335, (11, 8, 0, 0))], (.if_icmp .eq 39, (0, 0, 0, 0)), [5, 2]),
  (18, [(.aload_n 0, (0, 0, 0, 0)), (.aload_n 1, (0, 0, 0, 0)), (.getfield 131, (11, 1, 0, 0)), (.invokevirtual 178, (20, 1, 12, 0))], (.ifCond .ne 4, (0, 0, 0, 0)), [4, 3]),
  (29, [], (.return_, (0, 0, 0, 0)), []),
  (30, [(.aload_n 1, (0, 0, 0, 0)), (.aload_n 1, (0, 0, 0, 0)), (.invokevirtual 208, (13, 0, 11, 0)), (.putfield 271, (11, 9, 0, 0)), (.aload_n 1, (0, 0, 0, 0)), (.aload_n 1, (0, 0, 0, 0)), (.getfield 335, (11, 8, 0, 0)), (.putfield 265, (11, 16, 0, 0)), (.aload_n 0, (0, 0, 0, 0)), (.aload_n 1, (0, 0, 0, 0)), (.invokevirtual 394, (63, 1, 12, 0))], (.goto 154, (0, 0, 0, 0)), [19]),
  (54, [(.aload_n 1, (0, 0, 0, 0)), (.getfield 271, (11, 9, 0, 0))], (.ifCond .eq 30, (0, 0, 0, 0)), [8, 6]),
  (61, [(.aload_n 1, (0, 0, 0, 0)), (.dup, (0, 0, 0, 0)), (.getfield 280, (11, 20, 0, 0)), (.iconst 1, (0, 0, 0, 0)), (.iadd, (0, 0, 0, 0)), (.putfield 280, (11, 20, 0, 0)), (.aload_n 1, (0, 0, 0, 0)), (.getfield 280, (11, 20, 0, 0)), (.bipush 8, (0, 0, 0, 0))], (.if_icmp .lt 128, (0, 0, 0, 0)), [19, 7]),
  (80, [(.aload_n 0, (0, 0, 0, 0)), (.aload_n 1, (0, 0, 0, 0)), (.invokevirtual 394, (63, 1, 12, 0))], (.goto 120, (0, 0, 0, 0)), [19]),
  (88, [(.aload_n 1, (0, 0, 0, 0)), (.getfield 305, (11, 2, 0, 0)), (.iconst 2, (0, 0, 0, 0))], (.if_icmp .ne 112, (0, 0, 0, 0)), [19, 9]),
  (96, [(.aload_n 1, (0, 0, 0, 0)), (.getfield 351, (11, 12, 0, 0))], (.ifCond .ne 63, (0, 0, 0, 0)), [16, 10]),
  (103, [(.aload_n 0, (0, 0, 0, 0)), (.aload_n 1, (0, 0, 0, 0)), (.getfield 131, (11, 1, 0, 0)), (.invokevirtual 178, (20, 1, 12, 0))], (.ifCond .ne 4, (0, 0, 0, 0)), [12, 11]),
  (114, [], (.return_, (0, 0, 0, 0)), []),
  (115, [(.aload_n 1, (0, 0, 0, 0)), (.aload_n 1, (0, 0, 0, 0)), (.getfield 201, (11, 3, 0, 0)), (.aload_n 1, (0, 0, 0, 0)), (.getfield 131, (11, 1, 0, 0))], (.ifCond .ne 7, (0, 0, 0, 0)), [14, 13]),
  (127, [(.iconst 2, (0, 0, 0, 0))], (.goto 4, (0, 0, 0, 0)), [15]),
  (131, [(.iconst 1, (0, 0, 0, 0))], (.nop, (0, 0, 0, 0)), [15]),
  (132, [(.invokestatic 439, (22, 2, 0, 0)), (.putfield 351, (11, 12, 0, 0)), (.aload_n 1, (0, 0, 0, 0)), (.iconst 0, (0, 0, 0, 0)), (.putfield 280, (11, 20, 0, 0)), (.aload_n 0, (0, 0, 0, 0)), (.aload_n 1, (0, 0, 0, 0)), (.bipush 8, (0, 0, 0, 0)), (.iconst 0, (0, 0, 0, 0)), (.aload_n 1, (0, 0, 0, 0)), (.invokevirtual 208, (13, 0, 11, 0)), (.aload_n 1, (0, 0, 0, 0)), (.getfield 351, (11, 12, 0, 0)), (.iconst 0, (0, 0, 0, 0)), (.invokevirtual 287, (73, 6, 12, 0))], (.goto 45, (0, 0, 0, 0)), [19]),
  (163, [(.aload_n 1, (0, 0, 0, 0)), (.dup, (0, 0, 0, 0)), (.getfield 280, (11, 20, 0, 0)), (.iconst 1, (0, 0, 0, 0)), (.iadd, (0, 0, 0, 0)), (.putfield 280, (11, 20, 0, 0)), (.aload_n 1, (0, 0, 0, 0)), (.getfield 280, (11, 20, 0, 0)), (.bipush 8, (0, 0, 0, 0))], (.if_icmp .ge 4, (0, 0, 0, 0)), [18, 17]),
  (182, [], (.return_, (0, 0, 0, 0)), []),
  (183, [(.aload_n 1, (0, 0, 0, 0)), (.iconst 0, (0, 0, 0, 0)), (.putfield 280, (11, 20, 0, 0)), (.aload_n 0, (0, 0, 0, 0)), (.aload_n 1, (0, 0, 0, 0)), (.bipush 8, (0, 0, 0, 0)), (.iconst 0, (0, 0, 0, 0)), (.aload_n 1, (0, 0, 0, 0)), (.invokevirtual 208, (13, 0, 11, 0)), (.aload_n 1, (0, 0, 0, 0)), (.getfield 351, (11, 12, 0, 0)), (.iconst 0, (0, 0, 0, 0)), (.invokevirtual 287, (73, 6, 12, 0))], (.nop, (0, 0, 0, 0)), [19]),
  (205, [], (.return_, (0, 0, 0, 0)), [])]
/-- 29: TwinVaultsModel.crash(I)Z -/
def bt_X12_crash : List bi_K := [(0, [(.aload_n 0, (0, 0, 0, 0)), (.iconst 0, (0, 0, 0, 0)), (.putfield 1, (12, 0, 0, 0)), (.iload_n 1, (0, 0, 0, 0)), (.invokestatic 454, (50, 1, 0, 0))], (.ifCond .eq 12, (0, 0, 0, 0)), [2, 1]),
  (12, [(.aload_n 0, (0, 0, 0, 0)), (.getfield 13, (12, 9, 1, 0)), (.iload_n 1, (0, 0, 0, 0)), (.baload, (0, 0, 0, 0))], (.ifCond .ne 5, (0, 0, 0, 0)), [3, 2]),
  (21, [(.iconst 0, (0, 0, 0, 0))], (.ireturn, (1, 0, 0, 0)), []),
  (23, [(.aload_n 0, (0, 0, 0, 0)), (.iload_n 1, (0, 0, 0, 0)), (.invokevirtual 174, (44, 1, 12, 0)), (.iconst 1, (0, 0, 0, 0))], (.ireturn, (1, 0, 0, 0)), [])]
/-- 30: TwinVaultsModel.cut(II)I -/
def bt_X12_cut : List bi_K := [(0, [(.iload_n 1, (0, 0, 0, 0)), (.istore_n 3, (0, 0, 0, 0))], (.nop, (0, 0, 0, 0)), [1]),
  (2, [(.aload_n 0, (0, 0, 0, 0)), (.getfield 40, (12, 18, 1, 0)), (.iload_n 3, (0, 0, 0, 0)), (.iaload, (0, 0, 0, 0)), (.iload_n 2, (0, 0, 0, 0))], (.if_icmp .le 13, (0, 0, 0, 0)), [3, 2]),
  (12, [(.aload_n 0, (0, 0, 0, 0)), (.getfield 31, (12, 15, 1, 0)), (.iload_n 3, (0, 0, 0, 0)), (.iaload, (0, 0, 0, 0)), (.istore_n 3, (0, 0, 0, 0))], (.goto (-17), (0, 0, 0, 0)), [1]),
  (22, [(.iload_n 3, (0, 0, 0, 0))], (.ireturn, (0, 0, 0, 0)), [])]
/-- 31: TwinVaultsModel.data(LTwinVaultsModel$Store;LTwinVaultsModel$Message;)V -/
def bt_X12_data : List bi_K := [(0, [(.aload_n 2, (0, 0, 0, 0)), (.getfield 243, (10, 5, 0, 0)), (.aload_n 1, (0, 0, 0, 0)), (.getfield 382, (11, 26, 0, 0))], (.if_icmp .lt 10, (0, 0, 0, 0)), [2, 1]),
  (11, [(.aload_n 1, (0, 0, 0, 0)), (.invokevirtual 378, (10, 0, 11, 0))], (.ifCond .eq 25, (0, 0, 0, 0)), [3, 2]),
  (18, [(.aload_n 0, (0, 0, 0, 0)), (.aload_n 1, (0, 0, 0, 0)), (.iconst 4, (0, 0, 0, 0)), (.aload_n 1, (0, 0, 0, 0)), (.getfield 366, (11, 23, 0, 0)), (.aload_n 1, (0, 0, 0, 0)), (.getfield 369, (11, 24, 0, 0)), (.aload_n 1, (0, 0, 0, 0)), (.getfield 382, (11, 26, 0, 0)), (.iconst 0, (0, 0, 0, 0)), (.invokevirtual 287, (73, 6, 12, 0))], (.goto 81, (0, 0, 0, 0)), [9]),
  (40, [(.aload_n 2, (0, 0, 0, 0)), (.getfield 243, (10, 5, 0, 0)), (.aload_n 1, (0, 0, 0, 0)), (.getfield 382, (11, 26, 0, 0))], (.if_icmp .ne 70, (0, 0, 0, 0)), [9, 4]),
  (51, [(.aload_n 0, (0, 0, 0, 0)), (.aload_n 1, (0, 0, 0, 0)), (.getfield 131, (11, 1, 0, 0)), (.invokevirtual 385, (41, 1, 12, 0)), (.aload_n 2, (0, 0, 0, 0)), (.getfield 228, (10, 7, 0, 0))], (.if_icmp .ge 14, (0, 0, 0, 0)), [6, 5]),
  (66, [(.aload_n 1, (0, 0, 0, 0)), (.dup, (0, 0, 0, 0)), (.getfield 388, (11, 28, 0, 0)), (.iconst 1, (0, 0, 0, 0)), (.iadd, (0, 0, 0, 0)), (.putfield 388, (11, 28, 0, 0))], (.return_, (0, 0, 0, 0)), []),
  (77, [(.aload_n 0, (0, 0, 0, 0)), (.aload_n 1, (0, 0, 0, 0)), (.getfield 131, (11, 1, 0, 0)), (.invokevirtual 178, (20, 1, 12, 0))], (.ifCond .ne 4, (0, 0, 0, 0)), [8, 7]),
  (88, [], (.return_, (0, 0, 0, 0)), []),
  (89, [(.aload_n 1, (0, 0, 0, 0)), (.dup, (0, 0, 0, 0)), (.getfield 382, (11, 26, 0, 0)), (.iconst 1, (0, 0, 0, 0)), (.iadd, (0, 0, 0, 0)), (.putfield 382, (11, 26, 0, 0)), (.aload_n 1, (0, 0, 0, 0)), (.dup, (0, 0, 0, 0)), (.getfield 153, (11, 27, 0, 0)), (.aload_n 2, (0, 0, 0, 0)), (.getfield 228, (10, 7, 0, 0)), (.iadd, (0, 0, 0, 0)), (.putfield 153, (11, 27, 0, 0)), (.aload_n 0, (0, 0, 0, 0)), (.aload_n 1, (0, 0, 0, 0)), (.iconst 4, (0, 0, 0, 0)), (.invokevirtual 375, (79, 2, 12, 0))], (.nop, (0, 0, 0, 0)), [9]),
  (118, [], (.return_, (0, 0, 0, 0)), [])]
/-- 32: TwinVaultsModel.differ(III)I -/
def bt_X12_differ : List bi_K := [(0, [(.aload_n 0, (0, 0, 0, 0)), (.iconst 0, (0, 0, 0, 0)), (.putfield 1, (12, 0, 0, 0)), (.aload_n 0, (0, 0, 0, 0)), (.iload_n 1, (0, 0, 0, 0)), (.invokevirtual 407, (61, 1, 12, 0)), (.astore 4, (0, 0, 0, 0)), (.aload 4, (0, 0, 0, 0))], (.ifnull 21, (0, 0, 0, 0)), [4, 1]),
  (17, [(.iload_n 2, (0, 0, 0, 0))], (.ifCond .lt 17, (0, 0, 0, 0)), [4, 2]),
  (21, [(.iload_n 2, (0, 0, 0, 0)), (.iload_n 3, (0, 0, 0, 0))], (.if_icmp .gt 12, (0, 0, 0, 0)), [4, 3]),
  (26, [(.iload_n 3, (0, 0, 0, 0)), (.aload 4, (0, 0, 0, 0)), (.getfield 156, (11, 7, 0, 0))], (.if_icmp .lt 9, (0, 0, 0, 0)), [5, 4]),
  (35, [(.aload_n 0, (0, 0, 0, 0)), (.iconst 1, (0, 0, 0, 0)), (.invokevirtual 465, (34, 1, 12, 0))], (.ireturn, (0, 0, 0, 0)), []),
  (41, [(.aload_n 0, (0, 0, 0, 0)), (.getfield 13, (12, 9, 1, 0)), (.aload 4, (0, 0, 0, 0)), (.getfield 131, (11, 1, 0, 0)), (.baload, (0, 0, 0, 0))], (.ifCond .ne 9, (0, 0, 0, 0)), [7, 6]),
  (54, [(.aload_n 0, (0, 0, 0, 0)), (.iconst 2, (0, 0, 0, 0)), (.invokevirtual 465, (34, 1, 12, 0))], (.ireturn, (0, 0, 0, 0)), []),
  (60, [(.aload_n 0, (0, 0, 0, 0)), (.aload 4, (0, 0, 0, 0)), (.getfield 134, (11, 0, 0, 0)), (.aload 4, (0, 0, 0, 0)), (.getfield 162, (11, 15, 1, 0)), (.iload_n 2, (0, 0, 0, 0)), (.iaload, (0, 0, 0, 0)), (.aload 4, (0, 0, 0, 0)), (.getfield 162, (11, 15, 1, 0)), (.iload_n 3, (0, 0, 0, 0)), (.iaload, (0, 0, 0, 0)), (.invokevirtual 468, (33, 3, 12, 0))], (.ireturn, (0, 0, 0, 0)), [])]
/-- 33: TwinVaultsModel.different(III)I -/
def bt_X12_different : List bi_K := [(0, [(.aload_n 0, (0, 0, 0, 0)), (.dup, (0, 0, 0, 0)), (.getfield 122, (12, 24, 0, 0)), (.iconst 1, (0, 0, 0, 0)), (.iadd, (0, 0, 0, 0)), (.putfield 122, (12, 24, 0, 0)), (.iconst 0, (0, 0, 0, 0)), (.istore 4, (0, 0, 0, 0)), (.iload_n 3, (0, 0, 0, 0)), (.istore 5, (0, 0, 0, 0))], (.nop, (0, 0, 0, 0)), [1]),
  (16, [(.iload 5, (0, 0, 0, 0)), (.iload_n 2, (0, 0, 0, 0))], (.if_icmp .eq 53, (0, 0, 0, 0)), [5, 2]),
  (22, [(.aload_n 0, (0, 0, 0, 0)), (.getfield 44, (12, 19, 1, 0)), (.aload_n 0, (0, 0, 0, 0)), (.getfield 34, (12, 16, 1, 0)), (.iload 5, (0, 0, 0, 0)), (.iaload, (0, 0, 0, 0)), (.iaload, (0, 0, 0, 0)), (.aload_n 0, (0, 0, 0, 0)), (.getfield 122, (12, 24, 0, 0))], (.if_icmp .eq 6, (0, 0, 0, 0)), [4, 3]),
  (41, [(.iinc 4 1, (0, 0, 0, 0))], (.nop, (0, 0, 0, 0)), [4]),
  (44, [(.aload_n 0, (0, 0, 0, 0)), (.getfield 44, (12, 19, 1, 0)), (.aload_n 0, (0, 0, 0, 0)), (.getfield 34, (12, 16, 1, 0)), (.iload 5, (0, 0, 0, 0)), (.iaload, (0, 0, 0, 0)), (.aload_n 0, (0, 0, 0, 0)), (.getfield 122, (12, 24, 0, 0)), (.iastore, (0, 0, 0, 0)), (.aload_n 0, (0, 0, 0, 0)), (.getfield 31, (12, 15, 1, 0)), (.iload 5, (0, 0, 0, 0)), (.iaload, (0, 0, 0, 0)), (.istore 5, (0, 0, 0, 0))], (.goto (-53), (0, 0, 0, 0)), [1]),
  (72, [(.iload 4, (0, 0, 0, 0))], (.ireturn, (0, 0, 0, 0)), [])]
/-- 34: TwinVaultsModel.fails(I)I -/
def bt_X12_fails : List bi_K := [(0, [(.aload_n 0, (0, 0, 0, 0)), (.iload_n 1, (0, 0, 0, 0)), (.putfield 1, (12, 0, 0, 0)), (.iconst 0, (0, 0, 0, 0))], (.ireturn, (0, 0, 0, 0)), [])]
/-- 35: TwinVaultsModel.fill(IIIII)I -/
def bt_X12_fill : List bi_K := [(0, [(.aload_n 0, (0, 0, 0, 0)), (.iconst 0, (0, 0, 0, 0)), (.putfield 1, (12, 0, 0, 0)), (.aload_n 0, (0, 0, 0, 0)), (.iload_n 1, (0, 0, 0, 0)), (.invokevirtual 407, (61, 1, 12, 0)), (.astore 6, (0, 0, 0, 0)), (.aload_n 0, (0, 0, 0, 0)), (.aload 6, (0, 0, 0, 0)), (.iload_n 2, (0, 0, 0, 0)), (.iload_n 3, (0, 0, 0, 0)), (.invokevirtual 411, (49, 3, 12, 0))], (.ifCond .eq 34, (0, 0, 0, 0)), [4, 1]),
  (23, [(.iload 4, (0, 0, 0, 0)), (.iconst 1, (0, 0, 0, 0))], (.if_icmp .lt 28, (0, 0, 0, 0)), [4, 2]),
  (29, [(.iload 4, (0, 0, 0, 0)), (.sipush 4096, (0, 0, 0, 0))], (.if_icmp .gt 20, (0, 0, 0, 0)), [4, 3]),
  (37, [(.iload_n 3, (0, 0, 0, 0)), (.iload 4, (0, 0, 0, 0)), (.iadd, (0, 0, 0, 0)), (.aload_n 0, (0, 0, 0, 0)), (.getfield 27, (12, 13, 1, 0)), (.aload 6, (0, 0, 0, 0)), (.getfield 134, (11, 0, 0, 0)), (.iaload, (0, 0, 0, 0))], (.if_icmp .le 6, (0, 0, 0, 0)), [5, 4]),
  (54, [(.bipush (-2), (0, 0, 0, 0))], (.ireturn, (0, 0, 0, 0)), []),
  (57, [(.iconst 0, (0, 0, 0, 0)), (.istore 7, (0, 0, 0, 0))], (.nop, (0, 0, 0, 0)), [6]),
  (60, [(.iload 7, (0, 0, 0, 0)), (.iload 4, (0, 0, 0, 0))], (.if_icmp .ge 45, (0, 0, 0, 0)), [13, 7]),
  (67, [(.aload_n 0, (0, 0, 0, 0)), (.aload 6, (0, 0, 0, 0)), (.iload_n 2, (0, 0, 0, 0)), (.iload_n 3, (0, 0, 0, 0)), (.iload 7, (0, 0, 0, 0)), (.iadd, (0, 0, 0, 0)), (.iload 5, (0, 0, 0, 0)), (.iload 7, (0, 0, 0, 0)), (.iadd, (0, 0, 0, 0)), (.invokevirtual 415, (91, 4, 12, 0)), (.istore 8, (0, 0, 0, 0)), (.iload 8, (0, 0, 0, 0))], (.ifCond .ge 16, (0, 0, 0, 0)), [12, 8]),
  (90, [(.iload 7, (0, 0, 0, 0))], (.ifCond .ne 8, (0, 0, 0, 0)), [10, 9]),
  (95, [(.iload 8, (0, 0, 0, 0))], (.goto 5, (0, 0, 0, 0)), [11]),
  (100, [(.iload 7, (0, 0, 0, 0))], (.nop, (0, 0, 0, 0)), [11]),
  (102, [], (.ireturn, (0, 0, 0, 0)), []),
  (103, [(.iinc 7 1, (0, 0, 0, 0))], (.goto (-46), (0, 0, 0, 0)), [6]),
  (109, [(.iload 4, (0, 0, 0, 0))], (.ireturn, (0, 0, 0, 0)), [])]
/-- 36: TwinVaultsModel.flies(I)LTwinVaultsModel$Message; -/
def bt_X12_flies : List bi_K := [(0, [(.iload_n 1, (0, 0, 0, 0))], (.ifCond .lt 11, (0, 0, 0, 0)), [2, 1]),
  (4, [(.iload_n 1, (0, 0, 0, 0)), (.aload_n 0, (0, 0, 0, 0)), (.getfield 222, (12, 37, 0, 0))], (.if_icmp .lt 7, (0, 0, 0, 0)), [3, 2]),
  (12, [(.aconst_null, (0, 0, 0, 0))], (.goto 9, (0, 0, 0, 0)), [4]),
  (16, [(.aload_n 0, (0, 0, 0, 0)), (.getfield 93, (12, 35, 1, 0)), (.iload_n 1, (0, 0, 0, 0)), (.aaload, (0, 0, 0, 0))], (.nop, (0, 0, 0, 0)), [4]),
  (22, [], (.areturn, (0, 0, 0, 0)), [])]
/-- 37: TwinVaultsModel.flush(I)I -/
def bt_X12_flush : List bi_K := [(0, [(.aload_n 0, (0, 0, 0, 0)), (.iconst 0, (0, 0, 0, 0)), (.putfield 1, (12, 0, 0, 0)), (.aload_n 0, (0, 0, 0, 0)), (.iload_n 1, (0, 0, 0, 0)), (.invokevirtual 407, (61, 1, 12, 0)), (.astore_n 2, (0, 0, 0, 0)), (.aload_n 2, (0, 0, 0, 0))], (.ifnonnull 6, (0, 0, 0, 0)), [2, 1]),
  (15, [(.bipush (-2), (0, 0, 0, 0))], (.ireturn, (0, 0, 0, 0)), []),
  (18, [(.aload_n 0, (0, 0, 0, 0)), (.getfield 13, (12, 9, 1, 0)), (.aload_n 2, (0, 0, 0, 0)), (.getfield 131, (11, 1, 0, 0)), (.baload, (0, 0, 0, 0))], (.ifCond .eq 33, (0, 0, 0, 0)), [5, 3]),
  (30, [(.aload_n 0, (0, 0, 0, 0)), (.aload_n 2, (0, 0, 0, 0)), (.invokevirtual 422, (38, 1, 12, 0))], (.ifCond .eq 25, (0, 0, 0, 0)), [5, 4]),
  (38, [(.aload_n 0, (0, 0, 0, 0)), (.getfield 40, (12, 18, 1, 0)), (.aload_n 2, (0, 0, 0, 0)), (.getfield 185, (11, 5, 0, 0)), (.iaload, (0, 0, 0, 0)), (.aload_n 0, (0, 0, 0, 0)), (.getfield 40, (12, 18, 1, 0)), (.aload_n 2, (0, 0, 0, 0)), (.getfield 159, (11, 6, 0, 0)), (.iaload, (0, 0, 0, 0)), (.isub, (0, 0, 0, 0))], (.goto 5, (0, 0, 0, 0)), [6]),
  (60, [(.bipush (-3), (0, 0, 0, 0))], (.nop, (0, 0, 0, 0)), [6]),
  (62, [], (.ireturn, (0, 0, 0, 0)), [])]
/-- 38: TwinVaultsModel.flushes(LTwinVaultsModel$Store;)Z -/
def bt_X12_flushes : List bi_K := [(0, [(.aload_n 0, (0, 0, 0, 0)), (.getfield 40, (12, 18, 1, 0)), (.aload_n 1, (0, 0, 0, 0)), (.getfield 144, (11, 4, 0, 0)), (.iaload, (0, 0, 0, 0)), (.aload_n 0, (0, 0, 0, 0)), (.getfield 40, (12, 18, 1, 0)), (.aload_n 1, (0, 0, 0, 0)), (.getfield 159, (11, 6, 0, 0)), (.iaload, (0, 0, 0, 0)), (.isub, (0, 0, 0, 0)), (.sipush 512, (0, 0, 0, 0))], (.if_icmp .le 17, (0, 0, 0, 0)), [5, 1]),
  (25, [(.aload_n 0, (0, 0, 0, 0)), (.aload_n 1, (0, 0, 0, 0)), (.invokevirtual 182, (27, 1, 12, 0))], (.ifCond .lt 7, (0, 0, 0, 0)), [3, 2]),
  (33, [(.iconst 1, (0, 0, 0, 0))], (.goto 4, (0, 0, 0, 0)), [4]),
  (37, [(.iconst 0, (0, 0, 0, 0))], (.nop, (0, 0, 0, 0)), [4]),
  (38, [], (.ireturn, (1, 0, 0, 0)), []),
  (39, [(.aload_n 1, (0, 0, 0, 0)), (.getfield 185, (11, 5, 0, 0)), (.aload_n 1, (0, 0, 0, 0)), (.getfield 144, (11, 4, 0, 0))], (.if_icmp .eq 55, (0, 0, 0, 0)), [9, 6]),
  (50, [(.aload_n 0, (0, 0, 0, 0)), (.aload_n 1, (0, 0, 0, 0)), (.getfield 131, (11, 1, 0, 0)), (.invokevirtual 178, (20, 1, 12, 0))], (.ifCond .ne 5, (0, 0, 0, 0)), [8, 7]),
  (61, [(.iconst 0, (0, 0, 0, 0))], (.ireturn, (1, 0, 0, 0)), []),
  (63, [(.aload_n 1, (0, 0, 0, 0)), (.aload_n 0, (0, 0, 0, 0)), (.aload_n 1, (0, 0, 0, 0)), (.getfield 144, (11, 4, 0, 0)), (.aload_n 0, (0, 0, 0, 0)), (.getfield 40, (12, 18, 1, 0)), (.aload_n 1, (0, 0, 0, 0)), (.getfield 144, (11, 4, 0, 0)), (.iaload, (0, 0, 0, 0)), (.aload_n 0, (0, 0, 0, 0)), (.getfield 40, (12, 18, 1, 0)), (.aload_n 1, (0, 0, 0, 0)), (.getfield 185, (11, 5, 0, 0)), (.iaload, (0, 0, 0, 0)), (.bipush 8, (0, 0, 0, 0)), (.iadd, (0, 0, 0, 0)), (.invokestatic 100, (2, 2, 0, 0)), (.invokevirtual 188, (30, 2, 12, 0)), (.putfield 185, (11, 5, 0, 0))], (.goto (-60), (0, 0, 0, 0)), [5]),
  (102, [(.iconst 1, (0, 0, 0, 0))], (.ireturn, (1, 0, 0, 0)), [])]
/-- 39: TwinVaultsModel.follows(LTwinVaultsModel$Store;I)Z -/
def bt_X12_follows : List bi_K := [(0, [(.aload_n 0, (0, 0, 0, 0)), (.aload_n 1, (0, 0, 0, 0)), (.getfield 131, (11, 1, 0, 0)), (.invokevirtual 178, (20, 1, 12, 0))], (.ifCond .ne 5, (0, 0, 0, 0)), [2, 1]),
  (11, [(.iconst 0, (0, 0, 0, 0))], (.ireturn, (1, 0, 0, 0)), []),
  (13, [(.aload_n 1, (0, 0, 0, 0)), (.iload_n 2, (0, 0, 0, 0)), (.putfield 201, (11, 3, 0, 0)), (.aload_n 1, (0, 0, 0, 0)), (.iconst 0, (0, 0, 0, 0)), (.putfield 198, (11, 13, 0, 0)), (.aload_n 1, (0, 0, 0, 0)), (.getfield 305, (11, 2, 0, 0)), (.iconst 1, (0, 0, 0, 0))], (.if_icmp .ne 8, (0, 0, 0, 0)), [4, 3]),
  (31, [(.aload_n 1, (0, 0, 0, 0)), (.iconst 3, (0, 0, 0, 0)), (.putfield 305, (11, 2, 0, 0))], (.nop, (0, 0, 0, 0)), [4]),
  (36, [(.aload_n 1, (0, 0, 0, 0)), (.getfield 305, (11, 2, 0, 0)), (.iconst 2, (0, 0, 0, 0))], (.if_icmp .ne 57, (0, 0, 0, 0)), [11, 5]),
  (44, [(.aload_n 1, (0, 0, 0, 0)), (.aload_n 1, (0, 0, 0, 0)), (.getfield 351, (11, 12, 0, 0)), (.iload_n 2, (0, 0, 0, 0))], (.if_icmp .ne 7, (0, 0, 0, 0)), [7, 6]),
  (53, [(.iconst 0, (0, 0, 0, 0))], (.goto 4, (0, 0, 0, 0)), [8]),
  (57, [(.iconst 3, (0, 0, 0, 0))], (.nop, (0, 0, 0, 0)), [8]),
  (58, [(.putfield 305, (11, 2, 0, 0)), (.aload_n 1, (0, 0, 0, 0)), (.getfield 305, (11, 2, 0, 0))], (.ifCond .ne 28, (0, 0, 0, 0)), [10, 9]),
  (68, [(.aload_n 1, (0, 0, 0, 0)), (.iconst 0, (0, 0, 0, 0)), (.putfield 271, (11, 9, 0, 0)), (.aload_n 1, (0, 0, 0, 0)), (.iconst 0, (0, 0, 0, 0)), (.putfield 335, (11, 8, 0, 0)), (.aload_n 1, (0, 0, 0, 0)), (.iconst 0, (0, 0, 0, 0)), (.putfield 265, (11, 16, 0, 0)), (.aload_n 1, (0, 0, 0, 0)), (.iconst 0, (0, 0, 0, 0)), (.putfield 354, (11, 10, 0, 0)), (.aload_n 1, (0, 0, 0, 0)), (.iconst 0, (0, 0, 0, 0)), (.putfield 357, (11, 11, 0, 0))], (.nop, (0, 0, 0, 0)), [10]),
  (93, [(.aload_n 1, (0, 0, 0, 0)), (.iconst 0, (0, 0, 0, 0)), (.putfield 351, (11, 12, 0, 0))], (.nop, (0, 0, 0, 0)), [11]),
  (98, [(.aload_n 1, (0, 0, 0, 0)), (.iconst 0, (0, 0, 0, 0)), (.putfield 277, (11, 17, 0, 0)), (.aload_n 1, (0, 0, 0, 0)), (.invokevirtual 360, (16, 0, 11, 0)), (.iconst 1, (0, 0, 0, 0))], (.ireturn, (1, 0, 0, 0)), [])]
/-- 40: TwinVaultsModel.force(I)I -/
def bt_X12_force : List bi_K := [(0, [(.aload_n 0, (0, 0, 0, 0)), (.iconst 0, (0, 0, 0, 0)), (.putfield 1, (12, 0, 0, 0)), (.aload_n 0, (0, 0, 0, 0)), (.iload_n 1, (0, 0, 0, 0)), (.invokevirtual 407, (61, 1, 12, 0)), (.astore_n 2, (0, 0, 0, 0)), (.aload_n 0, (0, 0, 0, 0)), (.aload_n 2, (0, 0, 0, 0)), (.iconst 0, (0, 0, 0, 0)), (.iconst 3, (0, 0, 0, 0)), (.invokevirtual 429, (23, 3, 12, 0)), (.istore_n 3, (0, 0, 0, 0)), (.iload_n 3, (0, 0, 0, 0))], (.ifCond .ge 5, (0, 0, 0, 0)), [2, 1]),
  (23, [(.iload_n 3, (0, 0, 0, 0))], (.ireturn, (0, 0, 0, 0)), []),
  (25, [(.aload_n 2, (0, 0, 0, 0)), (.getfield 305, (11, 2, 0, 0)), (.iconst 3, (0, 0, 0, 0))], (.if_icmp .ne 11, (0, 0, 0, 0)), [4, 3]),
  (33, [(.aload_n 0, (0, 0, 0, 0)), (.aload_n 2, (0, 0, 0, 0)), (.invokevirtual 182, (27, 1, 12, 0))], (.ifCond .lt 14, (0, 0, 0, 0)), [5, 4]),
  (41, [(.aload_n 0, (0, 0, 0, 0)), (.aload_n 2, (0, 0, 0, 0)), (.getfield 131, (11, 1, 0, 0)), (.invokevirtual 178, (20, 1, 12, 0))], (.ifCond .ne 6, (0, 0, 0, 0)), [6, 5]),
  (52, [(.bipush (-3), (0, 0, 0, 0))], (.ireturn, (0, 0, 0, 0)), []),
  (55, [(.aload_n 2, (0, 0, 0, 0)), (.getfield 305, (11, 2, 0, 0))], (.ifCond .ne 19, (0, 0, 0, 0)), [8, 7]),
  (62, [(.aload_n 2, (0, 0, 0, 0)), (.aload_n 2, (0, 0, 0, 0)), (.invokevirtual 208, (13, 0, 11, 0)), (.putfield 354, (11, 10, 0, 0)), (.aload_n 2, (0, 0, 0, 0)), (.iconst 0, (0, 0, 0, 0)), (.putfield 357, (11, 11, 0, 0))], (.goto 33, (0, 0, 0, 0)), [11]),
  (78, [(.aload_n 2, (0, 0, 0, 0)), (.getfield 354, (11, 10, 0, 0))], (.ifCond .ne 26, (0, 0, 0, 0)), [11, 9]),
  (85, [(.aload_n 2, (0, 0, 0, 0)), (.getfield 357, (11, 11, 0, 0))], (.ifCond .ne 19, (0, 0, 0, 0)), [11, 10]),
  (92, [(.aload_n 2, (0, 0, 0, 0)), (.aload_n 2, (0, 0, 0, 0)), (.getfield 335, (11, 8, 0, 0)), (.putfield 354, (11, 10, 0, 0)), (.aload_n 2, (0, 0, 0, 0)), (.aload_n 2, (0, 0, 0, 0)), (.getfield 271, (11, 9, 0, 0)), (.putfield 357, (11, 11, 0, 0))], (.nop, (0, 0, 0, 0)), [11]),
  (108, [(.aload_n 2, (0, 0, 0, 0)), (.iconst 1, (0, 0, 0, 0)), (.putfield 305, (11, 2, 0, 0)), (.aload_n 2, (0, 0, 0, 0)), (.iconst 0, (0, 0, 0, 0)), (.putfield 335, (11, 8, 0, 0)), (.aload_n 2, (0, 0, 0, 0)), (.iconst 0, (0, 0, 0, 0)), (.putfield 271, (11, 9, 0, 0)), (.aload_n 2, (0, 0, 0, 0)), (.iconst 0, (0, 0, 0, 0)), (.putfield 265, (11, 16, 0, 0)), (.aload_n 2, (0, 0, 0, 0)), (.iconst 0, (0, 0, 0, 0)), (.putfield 277, (11, 17, 0, 0)), (.aload_n 2, (0, 0, 0, 0)), (.iconst 0, (0, 0, 0, 0)), (.putfield 280, (11, 20, 0, 0)), (.aload_n 2, (0, 0, 0, 0)), (.iconst 0, (0, 0, 0, 0)), (.putfield 341, (11, 21, 2, 0)), (.aload_n 2, (0, 0, 0, 0)), (.invokevirtual 360, (16, 0, 11, 0)), (.aload_n 0, (0, 0, 0, 0)), (.aload_n 2, (0, 0, 0, 0)), (.aload_n 2, (0, 0, 0, 0)), (.getfield 201, (11, 3, 0, 0)), (.aload_n 2, (0, 0, 0, 0)), (.getfield 131, (11, 1, 0, 0))], (.ifCond .ne 7, (0, 0, 0, 0)), [13, 12]),
  (160, [(.iconst 3, (0, 0, 0, 0))], (.goto 4, (0, 0, 0, 0)), [14]),
  (164, [(.iconst 0, (0, 0, 0, 0))], (.nop, (0, 0, 0, 0)), [14]),
  (165, [(.invokestatic 439, (22, 2, 0, 0)), (.invokevirtual 397, (25, 2, 12, 0)), (.aload_n 2, (0, 0, 0, 0)), (.aload_n 0, (0, 0, 0, 0)), (.getfield 112, (12, 2, 0, 0)), (.invokevirtual 216, (17, 1, 11, 0)), (.aload_n 2, (0, 0, 0, 0)), (.getfield 201, (11, 3, 0, 0))], (.ireturn, (0, 0, 0, 0)), [])]
/-- 41: TwinVaultsModel.free(I)I -/
def bt_X12_free : List bi_K := [(0, [(.aload_n 0, (0, 0, 0, 0)), (.getfield 109, (12, 1, 0, 0)), (.istore_n 2, (0, 0, 0, 0)), (.iconst 0, (0, 0, 0, 0)), (.istore_n 3, (0, 0, 0, 0))], (.nop, (0, 0, 0, 0)), [1]),
  (7, [(.iload_n 3, (0, 0, 0, 0)), (.aload_n 0, (0, 0, 0, 0)), (.getfield 168, (12, 6, 0, 0))], (.if_icmp .ge 26, (0, 0, 0, 0)), [3, 2]),
  (15, [(.iload_n 2, (0, 0, 0, 0)), (.aload_n 0, (0, 0, 0, 0)), (.aload_n 0, (0, 0, 0, 0)), (.getfield 87, (12, 34, 1, 0)), (.iconst 4, (0, 0, 0, 0)), (.iload_n 1, (0, 0, 0, 0)), (.imul, (0, 0, 0, 0)), (.iload_n 3, (0, 0, 0, 0)), (.iadd, (0, 0, 0, 0)), (.aaload, (0, 0, 0, 0)), (.invokevirtual 171, (59, 1, 12, 0)), (.isub, (0, 0, 0, 0)), (.istore_n 2, (0, 0, 0, 0)), (.iinc 3 1, (0, 0, 0, 0))], (.goto (-28), (0, 0, 0, 0)), [1]),
  (38, [(.iload_n 2, (0, 0, 0, 0))], (.ireturn, (0, 0, 0, 0)), [])]
/-- 42: TwinVaultsModel.given(LTwinVaultsModel$Store;LTwinVaultsModel$Message;)V -/
def bt_X12_given : List bi_K := [(0, [(.aload_n 0, (0, 0, 0, 0)), (.aload_n 1, (0, 0, 0, 0)), (.getfield 131, (11, 1, 0, 0)), (.invokevirtual 178, (20, 1, 12, 0))], (.ifCond .ne 4, (0, 0, 0, 0)), [2, 1]),
  (11, [], (.return_, (0, 0, 0, 0)), []),
  (12, [(.aload_n 1, (0, 0, 0, 0)), (.iconst 1, (0, 0, 0, 0)), (.putfield 305, (11, 2, 0, 0)), (.aload_n 1, (0, 0, 0, 0)), (.aload_n 2, (0, 0, 0, 0)), (.getfield 240, (10, 4, 0, 0)), (.putfield 335, (11, 8, 0, 0)), (.aload_n 1, (0, 0, 0, 0)), (.aload_n 2, (0, 0, 0, 0)), (.getfield 240, (10, 4, 0, 0)), (.putfield 265, (11, 16, 0, 0)), (.aload_n 1, (0, 0, 0, 0)), (.iconst 0, (0, 0, 0, 0)), (.putfield 271, (11, 9, 0, 0)), (.aload_n 1, (0, 0, 0, 0)), (.iconst 0, (0, 0, 0, 0)), (.putfield 354, (11, 10, 0, 0)), (.aload_n 1, (0, 0, 0, 0)), (.iconst 0, (0, 0, 0, 0)), (.putfield 357, (11, 11, 0, 0)), (.aload_n 0, (0, 0, 0, 0)), (.aload_n 1, (0, 0, 0, 0)), (.aload_n 2, (0, 0, 0, 0)), (.getfield 243, (10, 5, 0, 0)), (.invokevirtual 397, (25, 2, 12, 0)), (.aload_n 1, (0, 0, 0, 0)), (.invokevirtual 360, (16, 0, 11, 0)), (.aload_n 1, (0, 0, 0, 0)), (.aload_n 0, (0, 0, 0, 0)), (.getfield 112, (12, 2, 0, 0)), (.invokevirtual 216, (17, 1, 11, 0)), (.aload_n 0, (0, 0, 0, 0)), (.aload_n 1, (0, 0, 0, 0)), (.bipush 9, (0, 0, 0, 0)), (.iconst 0, (0, 0, 0, 0)), (.iconst 0, (0, 0, 0, 0)), (.iconst 0, (0, 0, 0, 0)), (.iconst 0, (0, 0, 0, 0)), (.invokevirtual 287, (73, 6, 12, 0))], (.return_, (0, 0, 0, 0)), [])]
/-- 43: TwinVaultsModel.goesBack(LTwinVaultsModel$Store;I)V -/
def bt_X12_goesBack : List bi_K := [(0, [(.aload_n 0, (0, 0, 0, 0)), (.aload_n 1, (0, 0, 0, 0)), (.getfield 131, (11, 1, 0, 0)), (.invokevirtual 178, (20, 1, 12, 0))], (.ifCond .ne 4, (0, 0, 0, 0)), [2, 1]),
  (11, [], (.return_, (0, 0, 0, 0)), []),
  (12, [(.iload_n 2, (0, 0, 0, 0))], (.ifCond .ne 7, (0, 0, 0, 0)), [4, 3]),
  (16, [(.iconst 0, (0, 0, 0, 0))], (.goto 13, (0, 0, 0, 0)), [5]),
  (20, [(.aload_n 1, (0, 0, 0, 0)), (.getfield 162, (11, 15, 1, 0)), (.aload_n 1, (0, 0, 0, 0)), (.iload_n 2, (0, 0, 0, 0)), (.invokevirtual 344, (9, 1, 11, 0)), (.iaload, (0, 0, 0, 0))], (.nop, (0, 0, 0, 0)), [5]),
  (30, [(.istore_n 3, (0, 0, 0, 0)), (.aload_n 0, (0, 0, 0, 0)), (.aload_n 1, (0, 0, 0, 0)), (.getfield 134, (11, 0, 0, 0)), (.iload_n 3, (0, 0, 0, 0)), (.aload_n 1, (0, 0, 0, 0)), (.getfield 144, (11, 4, 0, 0)), (.invokevirtual 274, (77, 3, 12, 0)), (.aload_n 1, (0, 0, 0, 0)), (.aload_n 0, (0, 0, 0, 0)), (.getfield 128, (12, 28, 0, 0)), (.newarray .int, (0, 0, 0, 0)), (.putfield 400, (11, 29, 1, 0)), (.aload_n 1, (0, 0, 0, 0)), (.aload_n 0, (0, 0, 0, 0)), (.getfield 128, (12, 28, 0, 0)), (.newarray .int, (0, 0, 0, 0)), (.putfield 403, (11, 30, 1, 0)), (.iconst 0, (0, 0, 0, 0)), (.istore 4, (0, 0, 0, 0))], (.nop, (0, 0, 0, 0)), [6]),
  (67, [(.iload 4, (0, 0, 0, 0)), (.aload_n 0, (0, 0, 0, 0)), (.getfield 128, (12, 28, 0, 0))], (.if_icmp .ge 37, (0, 0, 0, 0)), [8, 7]),
  (76, [(.aload_n 1, (0, 0, 0, 0)), (.getfield 400, (11, 29, 1, 0)), (.iload 4, (0, 0, 0, 0)), (.aload_n 0, (0, 0, 0, 0)), (.getfield 68, (12, 29, 1, 0)), (.iload 4, (0, 0, 0, 0)), (.iaload, (0, 0, 0, 0)), (.iastore, (0, 0, 0, 0)), (.aload_n 1, (0, 0, 0, 0)), (.getfield 403, (11, 30, 1, 0)), (.iload 4, (0, 0, 0, 0)), (.aload_n 0, (0, 0, 0, 0)), (.getfield 71, (12, 30, 1, 0)), (.iload 4, (0, 0, 0, 0)), (.iaload, (0, 0, 0, 0)), (.iastore, (0, 0, 0, 0)), (.iinc 4 1, (0, 0, 0, 0))], (.goto (-40), (0, 0, 0, 0)), [6]),
  (110, [(.aload_n 1, (0, 0, 0, 0)), (.iload_n 3, (0, 0, 0, 0)), (.putfield 144, (11, 4, 0, 0)), (.aload_n 1, (0, 0, 0, 0)), (.iload_n 3, (0, 0, 0, 0)), (.putfield 185, (11, 5, 0, 0)), (.aload_n 1, (0, 0, 0, 0)), (.iload_n 3, (0, 0, 0, 0)), (.putfield 159, (11, 6, 0, 0)), (.aload_n 1, (0, 0, 0, 0)), (.iconst 0, (0, 0, 0, 0)), (.putfield 137, (11, 32, 2, 0)), (.aload_n 1, (0, 0, 0, 0)), (.iconst 0, (0, 0, 0, 0)), (.putfield 147, (11, 33, 2, 0))], (.nop, (0, 0, 0, 0)), [9]),
  (135, [(.aload_n 1, (0, 0, 0, 0)), (.getfield 156, (11, 7, 0, 0))], (.ifCond .le 31, (0, 0, 0, 0)), [12, 10]),
  (142, [(.aload_n 1, (0, 0, 0, 0)), (.getfield 256, (11, 14, 1, 0)), (.aload_n 1, (0, 0, 0, 0)), (.getfield 156, (11, 7, 0, 0)), (.iconst 1, (0, 0, 0, 0)), (.isub, (0, 0, 0, 0)), (.iaload, (0, 0, 0, 0)), (.iload_n 2, (0, 0, 0, 0))], (.if_icmp .le 16, (0, 0, 0, 0)), [12, 11]),
  (157, [(.aload_n 1, (0, 0, 0, 0)), (.dup, (0, 0, 0, 0)), (.getfield 156, (11, 7, 0, 0)), (.iconst 1, (0, 0, 0, 0)), (.isub, (0, 0, 0, 0)), (.putfield 156, (11, 7, 0, 0))], (.goto (-32), (0, 0, 0, 0)), [9]),
  (170, [(.aload_n 1, (0, 0, 0, 0)), (.iconst 0, (0, 0, 0, 0)), (.putfield 305, (11, 2, 0, 0)), (.aload_n 1, (0, 0, 0, 0)), (.iconst 0, (0, 0, 0, 0)), (.putfield 335, (11, 8, 0, 0)), (.aload_n 1, (0, 0, 0, 0)), (.iconst 0, (0, 0, 0, 0)), (.putfield 271, (11, 9, 0, 0)), (.aload_n 1, (0, 0, 0, 0)), (.iconst 0, (0, 0, 0, 0)), (.putfield 265, (11, 16, 0, 0)), (.aload_n 1, (0, 0, 0, 0)), (.iconst 0, (0, 0, 0, 0)), (.putfield 354, (11, 10, 0, 0)), (.aload_n 1, (0, 0, 0, 0)), (.iconst 0, (0, 0, 0, 0)), (.putfield 357, (11, 11, 0, 0)), (.aload_n 1, (0, 0, 0, 0)), (.iconst 0, (0, 0, 0, 0)), (.putfield 341, (11, 21, 2, 0)), (.aload_n 1, (0, 0, 0, 0)), (.aload_n 0, (0, 0, 0, 0)), (.getfield 112, (12, 2, 0, 0)), (.invokevirtual 216, (17, 1, 11, 0))], (.return_, (0, 0, 0, 0)), [])]
/-- 44: TwinVaultsModel.goesDown(I)V -/
def bt_X12_goesDown : List bi_K := [(0, [(.aload_n 0, (0, 0, 0, 0)), (.getfield 13, (12, 9, 1, 0)), (.iload_n 1, (0, 0, 0, 0)), (.iconst 0, (0, 0, 0, 0)), (.bastore, (0, 0, 0, 0)), (.aload_n 0, (0, 0, 0, 0)), (.getfield 21, (12, 11, 1, 0)), (.iload_n 1, (0, 0, 0, 0)), (.iconst (-1), (0, 0, 0, 0)), (.iastore, (0, 0, 0, 0))], (.return_, (0, 0, 0, 0)), [])]
/-- 45: TwinVaultsModel.greeted(LTwinVaultsModel$Store;LTwinVaultsModel$Message;)V -/
def bt_X12_greeted : List bi_K := [(0, [(.iconst 0, (0, 0, 0, 0)), (.istore_n 3, (0, 0, 0, 0)), (.iconst 0, (0, 0, 0, 0)), (.istore 4, (0, 0, 0, 0))], (.nop, (0, 0, 0, 0)), [1]),
  (5, [(.iload 4, (0, 0, 0, 0)), (.aload_n 2, (0, 0, 0, 0)), (.getfield 228, (10, 7, 0, 0))], (.if_icmp .ge 35, (0, 0, 0, 0)), [6, 2]),
  (14, [(.iload_n 3, (0, 0, 0, 0))], (.ifCond .ne 31, (0, 0, 0, 0)), [6, 3]),
  (18, [(.aload_n 1, (0, 0, 0, 0)), (.aload_n 2, (0, 0, 0, 0)), (.getfield 253, (10, 8, 1, 0)), (.iload 4, (0, 0, 0, 0)), (.iaload, (0, 0, 0, 0)), (.invokevirtual 344, (9, 1, 11, 0))], (.ifCond .lt 11, (0, 0, 0, 0)), [5, 4]),
  (32, [(.aload_n 2, (0, 0, 0, 0)), (.getfield 253, (10, 8, 1, 0)), (.iload 4, (0, 0, 0, 0)), (.iaload, (0, 0, 0, 0)), (.istore_n 3, (0, 0, 0, 0))], (.nop, (0, 0, 0, 0)), [5]),
  (40, [(.iinc 4 1, (0, 0, 0, 0))], (.goto (-38), (0, 0, 0, 0)), [1]),
  (46, [(.aload_n 0, (0, 0, 0, 0)), (.aload_n 1, (0, 0, 0, 0)), (.getfield 131, (11, 1, 0, 0)), (.invokevirtual 178, (20, 1, 12, 0))], (.ifCond .ne 4, (0, 0, 0, 0)), [8, 7]),
  (57, [], (.return_, (0, 0, 0, 0)), []),
  (58, [(.aload_n 1, (0, 0, 0, 0)), (.iload_n 3, (0, 0, 0, 0)), (.putfield 335, (11, 8, 0, 0)), (.aload_n 1, (0, 0, 0, 0)), (.iconst 0, (0, 0, 0, 0)), (.putfield 354, (11, 10, 0, 0)), (.aload_n 1, (0, 0, 0, 0)), (.iconst 0, (0, 0, 0, 0)), (.putfield 357, (11, 11, 0, 0)), (.aload_n 1, (0, 0, 0, 0)), (.getfield 271, (11, 9, 0, 0)), (.iload_n 3, (0, 0, 0, 0))], (.if_icmp .ne 8, (0, 0, 0, 0)), [10, 9]),
  (81, [(.aload_n 1, (0, 0, 0, 0)), (.iconst 0, (0, 0, 0, 0)), (.putfield 271, (11, 9, 0, 0))], (.nop, (0, 0, 0, 0)), [10]),
  (86, [(.aload_n 1, (0, 0, 0, 0)), (.iload_n 3, (0, 0, 0, 0)), (.putfield 265, (11, 16, 0, 0)), (.aload_n 1, (0, 0, 0, 0)), (.iconst 0, (0, 0, 0, 0)), (.putfield 277, (11, 17, 0, 0)), (.aload_n 1, (0, 0, 0, 0)), (.iconst 0, (0, 0, 0, 0)), (.putfield 280, (11, 20, 0, 0)), (.aload_n 1, (0, 0, 0, 0)), (.aload_n 0, (0, 0, 0, 0)), (.getfield 112, (12, 2, 0, 0)), (.invokevirtual 216, (17, 1, 11, 0)), (.aload_n 0, (0, 0, 0, 0)), (.aload_n 1, (0, 0, 0, 0)), (.bipush 11, (0, 0, 0, 0)), (.iconst 0, (0, 0, 0, 0)), (.iload_n 3, (0, 0, 0, 0)), (.iconst 0, (0, 0, 0, 0)), (.iconst 0, (0, 0, 0, 0)), (.invokevirtual 287, (73, 6, 12, 0))], (.return_, (0, 0, 0, 0)), [])]
/-- 46: TwinVaultsModel.group(II)I -/
def bt_X12_group : List bi_K := [(0, [(.aload_n 0, (0, 0, 0, 0)), (.iconst 0, (0, 0, 0, 0)), (.putfield 1, (12, 0, 0, 0)), (.iload_n 1, (0, 0, 0, 0)), (.iconst 1, (0, 0, 0, 0))], (.if_icmp .lt 21, (0, 0, 0, 0)), [4, 1]),
  (10, [(.iload_n 1, (0, 0, 0, 0)), (.bipush 8, (0, 0, 0, 0))], (.if_icmp .gt 15, (0, 0, 0, 0)), [4, 2]),
  (16, [(.iload_n 2, (0, 0, 0, 0)), (.iconst 1, (0, 0, 0, 0))], (.if_icmp .lt 10, (0, 0, 0, 0)), [4, 3]),
  (21, [(.iload_n 2, (0, 0, 0, 0)), (.sipush 4096, (0, 0, 0, 0))], (.if_icmp .le 6, (0, 0, 0, 0)), [5, 4]),
  (28, [(.bipush (-2), (0, 0, 0, 0))], (.ireturn, (0, 0, 0, 0)), []),
  (31, [(.aload_n 0, (0, 0, 0, 0)), (.getfield 168, (12, 6, 0, 0)), (.iconst 4, (0, 0, 0, 0))], (.if_icmp .ne 5, (0, 0, 0, 0)), [7, 6]),
  (39, [(.iconst (-1), (0, 0, 0, 0))], (.ireturn, (0, 0, 0, 0)), []),
  (41, [(.aload_n 0, (0, 0, 0, 0)), (.getfield 24, (12, 12, 1, 0)), (.aload_n 0, (0, 0, 0, 0)), (.getfield 168, (12, 6, 0, 0)), (.iload_n 1, (0, 0, 0, 0)), (.iastore, (0, 0, 0, 0)), (.aload_n 0, (0, 0, 0, 0)), (.getfield 27, (12, 13, 1, 0)), (.aload_n 0, (0, 0, 0, 0)), (.getfield 168, (12, 6, 0, 0)), (.iload_n 2, (0, 0, 0, 0)), (.iastore, (0, 0, 0, 0)), (.iconst 0, (0, 0, 0, 0)), (.istore_n 3, (0, 0, 0, 0))], (.nop, (0, 0, 0, 0)), [8]),
  (63, [(.iload_n 3, (0, 0, 0, 0)), (.iconst 2, (0, 0, 0, 0))], (.if_icmp .ge 72, (0, 0, 0, 0)), [13, 9]),
  (68, [(.new 85, (11, 35, 0, 0)), (.dup, (0, 0, 0, 0)), (.invokespecial 406, (11, 0, 11, 0)), (.astore 4, (0, 0, 0, 0)), (.aload 4, (0, 0, 0, 0)), (.aload_n 0, (0, 0, 0, 0)), (.getfield 168, (12, 6, 0, 0)), (.putfield 134, (11, 0, 0, 0)), (.aload 4, (0, 0, 0, 0)), (.iload_n 3, (0, 0, 0, 0)), (.putfield 131, (11, 1, 0, 0)), (.aload 4, (0, 0, 0, 0)), (.iload_n 3, (0, 0, 0, 0))], (.ifCond .ne 7, (0, 0, 0, 0)), [11, 10]),
  (98, [(.iconst 1, (0, 0, 0, 0))], (.goto 4, (0, 0, 0, 0)), [12]),
  (102, [(.iconst 0, (0, 0, 0, 0))], (.nop, (0, 0, 0, 0)), [12]),
  (103, [(.putfield 305, (11, 2, 0, 0)), (.aload 4, (0, 0, 0, 0)), (.iload_n 1, (0, 0, 0, 0)), (.iload_n 2, (0, 0, 0, 0)), (.imul, (0, 0, 0, 0)), (.newarray .int, (0, 0, 0, 0)), (.putfield 141, (11, 31, 1, 0)), (.aload_n 0, (0, 0, 0, 0)), (.getfield 87, (12, 34, 1, 0)), (.iconst 4, (0, 0, 0, 0)), (.iload_n 3, (0, 0, 0, 0)), (.imul, (0, 0, 0, 0)), (.aload_n 0, (0, 0, 0, 0)), (.getfield 168, (12, 6, 0, 0)), (.iadd, (0, 0, 0, 0)), (.aload 4, (0, 0, 0, 0)), (.aastore, (0, 0, 0, 0)), (.iinc 3 1, (0, 0, 0, 0))], (.goto (-71), (0, 0, 0, 0)), [8]),
  (137, [(.aload_n 0, (0, 0, 0, 0)), (.dup, (0, 0, 0, 0)), (.getfield 168, (12, 6, 0, 0)), (.iconst 1, (0, 0, 0, 0)), (.iadd, (0, 0, 0, 0)), (.putfield 168, (12, 6, 0, 0)), (.aload_n 0, (0, 0, 0, 0)), (.getfield 168, (12, 6, 0, 0)), (.iconst 1, (0, 0, 0, 0)), (.isub, (0, 0, 0, 0))], (.ireturn, (0, 0, 0, 0)), [])]
/-- 47: TwinVaultsModel.had(LTwinVaultsModel$Store;)V -/
def bt_X12_had : List bi_K := [(0, [(.aload_n 0, (0, 0, 0, 0)), (.aload_n 1, (0, 0, 0, 0)), (.getfield 131, (11, 1, 0, 0)), (.invokevirtual 178, (20, 1, 12, 0))], (.ifCond .ne 4, (0, 0, 0, 0)), [2, 1]),
  (11, [], (.return_, (0, 0, 0, 0)), []),
  (12, [(.aload_n 1, (0, 0, 0, 0)), (.aload_n 1, (0, 0, 0, 0)), (.getfield 271, (11, 9, 0, 0)), (.putfield 335, (11, 8, 0, 0)), (.aload_n 1, (0, 0, 0, 0)), (.aload_n 1, (0, 0, 0, 0)), (.getfield 271, (11, 9, 0, 0)), (.putfield 265, (11, 16, 0, 0)), (.aload_n 1, (0, 0, 0, 0)), (.iconst 0, (0, 0, 0, 0)), (.putfield 271, (11, 9, 0, 0)), (.aload_n 1, (0, 0, 0, 0)), (.iconst 0, (0, 0, 0, 0)), (.putfield 277, (11, 17, 0, 0)), (.aload_n 1, (0, 0, 0, 0)), (.iconst 0, (0, 0, 0, 0)), (.putfield 280, (11, 20, 0, 0)), (.aload_n 1, (0, 0, 0, 0)), (.aload_n 0, (0, 0, 0, 0)), (.getfield 112, (12, 2, 0, 0)), (.invokevirtual 216, (17, 1, 11, 0))], (.return_, (0, 0, 0, 0)), [])]
/-- 48: TwinVaultsModel.<init>(III)V -/
def bt_X12_init : List bi_K := [(0, [(.aload_n 0, (0, 0, 0, 0)), (.invokespecial 7, (9999, 0, 0, 0)), (.aload_n 0, (0, 0, 0, 0)), (.iconst 2, (0, 0, 0, 0)), (.newarray .boolean, (0, 0, 0, 0)), (.dup, (0, 0, 0, 0)), (.iconst 0, (0, 0, 0, 0)), (.iconst 1, (0, 0, 0, 0)), (.bastore, (0, 0, 0, 0)), (.dup, (0, 0, 0, 0)), (.iconst 1, (0, 0, 0, 0)), (.iconst 1, (0, 0, 0, 0)), (.bastore, (0, 0, 0, 0)), (.putfield 13, (12, 9, 1, 0)), (.aload_n 0, (0, 0, 0, 0)), (.iconst 2, (0, 0, 0, 0)), (.newarray .int, (0, 0, 0, 0)), (.putfield 17, (12, 10, 1, 0)), (.aload_n 0, (0, 0, 0, 0)), (.iconst 2, (0, 0, 0, 0)), (.newarray .int, (0, 0, 0, 0)), (.dup, (0, 0, 0, 0)), (.iconst 0, (0, 0, 0, 0)), (.iconst (-1), (0, 0, 0, 0)), (.iastore, (0, 0, 0, 0)), (.dup, (0, 0, 0, 0)), (.iconst 1, (0, 0, 0, 0)), (.iconst (-1), (0, 0, 0, 0)), (.iastore, (0, 0, 0, 0)), (.putfield 21, (12, 11, 1, 0)), (.aload_n 0, (0, 0, 0, 0)), (.iconst 4, (0, 0, 0, 0)), (.newarray .int, (0, 0, 0, 0)), (.putfield 24, (12, 12, 1, 0)), (.aload_n 0, (0, 0, 0, 0)), (.iconst 4, (0, 0, 0, 0)), (.newarray .int, (0, 0, 0, 0)), (.putfield 27, (12, 13, 1, 0)), (.aload_n 0, (0, 0, 0, 0)), (.ldc 30, (60001, 0, 0, 0)), (.newarray .int, (0, 0, 0, 0)), (.putfield 31, (12, 15, 1, 0)), (.aload_n 0, (0, 0, 0, 0)), (.ldc 30, (60001, 0, 0, 0)), (.newarray .int, (0, 0, 0, 0)), (.putfield 34, (12, 16, 1, 0)), (.aload_n 0, (0, 0, 0, 0)), (.ldc 30, (60001, 0, 0, 0)), (.newarray .int, (0, 0, 0, 0)), (.putfield 37, (12, 17, 1, 0)), (.aload_n 0, (0, 0, 0, 0)), (.ldc 30, (60001, 0, 0, 0)), (.newarray .int, (0, 0, 0, 0)), (.putfield 40, (12, 18, 1, 0)), (.aload_n 0, (0, 0, 0, 0)), (.ldc 43, (32768, 0, 0, 0)), (.newarray .int, (0, 0, 0, 0)), (.putfield 44, (12, 19, 1, 0)), (.aload_n 0, (0, 0, 0, 0)), (.ldc 43, (32768, 0, 0, 0)), (.newarray .int, (0, 0, 0, 0)), (.putfield 47, (12, 20, 1, 0)), (.aload_n 0, (0, 0, 0, 0)), (.sipush 2048, (0, 0, 0, 0)), (.newarray .int, (0, 0, 0, 0)), (.putfield 50, (12, 21, 1, 0)), (.aload_n 0, (0, 0, 0, 0)), (.sipush 128, (0, 0, 0, 0)), (.newarray .int, (0, 0, 0, 0)), (.putfield 53, (12, 22, 1, 0)), (.aload_n 0, (0, 0, 0, 0)), (.bipush 8, (0, 0, 0, 0)), (.newarray .int, (0, 0, 0, 0)), (.putfield 56, (12, 23, 1, 0)), (.aload_n 0, (0, 0, 0, 0)), (.iconst (-1), (0, 0, 0, 0)), (.putfield 59, (12, 25, 0, 0)), (.aload_n 0, (0, 0, 0, 0)), (.iconst (-1), (0, 0, 0, 0)), (.putfield 62, (12, 26, 0, 0)), (.aload_n 0, (0, 0, 0, 0)), (.iconst (-1), (0, 0, 0, 0)), (.putfield 65, (12, 27, 0, 0)), (.aload_n 0, (0, 0, 0, 0)), (.ldc 43, (32768, 0, 0, 0)), (.newarray .int, (0, 0, 0, 0)), (.putfield 68, (12, 29, 1, 0)), (.aload_n 0, (0, 0, 0, 0)), (.ldc 43, (32768, 0, 0, 0)), (.newarray .int, (0, 0, 0, 0)), (.putfield 71, (12, 30, 1, 0)), (.aload_n 0, (0, 0, 0, 0)), (.iconst 4, (0, 0, 0, 0)), (.sipush 9000, (0, 0, 0, 0)), (.multianewarray 74 2, (0, 0, 0, 0)), (.putfield 76, (12, 31, 1, 0)), (.aload_n 0, (0, 0, 0, 0)), (.iconst 4, (0, 0, 0, 0)), (.sipush 9000, (0, 0, 0, 0)), (.multianewarray 74 2, (0, 0, 0, 0)), (.putfield 79, (12, 32, 1, 0)), (.aload_n 0, (0, 0, 0, 0)), (.iconst 4, (0, 0, 0, 0)), (.newarray .int, (0, 0, 0, 0)), (.putfield 82, (12, 33, 1, 0)), (.aload_n 0, (0, 0, 0, 0)), (.bipush 8, (0, 0, 0, 0)), (.anewarray 85, (11, 0, 0, 0)), (.putfield 87, (12, 34, 1, 0)), (.aload_n 0, (0, 0, 0, 0)), (.bipush 60, (0, 0, 0, 0)), (.anewarray 91, (10, 0, 0, 0)), (.putfield 93, (12, 35, 1, 0)), (.aload_n 0, (0, 0, 0, 0)), (.bipush 61, (0, 0, 0, 0)), (.anewarray 91, (10, 0, 0, 0)), (.putfield 97, (12, 36, 1, 0)), (.aload_n 0, (0, 0, 0, 0)), (.bipush 16, (0, 0, 0, 0)), (.sipush 8192, (0, 0, 0, 0)), (.iload_n 1, (0, 0, 0, 0)), (.invokestatic 100, (2, 2, 0, 0)), (.invokestatic 106, (1, 2, 0, 0)), (.putfield 109, (12, 1, 0, 0)), (.aload_n 0, (0, 0, 0, 0)), (.iconst 2, (0, 0, 0, 0)), (.bipush 8, (0, 0, 0, 0)), (.iload_n 2, (0, 0, 0, 0)), (.invokestatic 100, (2, 2, 0, 0)), (.invokestatic 106, (1, 2, 0, 0)), (.putfield 112, (12, 2, 0, 0)), (.aload_n 0, (0, 0, 0, 0)), (.iconst 1, (0, 0, 0, 0)), (.bipush 8, (0, 0, 0, 0)), (.iload_n 3, (0, 0, 0, 0)), (.invokestatic 100, (2, 2, 0, 0)), (.invokestatic 106, (1, 2, 0, 0)), (.putfield 115, (12, 3, 0, 0)), (.aload_n 0, (0, 0, 0, 0)), (.iconst 0, (0, 0, 0, 0)), (.putfield 118, (12, 38, 0, 0))], (.nop, (0, 0, 0, 0)), [1]),
  (267, [(.aload_n 0, (0, 0, 0, 0)), (.getfield 118, (12, 38, 0, 0)), (.aload_n 0, (0, 0, 0, 0)), (.getfield 97, (12, 36, 1, 0)), (.arraylength, (0, 0, 0, 0))], (.if_icmp .ge 32, (0, 0, 0, 0)), [3, 2]),
  (279, [(.aload_n 0, (0, 0, 0, 0)), (.getfield 97, (12, 36, 1, 0)), (.aload_n 0, (0, 0, 0, 0)), (.getfield 118, (12, 38, 0, 0)), (.new 91, (10, 11, 0, 0)), (.dup, (0, 0, 0, 0)), (.invokespecial 121, (7, 0, 10, 0)), (.aastore, (0, 0, 0, 0)), (.aload_n 0, (0, 0, 0, 0)), (.dup, (0, 0, 0, 0)), (.getfield 118, (12, 38, 0, 0)), (.iconst 1, (0, 0, 0, 0)), (.iadd, (0, 0, 0, 0)), (.putfield 118, (12, 38, 0, 0))], (.goto (-38), (0, 0, 0, 0)), [1]),
  (308, [], (.return_, (0, 0, 0, 0)), [])]
/-- 49: TwinVaultsModel.isPlace(LTwinVaultsModel$Store;II)Z -/
def bt_X12_isPlace : List bi_K := [(0, [(.aload_n 1, (0, 0, 0, 0))], (.ifnull 41, (0, 0, 0, 0)), [6, 1]),
  (4, [(.iload_n 2, (0, 0, 0, 0))], (.ifCond .lt 37, (0, 0, 0, 0)), [6, 2]),
  (8, [(.iload_n 2, (0, 0, 0, 0)), (.aload_n 0, (0, 0, 0, 0)), (.getfield 24, (12, 12, 1, 0)), (.aload_n 1, (0, 0, 0, 0)), (.getfield 134, (11, 0, 0, 0)), (.iaload, (0, 0, 0, 0))], (.if_icmp .ge 24, (0, 0, 0, 0)), [6, 3]),
  (21, [(.iload_n 3, (0, 0, 0, 0))], (.ifCond .lt 20, (0, 0, 0, 0)), [6, 4]),
  (25, [(.iload_n 3, (0, 0, 0, 0)), (.aload_n 0, (0, 0, 0, 0)), (.getfield 27, (12, 13, 1, 0)), (.aload_n 1, (0, 0, 0, 0)), (.getfield 134, (11, 0, 0, 0)), (.iaload, (0, 0, 0, 0))], (.if_icmp .ge 7, (0, 0, 0, 0)), [6, 5]),
  (38, [(.iconst 1, (0, 0, 0, 0))], (.goto 4, (0, 0, 0, 0)), [7]),
  (42, [(.iconst 0, (0, 0, 0, 0))], (.nop, (0, 0, 0, 0)), [7]),
  (43, [], (.ireturn, (1, 0, 0, 0)), [])]
/-- 50: TwinVaultsModel.isSite(I)Z -/
def bt_X12_isSite : List bi_K := [(0, [(.iload_n 0, (0, 0, 0, 0))], (.ifCond .eq 8, (0, 0, 0, 0)), [2, 1]),
  (4, [(.iload_n 0, (0, 0, 0, 0)), (.iconst 1, (0, 0, 0, 0))], (.if_icmp .ne 7, (0, 0, 0, 0)), [3, 2]),
  (9, [(.iconst 1, (0, 0, 0, 0))], (.goto 4, (0, 0, 0, 0)), [4]),
  (13, [(.iconst 0, (0, 0, 0, 0))], (.nop, (0, 0, 0, 0)), [4]),
  (14, [], (.ireturn, (1, 0, 0, 0)), [])]
/-- 51: TwinVaultsModel.isTaken(III)V -/
def bt_X12_isTaken : List bi_K := [(0, [(.aload_n 0, (0, 0, 0, 0)), (.getfield 76, (12, 31, 1, 0)), (.iload_n 1, (0, 0, 0, 0)), (.aaload, (0, 0, 0, 0)), (.aload_n 0, (0, 0, 0, 0)), (.getfield 82, (12, 33, 1, 0)), (.iload_n 1, (0, 0, 0, 0)), (.iaload, (0, 0, 0, 0)), (.iload_n 2, (0, 0, 0, 0)), (.iastore, (0, 0, 0, 0)), (.aload_n 0, (0, 0, 0, 0)), (.getfield 79, (12, 32, 1, 0)), (.iload_n 1, (0, 0, 0, 0)), (.aaload, (0, 0, 0, 0)), (.aload_n 0, (0, 0, 0, 0)), (.getfield 82, (12, 33, 1, 0)), (.iload_n 1, (0, 0, 0, 0)), (.iaload, (0, 0, 0, 0)), (.iload_n 3, (0, 0, 0, 0)), (.iastore, (0, 0, 0, 0)), (.aload_n 0, (0, 0, 0, 0)), (.getfield 82, (12, 33, 1, 0)), (.iload_n 1, (0, 0, 0, 0)), (.dup2, (0, 0, 0, 0)), (.iaload, (0, 0, 0, 0)), (.iconst 1, (0, 0, 0, 0)), (.iadd, (0, 0, 0, 0)), (.iastore, (0, 0, 0, 0))], (.return_, (0, 0, 0, 0)), [])]
/-- 52: TwinVaultsModel.item(III)I -/
def bt_X12_item : List bi_K := [(0, [(.aload_n 0, (0, 0, 0, 0)), (.iconst 0, (0, 0, 0, 0)), (.putfield 1, (12, 0, 0, 0)), (.aload_n 0, (0, 0, 0, 0)), (.iload_n 1, (0, 0, 0, 0)), (.invokevirtual 458, (36, 1, 12, 0)), (.astore 4, (0, 0, 0, 0)), (.aload 4, (0, 0, 0, 0))], (.ifnull 25, (0, 0, 0, 0)), [5, 1]),
  (17, [(.iload_n 2, (0, 0, 0, 0))], (.ifCond .lt 21, (0, 0, 0, 0)), [5, 2]),
  (21, [(.iload_n 2, (0, 0, 0, 0)), (.aload 4, (0, 0, 0, 0)), (.getfield 228, (10, 7, 0, 0))], (.if_icmp .ge 12, (0, 0, 0, 0)), [5, 3]),
  (30, [(.iload_n 3, (0, 0, 0, 0))], (.ifCond .lt 8, (0, 0, 0, 0)), [5, 4]),
  (34, [(.iload_n 3, (0, 0, 0, 0)), (.iconst 2, (0, 0, 0, 0))], (.if_icmp .le 9, (0, 0, 0, 0)), [6, 5]),
  (39, [(.aload_n 0, (0, 0, 0, 0)), (.iconst 1, (0, 0, 0, 0)), (.invokevirtual 465, (34, 1, 12, 0))], (.ireturn, (0, 0, 0, 0)), []),
  (45, [(.iload_n 3, (0, 0, 0, 0))], (.ifCond .ne 13, (0, 0, 0, 0)), [8, 7]),
  (49, [(.aload 4, (0, 0, 0, 0)), (.getfield 253, (10, 8, 1, 0)), (.iload_n 2, (0, 0, 0, 0)), (.iaload, (0, 0, 0, 0))], (.goto 25, (0, 0, 0, 0)), [11]),
  (59, [(.iload_n 3, (0, 0, 0, 0)), (.iconst 1, (0, 0, 0, 0))], (.if_icmp .ne 13, (0, 0, 0, 0)), [10, 9]),
  (64, [(.aload 4, (0, 0, 0, 0)), (.getfield 259, (10, 9, 1, 0)), (.iload_n 2, (0, 0, 0, 0)), (.iaload, (0, 0, 0, 0))], (.goto 10, (0, 0, 0, 0)), [11]),
  (74, [(.aload 4, (0, 0, 0, 0)), (.getfield 262, (10, 10, 1, 0)), (.iload_n 2, (0, 0, 0, 0)), (.iaload, (0, 0, 0, 0))], (.nop, (0, 0, 0, 0)), [11]),
  (81, [], (.ireturn, (0, 0, 0, 0)), [])]
/-- 53: TwinVaultsModel.know(LTwinVaultsModel$Store;)V -/
def bt_X12_know : List bi_K := [(0, [(.aload_n 1, (0, 0, 0, 0)), (.getfield 137, (11, 32, 2, 0))], (.ifCond .eq 4, (0, 0, 0, 0)), [2, 1]),
  (7, [], (.return_, (0, 0, 0, 0)), []),
  (8, [(.iconst 0, (0, 0, 0, 0)), (.istore_n 2, (0, 0, 0, 0))], (.nop, (0, 0, 0, 0)), [3]),
  (10, [(.iload_n 2, (0, 0, 0, 0)), (.aload_n 1, (0, 0, 0, 0)), (.getfield 141, (11, 31, 1, 0)), (.arraylength, (0, 0, 0, 0))], (.if_icmp .ge 16, (0, 0, 0, 0)), [5, 4]),
  (19, [(.aload_n 1, (0, 0, 0, 0)), (.getfield 141, (11, 31, 1, 0)), (.iload_n 2, (0, 0, 0, 0)), (.iconst 0, (0, 0, 0, 0)), (.iastore, (0, 0, 0, 0)), (.iinc 2 1, (0, 0, 0, 0))], (.goto (-19), (0, 0, 0, 0)), [3]),
  (32, [(.aload_n 1, (0, 0, 0, 0)), (.getfield 144, (11, 4, 0, 0)), (.istore_n 2, (0, 0, 0, 0))], (.nop, (0, 0, 0, 0)), [6]),
  (37, [(.iload_n 2, (0, 0, 0, 0))], (.ifCond .eq 39, (0, 0, 0, 0)), [10, 7]),
  (41, [(.aload_n 1, (0, 0, 0, 0)), (.getfield 141, (11, 31, 1, 0)), (.aload_n 0, (0, 0, 0, 0)), (.getfield 34, (12, 16, 1, 0)), (.iload_n 2, (0, 0, 0, 0)), (.iaload, (0, 0, 0, 0)), (.iaload, (0, 0, 0, 0))], (.ifCond .ne 15, (0, 0, 0, 0)), [9, 8]),
  (55, [(.aload_n 1, (0, 0, 0, 0)), (.getfield 141, (11, 31, 1, 0)), (.aload_n 0, (0, 0, 0, 0)), (.getfield 34, (12, 16, 1, 0)), (.iload_n 2, (0, 0, 0, 0)), (.iaload, (0, 0, 0, 0)), (.iload_n 2, (0, 0, 0, 0)), (.iastore, (0, 0, 0, 0))], (.nop, (0, 0, 0, 0)), [9]),
  (67, [(.aload_n 0, (0, 0, 0, 0)), (.getfield 31, (12, 15, 1, 0)), (.iload_n 2, (0, 0, 0, 0)), (.iaload, (0, 0, 0, 0)), (.istore_n 2, (0, 0, 0, 0))], (.goto (-37), (0, 0, 0, 0)), [6]),
  (77, [(.aload_n 1, (0, 0, 0, 0)), (.iconst 1, (0, 0, 0, 0)), (.putfield 137, (11, 32, 2, 0))], (.return_, (0, 0, 0, 0)), [])]
/-- 54: TwinVaultsModel.lacked(LTwinVaultsModel$Store;I)V -/
def bt_X12_lacked : List bi_K := [(0, [(.aload_n 1, (0, 0, 0, 0)), (.iload_n 2, (0, 0, 0, 0))], (.ifCond .le 23, (0, 0, 0, 0)), [4, 1]),
  (5, [(.aload_n 1, (0, 0, 0, 0)), (.iload_n 2, (0, 0, 0, 0)), (.invokevirtual 344, (9, 1, 11, 0))], (.ifCond .lt 15, (0, 0, 0, 0)), [4, 2]),
  (13, [(.iload_n 2, (0, 0, 0, 0)), (.aload_n 1, (0, 0, 0, 0)), (.getfield 271, (11, 9, 0, 0))], (.if_icmp .ge 7, (0, 0, 0, 0)), [4, 3]),
  (21, [(.iload_n 2, (0, 0, 0, 0))], (.goto 4, (0, 0, 0, 0)), [5]),
  (25, [(.iconst 0, (0, 0, 0, 0))], (.nop, (0, 0, 0, 0)), [5]),
  (26, [(.putfield 265, (11, 16, 0, 0)), (.aload_n 0, (0, 0, 0, 0)), (.aload_n 1, (0, 0, 0, 0)), (.invokevirtual 394, (63, 1, 12, 0))], (.return_, (0, 0, 0, 0)), [])]
/-- 55: TwinVaultsModel.leave(I)I -/
def bt_X12_leave : List bi_K := [(0, [(.aload_n 0, (0, 0, 0, 0)), (.iconst 0, (0, 0, 0, 0)), (.putfield 1, (12, 0, 0, 0)), (.aload_n 0, (0, 0, 0, 0)), (.iload_n 1, (0, 0, 0, 0)), (.invokevirtual 407, (61, 1, 12, 0)), (.astore_n 2, (0, 0, 0, 0)), (.aload_n 0, (0, 0, 0, 0)), (.aload_n 2, (0, 0, 0, 0)), (.iconst 1, (0, 0, 0, 0)), (.iconst 1, (0, 0, 0, 0)), (.invokevirtual 429, (23, 3, 12, 0)), (.istore_n 3, (0, 0, 0, 0)), (.iload_n 3, (0, 0, 0, 0))], (.ifCond .ge 5, (0, 0, 0, 0)), [2, 1]),
  (23, [(.iload_n 3, (0, 0, 0, 0))], (.ireturn, (0, 0, 0, 0)), []),
  (25, [(.aload_n 2, (0, 0, 0, 0)), (.getfield 144, (11, 4, 0, 0)), (.aload_n 2, (0, 0, 0, 0)), (.invokevirtual 433, (14, 0, 11, 0))], (.if_icmp .eq 27, (0, 0, 0, 0)), [7, 3]),
  (36, [(.aload_n 2, (0, 0, 0, 0)), (.getfield 198, (11, 13, 0, 0)), (.sipush 4095, (0, 0, 0, 0))], (.if_icmp .ne 6, (0, 0, 0, 0)), [5, 4]),
  (46, [(.bipush (-5), (0, 0, 0, 0))], (.ireturn, (0, 0, 0, 0)), []),
  (49, [(.aload_n 0, (0, 0, 0, 0)), (.aload_n 2, (0, 0, 0, 0)), (.invokevirtual 436, (84, 1, 12, 0))], (.ifCond .ne 6, (0, 0, 0, 0)), [7, 6]),
  (57, [(.bipush (-3), (0, 0, 0, 0))], (.ireturn, (0, 0, 0, 0)), []),
  (60, [(.aload_n 0, (0, 0, 0, 0)), (.aload_n 2, (0, 0, 0, 0)), (.getfield 131, (11, 1, 0, 0)), (.invokevirtual 178, (20, 1, 12, 0))], (.ifCond .ne 6, (0, 0, 0, 0)), [9, 8]),
  (71, [(.bipush (-3), (0, 0, 0, 0))], (.ireturn, (0, 0, 0, 0)), []),
  (74, [(.aload_n 2, (0, 0, 0, 0)), (.iconst 2, (0, 0, 0, 0)), (.putfield 305, (11, 2, 0, 0)), (.aload_n 2, (0, 0, 0, 0)), (.iconst 0, (0, 0, 0, 0)), (.putfield 351, (11, 12, 0, 0)), (.aload_n 2, (0, 0, 0, 0)), (.invokevirtual 208, (13, 0, 11, 0))], (.ireturn, (0, 0, 0, 0)), [])]
/-- 56: TwinVaultsModel.lineOf(II)I -/
def bt_X12_lineOf : List bi_K := [(0, [(.aload_n 0, (0, 0, 0, 0)), (.getfield 82, (12, 33, 1, 0)), (.iload_n 1, (0, 0, 0, 0)), (.iaload, (0, 0, 0, 0)), (.iconst 1, (0, 0, 0, 0)), (.isub, (0, 0, 0, 0)), (.istore_n 3, (0, 0, 0, 0))], (.nop, (0, 0, 0, 0)), [1]),
  (9, [(.iload_n 3, (0, 0, 0, 0))], (.ifCond .lt 21, (0, 0, 0, 0)), [4, 2]),
  (13, [(.aload_n 0, (0, 0, 0, 0)), (.getfield 76, (12, 31, 1, 0)), (.iload_n 1, (0, 0, 0, 0)), (.aaload, (0, 0, 0, 0)), (.iload_n 3, (0, 0, 0, 0)), (.iaload, (0, 0, 0, 0)), (.iload_n 2, (0, 0, 0, 0))], (.if_icmp .eq 9, (0, 0, 0, 0)), [4, 3]),
  (25, [(.iinc 3 (-1), (0, 0, 0, 0))], (.goto (-19), (0, 0, 0, 0)), [1]),
  (31, [(.iload_n 3, (0, 0, 0, 0))], (.ifCond .ge 7, (0, 0, 0, 0)), [6, 5]),
  (35, [(.iconst 0, (0, 0, 0, 0))], (.goto 11, (0, 0, 0, 0)), [7]),
  (39, [(.aload_n 0, (0, 0, 0, 0)), (.getfield 79, (12, 32, 1, 0)), (.iload_n 1, (0, 0, 0, 0)), (.aaload, (0, 0, 0, 0)), (.iload_n 3, (0, 0, 0, 0)), (.iaload, (0, 0, 0, 0))], (.nop, (0, 0, 0, 0)), [7]),
  (47, [], (.ireturn, (0, 0, 0, 0)), [])]
/-- 57: TwinVaultsModel.lost(III)I -/
def bt_X12_lost : List bi_K := [(0, [(.aload_n 0, (0, 0, 0, 0)), (.iconst 0, (0, 0, 0, 0)), (.putfield 1, (12, 0, 0, 0)), (.aload_n 0, (0, 0, 0, 0)), (.iload_n 1, (0, 0, 0, 0)), (.invokevirtual 407, (61, 1, 12, 0)), (.astore 4, (0, 0, 0, 0)), (.aload 4, (0, 0, 0, 0))], (.ifnull 26, (0, 0, 0, 0)), [5, 1]),
  (17, [(.iload_n 2, (0, 0, 0, 0))], (.ifCond .lt 22, (0, 0, 0, 0)), [5, 2]),
  (21, [(.iload_n 2, (0, 0, 0, 0)), (.aload 4, (0, 0, 0, 0)), (.getfield 400, (11, 29, 1, 0)), (.arraylength, (0, 0, 0, 0))], (.if_icmp .ge 12, (0, 0, 0, 0)), [5, 3]),
  (31, [(.iload_n 3, (0, 0, 0, 0))], (.ifCond .lt 8, (0, 0, 0, 0)), [5, 4]),
  (35, [(.iload_n 3, (0, 0, 0, 0)), (.iconst 2, (0, 0, 0, 0))], (.if_icmp .le 9, (0, 0, 0, 0)), [6, 5]),
  (40, [(.aload_n 0, (0, 0, 0, 0)), (.iconst 1, (0, 0, 0, 0)), (.invokevirtual 465, (34, 1, 12, 0))], (.ireturn, (0, 0, 0, 0)), []),
  (46, [(.iload_n 3, (0, 0, 0, 0))], (.ifCond .ne 24, (0, 0, 0, 0)), [8, 7]),
  (50, [(.aload 4, (0, 0, 0, 0)), (.getfield 400, (11, 29, 1, 0)), (.iload_n 2, (0, 0, 0, 0)), (.iaload, (0, 0, 0, 0)), (.aload_n 0, (0, 0, 0, 0)), (.getfield 27, (12, 13, 1, 0)), (.aload 4, (0, 0, 0, 0)), (.getfield 134, (11, 0, 0, 0)), (.iaload, (0, 0, 0, 0)), (.idiv, (0, 0, 0, 0))], (.goto 36, (0, 0, 0, 0)), [11]),
  (71, [(.iload_n 3, (0, 0, 0, 0)), (.iconst 1, (0, 0, 0, 0))], (.if_icmp .ne 24, (0, 0, 0, 0)), [10, 9]),
  (76, [(.aload 4, (0, 0, 0, 0)), (.getfield 400, (11, 29, 1, 0)), (.iload_n 2, (0, 0, 0, 0)), (.iaload, (0, 0, 0, 0)), (.aload_n 0, (0, 0, 0, 0)), (.getfield 27, (12, 13, 1, 0)), (.aload 4, (0, 0, 0, 0)), (.getfield 134, (11, 0, 0, 0)), (.iaload, (0, 0, 0, 0)), (.irem, (0, 0, 0, 0))], (.goto 10, (0, 0, 0, 0)), [11]),
  (97, [(.aload 4, (0, 0, 0, 0)), (.getfield 403, (11, 30, 1, 0)), (.iload_n 2, (0, 0, 0, 0)), (.iaload, (0, 0, 0, 0))], (.nop, (0, 0, 0, 0)), [11]),
  (104, [], (.ireturn, (0, 0, 0, 0)), [])]
/-- 58: TwinVaultsModel.message(II)I -/
def bt_X12_message : List bi_K := [(0, [(.aload_n 0, (0, 0, 0, 0)), (.iconst 0, (0, 0, 0, 0)), (.putfield 1, (12, 0, 0, 0)), (.aload_n 0, (0, 0, 0, 0)), (.iload_n 1, (0, 0, 0, 0)), (.invokevirtual 458, (36, 1, 12, 0)), (.astore_n 3, (0, 0, 0, 0)), (.aload_n 3, (0, 0, 0, 0))], (.ifnonnull 5, (0, 0, 0, 0)), [2, 1]),
  (15, [(.iconst (-1), (0, 0, 0, 0))], (.ireturn, (0, 0, 0, 0)), []),
  (17, [(.iload_n 2, (0, 0, 0, 0))], (.tableswitch 99 0 7 #[46, 51, 69, 74, 79, 84, 89, 94], (0, 0, 0, 0)), [11, 3, 4, 5, 6, 7, 8, 9, 10]),
  (64, [(.aload_n 3, (0, 0, 0, 0)), (.getfield 234, (10, 2, 0, 0))], (.ireturn, (0, 0, 0, 0)), []),
  (69, [(.iconst 4, (0, 0, 0, 0)), (.aload_n 3, (0, 0, 0, 0)), (.getfield 229, (10, 0, 1, 0)), (.getfield 131, (11, 1, 0, 0)), (.imul, (0, 0, 0, 0)), (.aload_n 3, (0, 0, 0, 0)), (.getfield 229, (10, 0, 1, 0)), (.getfield 134, (11, 0, 0, 0)), (.iadd, (0, 0, 0, 0))], (.ireturn, (0, 0, 0, 0)), []),
  (87, [(.aload_n 3, (0, 0, 0, 0)), (.getfield 233, (10, 1, 0, 0))], (.ireturn, (0, 0, 0, 0)), []),
  (92, [(.aload_n 3, (0, 0, 0, 0)), (.getfield 237, (10, 3, 0, 0))], (.ireturn, (0, 0, 0, 0)), []),
  (97, [(.aload_n 3, (0, 0, 0, 0)), (.getfield 240, (10, 4, 0, 0))], (.ireturn, (0, 0, 0, 0)), []),
  (102, [(.aload_n 3, (0, 0, 0, 0)), (.getfield 243, (10, 5, 0, 0))], (.ireturn, (0, 0, 0, 0)), []),
  (107, [(.aload_n 3, (0, 0, 0, 0)), (.getfield 246, (10, 6, 0, 0))], (.ireturn, (0, 0, 0, 0)), []),
  (112, [(.aload_n 3, (0, 0, 0, 0)), (.getfield 228, (10, 7, 0, 0))], (.ireturn, (0, 0, 0, 0)), []),
  (117, [(.iconst (-1), (0, 0, 0, 0))], (.ireturn, (0, 0, 0, 0)), [])]
/-- 59: TwinVaultsModel.needs(LTwinVaultsModel$Store;)I -/
def bt_X12_needs : List bi_K := [(0, [(.aload_n 1, (0, 0, 0, 0)), (.getfield 147, (11, 33, 2, 0))], (.ifCond .eq 13, (0, 0, 0, 0)), [2, 1]),
  (7, [(.aload_n 1, (0, 0, 0, 0)), (.getfield 150, (11, 34, 0, 0)), (.aload_n 1, (0, 0, 0, 0)), (.getfield 153, (11, 27, 0, 0)), (.iadd, (0, 0, 0, 0))], (.ireturn, (0, 0, 0, 0)), []),
  (17, [(.aload_n 0, (0, 0, 0, 0)), (.dup, (0, 0, 0, 0)), (.getfield 122, (12, 24, 0, 0)), (.iconst 1, (0, 0, 0, 0)), (.iadd, (0, 0, 0, 0)), (.putfield 122, (12, 24, 0, 0)), (.iconst 0, (0, 0, 0, 0)), (.istore_n 2, (0, 0, 0, 0)), (.aload_n 0, (0, 0, 0, 0)), (.getfield 40, (12, 18, 1, 0)), (.aload_n 1, (0, 0, 0, 0)), (.getfield 144, (11, 4, 0, 0)), (.iaload, (0, 0, 0, 0)), (.istore_n 3, (0, 0, 0, 0)), (.aload_n 1, (0, 0, 0, 0)), (.getfield 156, (11, 7, 0, 0)), (.iconst 1, (0, 0, 0, 0)), (.isub, (0, 0, 0, 0)), (.istore 4, (0, 0, 0, 0)), (.iconst 1, (0, 0, 0, 0)), (.istore 5, (0, 0, 0, 0)), (.aload_n 1, (0, 0, 0, 0)), (.getfield 144, (11, 4, 0, 0)), (.istore 6, (0, 0, 0, 0))], (.nop, (0, 0, 0, 0)), [3]),
  (56, [(.iload 6, (0, 0, 0, 0))], (.ifCond .eq 174, (0, 0, 0, 0)), [16, 4]),
  (61, [(.aload_n 0, (0, 0, 0, 0)), (.getfield 40, (12, 18, 1, 0)), (.iload 6, (0, 0, 0, 0)), (.iaload, (0, 0, 0, 0)), (.istore 7, (0, 0, 0, 0)), (.iload 5, (0, 0, 0, 0))], (.ifCond .eq 30, (0, 0, 0, 0)), [7, 5]),
  (75, [(.aload_n 0, (0, 0, 0, 0)), (.getfield 40, (12, 18, 1, 0)), (.aload_n 1, (0, 0, 0, 0)), (.getfield 159, (11, 6, 0, 0)), (.iaload, (0, 0, 0, 0)), (.iload 7, (0, 0, 0, 0))], (.if_icmp .lt 16, (0, 0, 0, 0)), [7, 6]),
  (89, [(.aload_n 0, (0, 0, 0, 0)), (.getfield 40, (12, 18, 1, 0)), (.aload_n 1, (0, 0, 0, 0)), (.getfield 159, (11, 6, 0, 0)), (.iaload, (0, 0, 0, 0)), (.istore_n 3, (0, 0, 0, 0)), (.iconst 0, (0, 0, 0, 0)), (.istore 5, (0, 0, 0, 0))], (.nop, (0, 0, 0, 0)), [7]),
  (102, [(.iload 4, (0, 0, 0, 0))], (.ifCond .lt 39, (0, 0, 0, 0)), [10, 8]),
  (107, [(.aload_n 0, (0, 0, 0, 0)), (.getfield 40, (12, 18, 1, 0)), (.aload_n 1, (0, 0, 0, 0)), (.getfield 162, (11, 15, 1, 0)), (.iload 4, (0, 0, 0, 0)), (.iaload, (0, 0, 0, 0)), (.iaload, (0, 0, 0, 0)), (.iload 7, (0, 0, 0, 0))], (.if_icmp .lt 22, (0, 0, 0, 0)), [10, 9]),
  (124, [(.aload_n 0, (0, 0, 0, 0)), (.getfield 40, (12, 18, 1, 0)), (.aload_n 1, (0, 0, 0, 0)), (.getfield 162, (11, 15, 1, 0)), (.iload 4, (0, 0, 0, 0)), (.iaload, (0, 0, 0, 0)), (.iaload, (0, 0, 0, 0)), (.istore_n 3, (0, 0, 0, 0)), (.iinc 4 (-1), (0, 0, 0, 0))], (.goto (-38), (0, 0, 0, 0)), [7]),
  (143, [(.aload_n 0, (0, 0, 0, 0)), (.getfield 44, (12, 19, 1, 0)), (.aload_n 0, (0, 0, 0, 0)), (.getfield 34, (12, 16, 1, 0)), (.iload 6, (0, 0, 0, 0)), (.iaload, (0, 0, 0, 0)), (.iaload, (0, 0, 0, 0)), (.aload_n 0, (0, 0, 0, 0)), (.getfield 122, (12, 24, 0, 0))], (.if_icmp .ne 18, (0, 0, 0, 0)), [12, 11]),
  (162, [(.aload_n 0, (0, 0, 0, 0)), (.getfield 47, (12, 20, 1, 0)), (.aload_n 0, (0, 0, 0, 0)), (.getfield 34, (12, 16, 1, 0)), (.iload 6, (0, 0, 0, 0)), (.iaload, (0, 0, 0, 0)), (.iaload, (0, 0, 0, 0))], (.goto 5, (0, 0, 0, 0)), [13]),
  (177, [(.ldc 167, (2147483647, 0, 0, 0))], (.nop, (0, 0, 0, 0)), [13]),
  (179, [(.istore 8, (0, 0, 0, 0)), (.iload_n 3, (0, 0, 0, 0)), (.iload 8, (0, 0, 0, 0))], (.if_icmp .ge 6, (0, 0, 0, 0)), [15, 14]),
  (187, [(.iinc 2 1, (0, 0, 0, 0))], (.nop, (0, 0, 0, 0)), [15]),
  (190, [(.aload_n 0, (0, 0, 0, 0)), (.getfield 44, (12, 19, 1, 0)), (.aload_n 0, (0, 0, 0, 0)), (.getfield 34, (12, 16, 1, 0)), (.iload 6, (0, 0, 0, 0)), (.iaload, (0, 0, 0, 0)), (.aload_n 0, (0, 0, 0, 0)), (.getfield 122, (12, 24, 0, 0)), (.iastore, (0, 0, 0, 0)), (.aload_n 0, (0, 0, 0, 0)), (.getfield 47, (12, 20, 1, 0)), (.aload_n 0, (0, 0, 0, 0)), (.getfield 34, (12, 16, 1, 0)), (.iload 6, (0, 0, 0, 0)), (.iaload, (0, 0, 0, 0)), (.iload 7, (0, 0, 0, 0)), (.iastore, (0, 0, 0, 0)), (.aload_n 0, (0, 0, 0, 0)), (.getfield 31, (12, 15, 1, 0)), (.iload 6, (0, 0, 0, 0)), (.iaload, (0, 0, 0, 0)), (.istore 6, (0, 0, 0, 0))], (.goto (-173), (0, 0, 0, 0)), [3]),
  (232, [(.aload_n 1, (0, 0, 0, 0)), (.iload_n 2, (0, 0, 0, 0)), (.putfield 150, (11, 34, 0, 0)), (.aload_n 1, (0, 0, 0, 0)), (.iconst 1, (0, 0, 0, 0)), (.putfield 147, (11, 33, 2, 0)), (.iload_n 2, (0, 0, 0, 0)), (.aload_n 1, (0, 0, 0, 0)), (.getfield 153, (11, 27, 0, 0)), (.iadd, (0, 0, 0, 0))], (.ireturn, (0, 0, 0, 0)), [])]
/-- 60: TwinVaultsModel.nodes(III)I -/
def bt_X12_nodes : List bi_K := [(0, [(.aload_n 0, (0, 0, 0, 0)), (.dup, (0, 0, 0, 0)), (.getfield 122, (12, 24, 0, 0)), (.iconst 1, (0, 0, 0, 0)), (.iadd, (0, 0, 0, 0)), (.putfield 122, (12, 24, 0, 0)), (.iconst 0, (0, 0, 0, 0)), (.istore 4, (0, 0, 0, 0)), (.iload_n 3, (0, 0, 0, 0)), (.istore 5, (0, 0, 0, 0))], (.nop, (0, 0, 0, 0)), [1]),
  (16, [(.iload 5, (0, 0, 0, 0)), (.iload_n 2, (0, 0, 0, 0))], (.if_icmp .eq 52, (0, 0, 0, 0)), [3, 2]),
  (22, [(.iload 4, (0, 0, 0, 0)), (.aload_n 0, (0, 0, 0, 0)), (.aload_n 0, (0, 0, 0, 0)), (.getfield 34, (12, 16, 1, 0)), (.iload 5, (0, 0, 0, 0)), (.iaload, (0, 0, 0, 0)), (.aload_n 0, (0, 0, 0, 0)), (.getfield 27, (12, 13, 1, 0)), (.iload_n 1, (0, 0, 0, 0)), (.iaload, (0, 0, 0, 0)), (.idiv, (0, 0, 0, 0)), (.aload_n 0, (0, 0, 0, 0)), (.getfield 34, (12, 16, 1, 0)), (.iload 5, (0, 0, 0, 0)), (.iaload, (0, 0, 0, 0)), (.aload_n 0, (0, 0, 0, 0)), (.getfield 27, (12, 13, 1, 0)), (.iload_n 1, (0, 0, 0, 0)), (.iaload, (0, 0, 0, 0)), (.irem, (0, 0, 0, 0)), (.invokevirtual 125, (67, 2, 12, 0)), (.iadd, (0, 0, 0, 0)), (.istore 4, (0, 0, 0, 0)), (.aload_n 0, (0, 0, 0, 0)), (.getfield 31, (12, 15, 1, 0)), (.iload 5, (0, 0, 0, 0)), (.iaload, (0, 0, 0, 0)), (.istore 5, (0, 0, 0, 0))], (.goto (-52), (0, 0, 0, 0)), [1]),
  (71, [(.iload 4, (0, 0, 0, 0))], (.ireturn, (0, 0, 0, 0)), [])]
/-- 61: TwinVaultsModel.of(I)LTwinVaultsModel$Store; -/
def bt_X12_of : List bi_K := [(0, [(.iload_n 1, (0, 0, 0, 0))], (.ifCond .lt 18, (0, 0, 0, 0)), [3, 1]),
  (4, [(.iload_n 1, (0, 0, 0, 0)), (.bipush 8, (0, 0, 0, 0))], (.if_icmp .ge 12, (0, 0, 0, 0)), [3, 2]),
  (10, [(.aload_n 0, (0, 0, 0, 0)), (.getfield 87, (12, 34, 1, 0)), (.iload_n 1, (0, 0, 0, 0)), (.aaload, (0, 0, 0, 0))], (.goto 4, (0, 0, 0, 0)), [4]),
  (19, [(.aconst_null, (0, 0, 0, 0))], (.nop, (0, 0, 0, 0)), [4]),
  (20, [], (.areturn, (0, 0, 0, 0)), [])]
/-- 62: TwinVaultsModel.offered(LTwinVaultsModel$Store;LTwinVaultsModel$Message;)V -/
def bt_X12_offered : List bi_K := [(0, [(.aload_n 2, (0, 0, 0, 0)), (.getfield 240, (10, 4, 0, 0)), (.aload_n 1, (0, 0, 0, 0)), (.invokevirtual 208, (13, 0, 11, 0))], (.if_icmp .ne 19, (0, 0, 0, 0)), [2, 1]),
  (11, [(.aload_n 0, (0, 0, 0, 0)), (.aload_n 1, (0, 0, 0, 0)), (.iconst 5, (0, 0, 0, 0)), (.iconst 0, (0, 0, 0, 0)), (.aload_n 2, (0, 0, 0, 0)), (.getfield 240, (10, 4, 0, 0)), (.iconst 0, (0, 0, 0, 0)), (.iconst 0, (0, 0, 0, 0)), (.invokevirtual 287, (73, 6, 12, 0))], (.goto 106, (0, 0, 0, 0)), [11]),
  (27, [(.aload_n 2, (0, 0, 0, 0)), (.getfield 240, (10, 4, 0, 0)), (.aload_n 1, (0, 0, 0, 0)), (.invokevirtual 208, (13, 0, 11, 0))], (.if_icmp .le 95, (0, 0, 0, 0)), [11, 3]),
  (38, [(.aload_n 2, (0, 0, 0, 0)), (.getfield 237, (10, 3, 0, 0))], (.ifCond .eq 29, (0, 0, 0, 0)), [6, 4]),
  (45, [(.aload_n 2, (0, 0, 0, 0)), (.getfield 237, (10, 3, 0, 0)), (.aload_n 1, (0, 0, 0, 0)), (.invokevirtual 208, (13, 0, 11, 0))], (.if_icmp .eq 18, (0, 0, 0, 0)), [6, 5]),
  (56, [(.aload_n 0, (0, 0, 0, 0)), (.aload_n 1, (0, 0, 0, 0)), (.bipush 6, (0, 0, 0, 0)), (.iconst 0, (0, 0, 0, 0)), (.aload_n 1, (0, 0, 0, 0)), (.invokevirtual 208, (13, 0, 11, 0)), (.iconst 0, (0, 0, 0, 0)), (.iconst 0, (0, 0, 0, 0)), (.invokevirtual 287, (73, 6, 12, 0))], (.return_, (0, 0, 0, 0)), []),
  (71, [(.aload_n 1, (0, 0, 0, 0)), (.aload_n 2, (0, 0, 0, 0)), (.invokestatic 312, (80, 2, 0, 0))], (.ifCond .ne 48, (0, 0, 0, 0)), [10, 7]),
  (79, [(.aload_n 0, (0, 0, 0, 0)), (.aload_n 1, (0, 0, 0, 0)), (.getfield 131, (11, 1, 0, 0)), (.invokevirtual 178, (20, 1, 12, 0))], (.ifCond .ne 4, (0, 0, 0, 0)), [9, 8]),
  (90, [], (.return_, (0, 0, 0, 0)), []),
  (91, [(.aload_n 1, (0, 0, 0, 0)), (.invokevirtual 360, (16, 0, 11, 0)), (.aload_n 1, (0, 0, 0, 0)), (.iconst 1, (0, 0, 0, 0)), (.putfield 363, (11, 22, 2, 0)), (.aload_n 1, (0, 0, 0, 0)), (.aload_n 2, (0, 0, 0, 0)), (.getfield 237, (10, 3, 0, 0)), (.putfield 366, (11, 23, 0, 0)), (.aload_n 1, (0, 0, 0, 0)), (.aload_n 2, (0, 0, 0, 0)), (.getfield 240, (10, 4, 0, 0)), (.putfield 369, (11, 24, 0, 0)), (.aload_n 1, (0, 0, 0, 0)), (.aload_n 2, (0, 0, 0, 0)), (.getfield 243, (10, 5, 0, 0)), (.putfield 372, (11, 25, 0, 0))], (.nop, (0, 0, 0, 0)), [10]),
  (124, [(.aload_n 0, (0, 0, 0, 0)), (.aload_n 1, (0, 0, 0, 0)), (.iconst 2, (0, 0, 0, 0)), (.invokevirtual 375, (79, 2, 12, 0))], (.nop, (0, 0, 0, 0)), [11]),
  (130, [], (.return_, (0, 0, 0, 0)), [])]
/-- 63: TwinVaultsModel.offers(LTwinVaultsModel$Store;)V -/
def bt_X12_offers : List bi_K := [(0, [(.aload_n 1, (0, 0, 0, 0)), (.iconst 1, (0, 0, 0, 0)), (.putfield 277, (11, 17, 0, 0)), (.aload_n 1, (0, 0, 0, 0)), (.iconst 0, (0, 0, 0, 0)), (.putfield 280, (11, 20, 0, 0)), (.aload_n 0, (0, 0, 0, 0)), (.aload_n 1, (0, 0, 0, 0)), (.invokevirtual 283, (78, 1, 12, 0)), (.aload_n 0, (0, 0, 0, 0)), (.aload_n 1, (0, 0, 0, 0)), (.iconst 1, (0, 0, 0, 0)), (.aload_n 1, (0, 0, 0, 0)), (.getfield 265, (11, 16, 0, 0)), (.aload_n 1, (0, 0, 0, 0)), (.getfield 271, (11, 9, 0, 0)), (.aload_n 0, (0, 0, 0, 0)), (.getfield 128, (12, 28, 0, 0)), (.aload_n 0, (0, 0, 0, 0)), (.getfield 40, (12, 18, 1, 0)), (.aload_n 0, (0, 0, 0, 0)), (.getfield 62, (12, 26, 0, 0)), (.iaload, (0, 0, 0, 0)), (.invokevirtual 287, (73, 6, 12, 0))], (.return_, (0, 0, 0, 0)), [])]
/-- 64: TwinVaultsModel.old(IIII)I -/
def bt_X12_old : List bi_K := [(0, [(.aload_n 0, (0, 0, 0, 0)), (.iconst 0, (0, 0, 0, 0)), (.putfield 1, (12, 0, 0, 0)), (.aload_n 0, (0, 0, 0, 0)), (.iload_n 1, (0, 0, 0, 0)), (.invokevirtual 407, (61, 1, 12, 0)), (.astore 5, (0, 0, 0, 0)), (.aload_n 0, (0, 0, 0, 0)), (.aload 5, (0, 0, 0, 0)), (.iload_n 3, (0, 0, 0, 0)), (.iload 4, (0, 0, 0, 0)), (.invokevirtual 411, (49, 3, 12, 0))], (.ifCond .eq 16, (0, 0, 0, 0)), [3, 1]),
  (24, [(.iload_n 2, (0, 0, 0, 0))], (.ifCond .lt 12, (0, 0, 0, 0)), [3, 2]),
  (28, [(.iload_n 2, (0, 0, 0, 0)), (.aload 5, (0, 0, 0, 0)), (.getfield 156, (11, 7, 0, 0))], (.if_icmp .lt 9, (0, 0, 0, 0)), [4, 3]),
  (37, [(.aload_n 0, (0, 0, 0, 0)), (.iconst 1, (0, 0, 0, 0)), (.invokevirtual 465, (34, 1, 12, 0))], (.ireturn, (0, 0, 0, 0)), []),
  (43, [(.aload_n 0, (0, 0, 0, 0)), (.getfield 13, (12, 9, 1, 0)), (.aload 5, (0, 0, 0, 0)), (.getfield 131, (11, 1, 0, 0)), (.baload, (0, 0, 0, 0))], (.ifCond .ne 9, (0, 0, 0, 0)), [6, 5]),
  (56, [(.aload_n 0, (0, 0, 0, 0)), (.iconst 2, (0, 0, 0, 0)), (.invokevirtual 465, (34, 1, 12, 0))], (.ireturn, (0, 0, 0, 0)), []),
  (62, [(.aload 5, (0, 0, 0, 0)), (.getfield 162, (11, 15, 1, 0)), (.iload_n 2, (0, 0, 0, 0)), (.iaload, (0, 0, 0, 0)), (.istore 6, (0, 0, 0, 0))], (.nop, (0, 0, 0, 0)), [7]),
  (71, [(.iload 6, (0, 0, 0, 0))], (.ifCond .eq 40, (0, 0, 0, 0)), [10, 8]),
  (76, [(.aload_n 0, (0, 0, 0, 0)), (.getfield 34, (12, 16, 1, 0)), (.iload 6, (0, 0, 0, 0)), (.iaload, (0, 0, 0, 0)), (.iload_n 3, (0, 0, 0, 0)), (.aload_n 0, (0, 0, 0, 0)), (.getfield 27, (12, 13, 1, 0)), (.aload 5, (0, 0, 0, 0)), (.getfield 134, (11, 0, 0, 0)), (.iaload, (0, 0, 0, 0)), (.imul, (0, 0, 0, 0)), (.iload 4, (0, 0, 0, 0)), (.iadd, (0, 0, 0, 0))], (.if_icmp .eq 15, (0, 0, 0, 0)), [10, 9]),
  (101, [(.aload_n 0, (0, 0, 0, 0)), (.getfield 31, (12, 15, 1, 0)), (.iload 6, (0, 0, 0, 0)), (.iaload, (0, 0, 0, 0)), (.istore 6, (0, 0, 0, 0))], (.goto (-39), (0, 0, 0, 0)), [7]),
  (113, [(.aload_n 0, (0, 0, 0, 0)), (.getfield 37, (12, 17, 1, 0)), (.iload 6, (0, 0, 0, 0)), (.iaload, (0, 0, 0, 0))], (.ireturn, (0, 0, 0, 0)), [])]
/-- 65: TwinVaultsModel.other(LTwinVaultsModel$Store;)LTwinVaultsModel$Store; -/
def bt_X12_other : List bi_K := [(0, [(.aload_n 0, (0, 0, 0, 0)), (.getfield 87, (12, 34, 1, 0)), (.iconst 4, (0, 0, 0, 0)), (.iconst 1, (0, 0, 0, 0)), (.aload_n 1, (0, 0, 0, 0)), (.getfield 131, (11, 1, 0, 0)), (.isub, (0, 0, 0, 0)), (.imul, (0, 0, 0, 0)), (.aload_n 1, (0, 0, 0, 0)), (.getfield 134, (11, 0, 0, 0)), (.iadd, (0, 0, 0, 0)), (.aaload, (0, 0, 0, 0))], (.areturn, (0, 0, 0, 0)), [])]
/-- 66: TwinVaultsModel.pass(II)I -/
def bt_X12_pass : List bi_K := [(0, [(.aload_n 0, (0, 0, 0, 0)), (.iconst 0, (0, 0, 0, 0)), (.putfield 1, (12, 0, 0, 0)), (.aload_n 0, (0, 0, 0, 0)), (.iload_n 1, (0, 0, 0, 0)), (.invokevirtual 458, (36, 1, 12, 0)), (.astore_n 3, (0, 0, 0, 0)), (.aload_n 3, (0, 0, 0, 0))], (.ifnull 12, (0, 0, 0, 0)), [3, 1]),
  (15, [(.iload_n 2, (0, 0, 0, 0))], (.ifCond .lt 8, (0, 0, 0, 0)), [3, 2]),
  (19, [(.iload_n 2, (0, 0, 0, 0)), (.iconst 2, (0, 0, 0, 0))], (.if_icmp .le 5, (0, 0, 0, 0)), [4, 3]),
  (24, [(.iconst (-1), (0, 0, 0, 0))], (.ireturn, (0, 0, 0, 0)), []),
  (26, [(.iload_n 2, (0, 0, 0, 0)), (.iconst 2, (0, 0, 0, 0))], (.if_icmp .ge 47, (0, 0, 0, 0)), [8, 5]),
  (31, [(.aload_n 0, (0, 0, 0, 0)), (.dup, (0, 0, 0, 0)), (.getfield 222, (12, 37, 0, 0)), (.iconst 1, (0, 0, 0, 0)), (.isub, (0, 0, 0, 0)), (.putfield 222, (12, 37, 0, 0)), (.iload_n 1, (0, 0, 0, 0)), (.istore 4, (0, 0, 0, 0))], (.nop, (0, 0, 0, 0)), [6]),
  (44, [(.iload 4, (0, 0, 0, 0)), (.aload_n 0, (0, 0, 0, 0)), (.getfield 222, (12, 37, 0, 0))], (.if_icmp .ge 25, (0, 0, 0, 0)), [8, 7]),
  (53, [(.aload_n 0, (0, 0, 0, 0)), (.getfield 93, (12, 35, 1, 0)), (.iload 4, (0, 0, 0, 0)), (.aload_n 0, (0, 0, 0, 0)), (.getfield 93, (12, 35, 1, 0)), (.iload 4, (0, 0, 0, 0)), (.iconst 1, (0, 0, 0, 0)), (.iadd, (0, 0, 0, 0)), (.aaload, (0, 0, 0, 0)), (.aastore, (0, 0, 0, 0)), (.iinc 4 1, (0, 0, 0, 0))], (.goto (-28), (0, 0, 0, 0)), [6]),
  (75, [(.iload_n 2, (0, 0, 0, 0))], (.ifCond .le 8, (0, 0, 0, 0)), [10, 9]),
  (79, [(.aload_n 0, (0, 0, 0, 0)), (.aload_n 3, (0, 0, 0, 0)), (.invokevirtual 462, (72, 1, 12, 0))], (.nop, (0, 0, 0, 0)), [10]),
  (84, [(.iload_n 2, (0, 0, 0, 0)), (.iconst 2, (0, 0, 0, 0))], (.if_icmp .ge 23, (0, 0, 0, 0)), [12, 11]),
  (89, [(.aload_n 0, (0, 0, 0, 0)), (.getfield 97, (12, 36, 1, 0)), (.aload_n 0, (0, 0, 0, 0)), (.getfield 118, (12, 38, 0, 0)), (.aload_n 3, (0, 0, 0, 0)), (.aastore, (0, 0, 0, 0)), (.aload_n 0, (0, 0, 0, 0)), (.dup, (0, 0, 0, 0)), (.getfield 118, (12, 38, 0, 0)), (.iconst 1, (0, 0, 0, 0)), (.iadd, (0, 0, 0, 0)), (.putfield 118, (12, 38, 0, 0))], (.nop, (0, 0, 0, 0)), [12]),
  (109, [(.iconst 1, (0, 0, 0, 0))], (.ireturn, (0, 0, 0, 0)), [])]
/-- 67: TwinVaultsModel.path(II)I -/
def bt_X12_path : List bi_K := [(0, [(.iconst 0, (0, 0, 0, 0)), (.istore_n 3, (0, 0, 0, 0)), (.aload_n 0, (0, 0, 0, 0)), (.getfield 50, (12, 21, 1, 0)), (.sipush 256, (0, 0, 0, 0)), (.iload_n 1, (0, 0, 0, 0)), (.imul, (0, 0, 0, 0)), (.iload_n 2, (0, 0, 0, 0)), (.bipush 16, (0, 0, 0, 0)), (.idiv, (0, 0, 0, 0)), (.iadd, (0, 0, 0, 0)), (.iaload, (0, 0, 0, 0)), (.aload_n 0, (0, 0, 0, 0)), (.getfield 122, (12, 24, 0, 0))], (.if_icmp .eq 25, (0, 0, 0, 0)), [2, 1]),
  (24, [(.aload_n 0, (0, 0, 0, 0)), (.getfield 50, (12, 21, 1, 0)), (.sipush 256, (0, 0, 0, 0)), (.iload_n 1, (0, 0, 0, 0)), (.imul, (0, 0, 0, 0)), (.iload_n 2, (0, 0, 0, 0)), (.bipush 16, (0, 0, 0, 0)), (.idiv, (0, 0, 0, 0)), (.iadd, (0, 0, 0, 0)), (.aload_n 0, (0, 0, 0, 0)), (.getfield 122, (12, 24, 0, 0)), (.iastore, (0, 0, 0, 0)), (.iinc 3 1, (0, 0, 0, 0))], (.nop, (0, 0, 0, 0)), [2]),
  (46, [(.aload_n 0, (0, 0, 0, 0)), (.getfield 53, (12, 22, 1, 0)), (.bipush 16, (0, 0, 0, 0)), (.iload_n 1, (0, 0, 0, 0)), (.imul, (0, 0, 0, 0)), (.iload_n 2, (0, 0, 0, 0)), (.sipush 256, (0, 0, 0, 0)), (.idiv, (0, 0, 0, 0)), (.iadd, (0, 0, 0, 0)), (.iaload, (0, 0, 0, 0)), (.aload_n 0, (0, 0, 0, 0)), (.getfield 122, (12, 24, 0, 0))], (.if_icmp .eq 25, (0, 0, 0, 0)), [4, 3]),
  (68, [(.aload_n 0, (0, 0, 0, 0)), (.getfield 53, (12, 22, 1, 0)), (.bipush 16, (0, 0, 0, 0)), (.iload_n 1, (0, 0, 0, 0)), (.imul, (0, 0, 0, 0)), (.iload_n 2, (0, 0, 0, 0)), (.sipush 256, (0, 0, 0, 0)), (.idiv, (0, 0, 0, 0)), (.iadd, (0, 0, 0, 0)), (.aload_n 0, (0, 0, 0, 0)), (.getfield 122, (12, 24, 0, 0)), (.iastore, (0, 0, 0, 0)), (.iinc 3 1, (0, 0, 0, 0))], (.nop, (0, 0, 0, 0)), [4]),
  (90, [(.aload_n 0, (0, 0, 0, 0)), (.getfield 56, (12, 23, 1, 0)), (.iload_n 1, (0, 0, 0, 0)), (.iaload, (0, 0, 0, 0)), (.aload_n 0, (0, 0, 0, 0)), (.getfield 122, (12, 24, 0, 0))], (.if_icmp .eq 16, (0, 0, 0, 0)), [6, 5]),
  (103, [(.aload_n 0, (0, 0, 0, 0)), (.getfield 56, (12, 23, 1, 0)), (.iload_n 1, (0, 0, 0, 0)), (.aload_n 0, (0, 0, 0, 0)), (.getfield 122, (12, 24, 0, 0)), (.iastore, (0, 0, 0, 0)), (.iinc 3 1, (0, 0, 0, 0))], (.nop, (0, 0, 0, 0)), [6]),
  (116, [(.iload_n 3, (0, 0, 0, 0))], (.ireturn, (0, 0, 0, 0)), [])]
/-- 68: TwinVaultsModel.period(I)Z -/
def bt_X12_period : List bi_K := [(0, [(.aload_n 0, (0, 0, 0, 0)), (.iconst 0, (0, 0, 0, 0)), (.putfield 1, (12, 0, 0, 0)), (.iload_n 1, (0, 0, 0, 0))], (.ifCond .lt 10, (0, 0, 0, 0)), [2, 1]),
  (9, [(.iload_n 1, (0, 0, 0, 0)), (.sipush 1000, (0, 0, 0, 0))], (.if_icmp .le 5, (0, 0, 0, 0)), [3, 2]),
  (16, [(.iconst 0, (0, 0, 0, 0))], (.ireturn, (1, 0, 0, 0)), []),
  (18, [(.aload_n 0, (0, 0, 0, 0)), (.iload_n 1, (0, 0, 0, 0)), (.putfield 442, (12, 4, 0, 0)), (.iconst 1, (0, 0, 0, 0))], (.ireturn, (1, 0, 0, 0)), [])]
/-- 69: TwinVaultsModel.piece(LTwinVaultsModel$Message;)V -/
def bt_X12_piece : List bi_K := [(0, [(.iconst 4, (0, 0, 0, 0)), (.aload_n 1, (0, 0, 0, 0)), (.getfield 243, (10, 5, 0, 0)), (.imul, (0, 0, 0, 0)), (.istore_n 2, (0, 0, 0, 0))], (.nop, (0, 0, 0, 0)), [1]),
  (7, [(.iload_n 2, (0, 0, 0, 0)), (.iconst 4, (0, 0, 0, 0)), (.aload_n 1, (0, 0, 0, 0)), (.getfield 243, (10, 5, 0, 0)), (.imul, (0, 0, 0, 0)), (.iconst 4, (0, 0, 0, 0)), (.iadd, (0, 0, 0, 0))], (.if_icmp .ge 98, (0, 0, 0, 0)), [4, 2]),
  (19, [(.iload_n 2, (0, 0, 0, 0)), (.aload_n 0, (0, 0, 0, 0)), (.getfield 128, (12, 28, 0, 0))], (.if_icmp .ge 90, (0, 0, 0, 0)), [4, 3]),
  (27, [(.aload_n 1, (0, 0, 0, 0)), (.getfield 253, (10, 8, 1, 0)), (.aload_n 1, (0, 0, 0, 0)), (.getfield 228, (10, 7, 0, 0)), (.aload_n 0, (0, 0, 0, 0)), (.getfield 68, (12, 29, 1, 0)), (.iload_n 2, (0, 0, 0, 0)), (.iaload, (0, 0, 0, 0)), (.aload_n 0, (0, 0, 0, 0)), (.getfield 27, (12, 13, 1, 0)), (.aload_n 1, (0, 0, 0, 0)), (.getfield 229, (10, 0, 1, 0)), (.getfield 134, (11, 0, 0, 0)), (.iaload, (0, 0, 0, 0)), (.idiv, (0, 0, 0, 0)), (.iastore, (0, 0, 0, 0)), (.aload_n 1, (0, 0, 0, 0)), (.getfield 259, (10, 9, 1, 0)), (.aload_n 1, (0, 0, 0, 0)), (.getfield 228, (10, 7, 0, 0)), (.aload_n 0, (0, 0, 0, 0)), (.getfield 68, (12, 29, 1, 0)), (.iload_n 2, (0, 0, 0, 0)), (.iaload, (0, 0, 0, 0)), (.aload_n 0, (0, 0, 0, 0)), (.getfield 27, (12, 13, 1, 0)), (.aload_n 1, (0, 0, 0, 0)), (.getfield 229, (10, 0, 1, 0)), (.getfield 134, (11, 0, 0, 0)), (.iaload, (0, 0, 0, 0)), (.irem, (0, 0, 0, 0)), (.iastore, (0, 0, 0, 0)), (.aload_n 1, (0, 0, 0, 0)), (.getfield 262, (10, 10, 1, 0)), (.aload_n 1, (0, 0, 0, 0)), (.getfield 228, (10, 7, 0, 0)), (.aload_n 0, (0, 0, 0, 0)), (.getfield 71, (12, 30, 1, 0)), (.iload_n 2, (0, 0, 0, 0)), (.iaload, (0, 0, 0, 0)), (.iastore, (0, 0, 0, 0)), (.aload_n 1, (0, 0, 0, 0)), (.dup, (0, 0, 0, 0)), (.getfield 228, (10, 7, 0, 0)), (.iconst 1, (0, 0, 0, 0)), (.iadd, (0, 0, 0, 0)), (.putfield 228, (10, 7, 0, 0)), (.iinc 2 1, (0, 0, 0, 0))], (.goto (-104), (0, 0, 0, 0)), [1]),
  (114, [], (.return_, (0, 0, 0, 0)), [])]
/-- 70: TwinVaultsModel.power(II)Z -/
def bt_X12_power : List bi_K := [(0, [(.aload_n 0, (0, 0, 0, 0)), (.iconst 0, (0, 0, 0, 0)), (.putfield 1, (12, 0, 0, 0)), (.iload_n 1, (0, 0, 0, 0)), (.invokestatic 454, (50, 1, 0, 0))], (.ifCond .eq 15, (0, 0, 0, 0)), [3, 1]),
  (12, [(.iload_n 2, (0, 0, 0, 0)), (.iconst (-1), (0, 0, 0, 0))], (.if_icmp .lt 10, (0, 0, 0, 0)), [3, 2]),
  (17, [(.iload_n 2, (0, 0, 0, 0)), (.ldc_w 457, (100000, 0, 0, 0))], (.if_icmp .le 5, (0, 0, 0, 0)), [4, 3]),
  (24, [(.iconst 0, (0, 0, 0, 0))], (.ireturn, (1, 0, 0, 0)), []),
  (26, [(.aload_n 0, (0, 0, 0, 0)), (.getfield 21, (12, 11, 1, 0)), (.iload_n 1, (0, 0, 0, 0)), (.iload_n 2, (0, 0, 0, 0)), (.iastore, (0, 0, 0, 0)), (.iconst 1, (0, 0, 0, 0))], (.ireturn, (1, 0, 0, 0)), [])]
/-- 71: TwinVaultsModel.read(III)I -/
def bt_X12_read : List bi_K := [(0, [(.aload_n 0, (0, 0, 0, 0)), (.iconst 0, (0, 0, 0, 0)), (.putfield 1, (12, 0, 0, 0)), (.aload_n 0, (0, 0, 0, 0)), (.iload_n 1, (0, 0, 0, 0)), (.invokevirtual 407, (61, 1, 12, 0)), (.astore 4, (0, 0, 0, 0)), (.aload_n 0, (0, 0, 0, 0)), (.aload 4, (0, 0, 0, 0)), (.iload_n 2, (0, 0, 0, 0)), (.iload_n 3, (0, 0, 0, 0)), (.invokevirtual 411, (49, 3, 12, 0))], (.ifCond .ne 9, (0, 0, 0, 0)), [2, 1]),
  (23, [(.aload_n 0, (0, 0, 0, 0)), (.iconst 1, (0, 0, 0, 0)), (.invokevirtual 465, (34, 1, 12, 0))], (.ireturn, (0, 0, 0, 0)), []),
  (29, [(.aload_n 0, (0, 0, 0, 0)), (.getfield 13, (12, 9, 1, 0)), (.aload 4, (0, 0, 0, 0)), (.getfield 131, (11, 1, 0, 0)), (.baload, (0, 0, 0, 0))], (.ifCond .ne 9, (0, 0, 0, 0)), [4, 3]),
  (42, [(.aload_n 0, (0, 0, 0, 0)), (.iconst 2, (0, 0, 0, 0)), (.invokevirtual 465, (34, 1, 12, 0))], (.ireturn, (0, 0, 0, 0)), []),
  (48, [(.aload_n 0, (0, 0, 0, 0)), (.aload 4, (0, 0, 0, 0)), (.invokevirtual 426, (53, 1, 12, 0)), (.aload_n 0, (0, 0, 0, 0)), (.getfield 37, (12, 17, 1, 0)), (.aload 4, (0, 0, 0, 0)), (.getfield 141, (11, 31, 1, 0)), (.iload_n 2, (0, 0, 0, 0)), (.aload_n 0, (0, 0, 0, 0)), (.getfield 27, (12, 13, 1, 0)), (.aload 4, (0, 0, 0, 0)), (.getfield 134, (11, 0, 0, 0)), (.iaload, (0, 0, 0, 0)), (.imul, (0, 0, 0, 0)), (.iload_n 3, (0, 0, 0, 0)), (.iadd, (0, 0, 0, 0)), (.iaload, (0, 0, 0, 0)), (.iaload, (0, 0, 0, 0))], (.ireturn, (0, 0, 0, 0)), [])]
/-- 72: TwinVaultsModel.receive(LTwinVaultsModel$Message;)V -/
def bt_X12_receive : List bi_K := [(0, [(.aload_n 0, (0, 0, 0, 0)), (.aload_n 1, (0, 0, 0, 0)), (.getfield 229, (10, 0, 1, 0)), (.invokevirtual 297, (65, 1, 12, 0)), (.astore_n 2, (0, 0, 0, 0)), (.aload_n 0, (0, 0, 0, 0)), (.getfield 13, (12, 9, 1, 0)), (.aload_n 2, (0, 0, 0, 0)), (.getfield 131, (11, 1, 0, 0)), (.baload, (0, 0, 0, 0))], (.ifCond .ne 4, (0, 0, 0, 0)), [2, 1]),
  (21, [], (.return_, (0, 0, 0, 0)), []),
  (22, [(.aload_n 1, (0, 0, 0, 0)), (.getfield 233, (10, 1, 0, 0)), (.aload_n 2, (0, 0, 0, 0)), (.getfield 201, (11, 3, 0, 0))], (.if_icmp .ge 40, (0, 0, 0, 0)), [8, 3]),
  (33, [(.aload_n 1, (0, 0, 0, 0)), (.getfield 234, (10, 2, 0, 0)), (.iconst 1, (0, 0, 0, 0))], (.if_icmp .eq 20, (0, 0, 0, 0)), [6, 4]),
  (41, [(.aload_n 1, (0, 0, 0, 0)), (.getfield 234, (10, 2, 0, 0)), (.iconst 3, (0, 0, 0, 0))], (.if_icmp .eq 12, (0, 0, 0, 0)), [6, 5]),
  (49, [(.aload_n 1, (0, 0, 0, 0)), (.getfield 234, (10, 2, 0, 0)), (.bipush 8, (0, 0, 0, 0))], (.if_icmp .ne 14, (0, 0, 0, 0)), [7, 6]),
  (58, [(.aload_n 0, (0, 0, 0, 0)), (.aload_n 2, (0, 0, 0, 0)), (.bipush 7, (0, 0, 0, 0)), (.iconst 0, (0, 0, 0, 0)), (.iconst 0, (0, 0, 0, 0)), (.iconst 0, (0, 0, 0, 0)), (.iconst 0, (0, 0, 0, 0)), (.invokevirtual 287, (73, 6, 12, 0))], (.nop, (0, 0, 0, 0)), [7]),
  (69, [], (.return_, (0, 0, 0, 0)), []),
  (70, [(.aload_n 1, (0, 0, 0, 0)), (.getfield 233, (10, 1, 0, 0)), (.aload_n 2, (0, 0, 0, 0)), (.getfield 201, (11, 3, 0, 0))], (.if_icmp .le 16, (0, 0, 0, 0)), [11, 9]),
  (81, [(.aload_n 0, (0, 0, 0, 0)), (.aload_n 2, (0, 0, 0, 0)), (.aload_n 1, (0, 0, 0, 0)), (.getfield 233, (10, 1, 0, 0)), (.invokevirtual 301, (39, 2, 12, 0))], (.ifCond .ne 4, (0, 0, 0, 0)), [11, 10]),
  (93, [], (.return_, (0, 0, 0, 0)), []),
  (94, [(.aload_n 2, (0, 0, 0, 0)), (.getfield 305, (11, 2, 0, 0)), (.iconst 1, (0, 0, 0, 0))], (.if_icmp .eq 11, (0, 0, 0, 0)), [13, 12]),
  (102, [(.aload_n 2, (0, 0, 0, 0)), (.getfield 305, (11, 2, 0, 0)), (.iconst 2, (0, 0, 0, 0))], (.if_icmp .ne 7, (0, 0, 0, 0)), [14, 13]),
  (110, [(.iconst 1, (0, 0, 0, 0))], (.goto 4, (0, 0, 0, 0)), [15]),
  (114, [(.iconst 0, (0, 0, 0, 0))], (.nop, (0, 0, 0, 0)), [15]),
  (115, [(.istore_n 3, (0, 0, 0, 0)), (.aload_n 1, (0, 0, 0, 0)), (.getfield 234, (10, 2, 0, 0))], (.tableswitch 356 1 11 #[60, 100, 76, 146, 192, 222, 356, 252, 356, 279, 311], (0, 0, 0, 0)), [50, 16, 21, 18, 26, 31, 35, 50, 39, 50, 42, 45]),
  (180, [(.aload_n 2, (0, 0, 0, 0)), (.getfield 305, (11, 2, 0, 0))], (.ifCond .ne 292, (0, 0, 0, 0)), [50, 17]),
  (187, [(.aload_n 0, (0, 0, 0, 0)), (.aload_n 2, (0, 0, 0, 0)), (.aload_n 1, (0, 0, 0, 0)), (.invokevirtual 308, (62, 2, 12, 0))], (.goto 283, (0, 0, 0, 0)), [50]),
  (196, [(.aload_n 2, (0, 0, 0, 0)), (.getfield 305, (11, 2, 0, 0))], (.ifCond .ne 276, (0, 0, 0, 0)), [50, 19]),
  (203, [(.aload_n 2, (0, 0, 0, 0)), (.aload_n 1, (0, 0, 0, 0)), (.invokestatic 312, (80, 2, 0, 0))], (.ifCond .eq 268, (0, 0, 0, 0)), [50, 20]),
  (211, [(.aload_n 0, (0, 0, 0, 0)), (.aload_n 2, (0, 0, 0, 0)), (.aload_n 1, (0, 0, 0, 0)), (.invokevirtual 316, (31, 2, 12, 0))], (.goto 259, (0, 0, 0, 0)), [50]),
  (220, [(.iload_n 3, (0, 0, 0, 0))], (.ifCond .eq 255, (0, 0, 0, 0)), [50, 22]),
  (224, [(.aload_n 2, (0, 0, 0, 0)), (.getfield 277, (11, 17, 0, 0)), (.iconst 1, (0, 0, 0, 0))], (.if_icmp .ne 247, (0, 0, 0, 0)), [50, 23]),
  (232, [(.aload_n 2, (0, 0, 0, 0)), (.getfield 265, (11, 16, 0, 0)), (.aload_n 1, (0, 0, 0, 0)), (.getfield 237, (10, 3, 0, 0))], (.if_icmp .ne 236, (0, 0, 0, 0)), [50, 24]),
  (243, [(.aload_n 2, (0, 0, 0, 0)), (.getfield 271, (11, 9, 0, 0)), (.aload_n 1, (0, 0, 0, 0)), (.getfield 240, (10, 4, 0, 0))], (.if_icmp .ne 225, (0, 0, 0, 0)), [50, 25]),
  (254, [(.aload_n 0, (0, 0, 0, 0)), (.aload_n 2, (0, 0, 0, 0)), (.aload_n 1, (0, 0, 0, 0)), (.getfield 243, (10, 5, 0, 0)), (.invokevirtual 319, (18, 2, 12, 0))], (.goto 213, (0, 0, 0, 0)), [50]),
  (266, [(.iload_n 3, (0, 0, 0, 0))], (.ifCond .eq 209, (0, 0, 0, 0)), [50, 27]),
  (270, [(.aload_n 2, (0, 0, 0, 0)), (.getfield 277, (11, 17, 0, 0)), (.iconst 2, (0, 0, 0, 0))], (.if_icmp .ne 201, (0, 0, 0, 0)), [50, 28]),
  (278, [(.aload_n 2, (0, 0, 0, 0)), (.getfield 265, (11, 16, 0, 0)), (.aload_n 1, (0, 0, 0, 0)), (.getfield 237, (10, 3, 0, 0))], (.if_icmp .ne 190, (0, 0, 0, 0)), [50, 29]),
  (289, [(.aload_n 2, (0, 0, 0, 0)), (.getfield 271, (11, 9, 0, 0)), (.aload_n 1, (0, 0, 0, 0)), (.getfield 240, (10, 4, 0, 0))], (.if_icmp .ne 179, (0, 0, 0, 0)), [50, 30]),
  (300, [(.aload_n 0, (0, 0, 0, 0)), (.aload_n 2, (0, 0, 0, 0)), (.aload_n 1, (0, 0, 0, 0)), (.getfield 243, (10, 5, 0, 0)), (.invokevirtual 323, (19, 2, 12, 0))], (.goto 167, (0, 0, 0, 0)), [50]),
  (312, [(.iload_n 3, (0, 0, 0, 0))], (.ifCond .eq 163, (0, 0, 0, 0)), [50, 32]),
  (316, [(.aload_n 2, (0, 0, 0, 0)), (.getfield 271, (11, 9, 0, 0))], (.ifCond .eq 156, (0, 0, 0, 0)), [50, 33]),
  (323, [(.aload_n 2, (0, 0, 0, 0)), (.getfield 271, (11, 9, 0, 0)), (.aload_n 1, (0, 0, 0, 0)), (.getfield 240, (10, 4, 0, 0))], (.if_icmp .ne 145, (0, 0, 0, 0)), [50, 34]),
  (334, [(.aload_n 0, (0, 0, 0, 0)), (.aload_n 2, (0, 0, 0, 0)), (.invokevirtual 326, (47, 1, 12, 0))], (.goto 137, (0, 0, 0, 0)), [50]),
  (342, [(.iload_n 3, (0, 0, 0, 0))], (.ifCond .eq 133, (0, 0, 0, 0)), [50, 36]),
  (346, [(.aload_n 2, (0, 0, 0, 0)), (.getfield 271, (11, 9, 0, 0))], (.ifCond .eq 126, (0, 0, 0, 0)), [50, 37]),
  (353, [(.aload_n 2, (0, 0, 0, 0)), (.getfield 277, (11, 17, 0, 0))], (.ifCond .le 119, (0, 0, 0, 0)), [50, 38]),
  (360, [(.aload_n 0, (0, 0, 0, 0)), (.aload_n 2, (0, 0, 0, 0)), (.aload_n 1, (0, 0, 0, 0)), (.getfield 240, (10, 4, 0, 0)), (.invokevirtual 329, (54, 2, 12, 0))], (.goto 107, (0, 0, 0, 0)), [50]),
  (372, [(.aload_n 2, (0, 0, 0, 0)), (.getfield 305, (11, 2, 0, 0))], (.ifCond .ne 100, (0, 0, 0, 0)), [50, 40]),
  (379, [(.aload_n 1, (0, 0, 0, 0)), (.getfield 240, (10, 4, 0, 0)), (.aload_n 2, (0, 0, 0, 0)), (.invokevirtual 208, (13, 0, 11, 0))], (.if_icmp .ne 89, (0, 0, 0, 0)), [50, 41]),
  (390, [(.aload_n 0, (0, 0, 0, 0)), (.aload_n 2, (0, 0, 0, 0)), (.aload_n 1, (0, 0, 0, 0)), (.invokevirtual 332, (42, 2, 12, 0))], (.goto 80, (0, 0, 0, 0)), [50]),
  (399, [(.aload_n 2, (0, 0, 0, 0)), (.getfield 305, (11, 2, 0, 0)), (.iconst 1, (0, 0, 0, 0))], (.if_icmp .ne 72, (0, 0, 0, 0)), [50, 43]),
  (407, [(.aload_n 2, (0, 0, 0, 0)), (.getfield 335, (11, 8, 0, 0)), (.sipush 4096, (0, 0, 0, 0)), (.aload_n 2, (0, 0, 0, 0)), (.getfield 201, (11, 3, 0, 0)), (.imul, (0, 0, 0, 0))], (.if_icmp .gt 57, (0, 0, 0, 0)), [50, 44]),
  (422, [(.aload_n 0, (0, 0, 0, 0)), (.aload_n 2, (0, 0, 0, 0)), (.aload_n 1, (0, 0, 0, 0)), (.invokevirtual 338, (45, 2, 12, 0))], (.goto 48, (0, 0, 0, 0)), [50]),
  (431, [(.aload_n 2, (0, 0, 0, 0)), (.getfield 305, (11, 2, 0, 0)), (.iconst 3, (0, 0, 0, 0))], (.if_icmp .ne 40, (0, 0, 0, 0)), [50, 46]),
  (439, [(.aload_n 2, (0, 0, 0, 0)), (.getfield 341, (11, 21, 2, 0))], (.ifCond .eq 33, (0, 0, 0, 0)), [50, 47]),
  (446, [(.aload_n 1, (0, 0, 0, 0)), (.getfield 240, (10, 4, 0, 0))], (.ifCond .eq 14, (0, 0, 0, 0)), [49, 48]),
  (453, [(.aload_n 2, (0, 0, 0, 0)), (.aload_n 1, (0, 0, 0, 0)), (.getfield 240, (10, 4, 0, 0)), (.invokevirtual 344, (9, 1, 11, 0))], (.ifCond .lt 15, (0, 0, 0, 0)), [50, 49]),
  (464, [(.aload_n 0, (0, 0, 0, 0)), (.aload_n 2, (0, 0, 0, 0)), (.aload_n 1, (0, 0, 0, 0)), (.getfield 240, (10, 4, 0, 0)), (.invokevirtual 348, (43, 2, 12, 0))], (.goto 3, (0, 0, 0, 0)), [50]),
  (476, [], (.return_, (0, 0, 0, 0)), [])]
/-- 73: TwinVaultsModel.send(LTwinVaultsModel$Store;IIIII)V -/
def bt_X12_send : List bi_K := [(0, [(.aload_n 0, (0, 0, 0, 0)), (.dup, (0, 0, 0, 0)), (.getfield 219, (12, 7, 0, 0)), (.iconst 1, (0, 0, 0, 0)), (.iadd, (0, 0, 0, 0)), (.putfield 219, (12, 7, 0, 0)), (.aload_n 0, (0, 0, 0, 0)), (.getfield 222, (12, 37, 0, 0)), (.bipush 60, (0, 0, 0, 0))], (.if_icmp .ne 14, (0, 0, 0, 0)), [2, 1]),
  (19, [(.aload_n 0, (0, 0, 0, 0)), (.dup, (0, 0, 0, 0)), (.getfield 225, (12, 8, 0, 0)), (.iconst 1, (0, 0, 0, 0)), (.iadd, (0, 0, 0, 0)), (.putfield 225, (12, 8, 0, 0))], (.return_, (0, 0, 0, 0)), []),
  (30, [(.aload_n 0, (0, 0, 0, 0)), (.dup, (0, 0, 0, 0)), (.getfield 118, (12, 38, 0, 0)), (.iconst 1, (0, 0, 0, 0)), (.isub, (0, 0, 0, 0)), (.putfield 118, (12, 38, 0, 0)), (.aload_n 0, (0, 0, 0, 0)), (.getfield 97, (12, 36, 1, 0)), (.aload_n 0, (0, 0, 0, 0)), (.getfield 118, (12, 38, 0, 0)), (.aaload, (0, 0, 0, 0)), (.astore 7, (0, 0, 0, 0)), (.aload 7, (0, 0, 0, 0)), (.iconst 0, (0, 0, 0, 0)), (.putfield 228, (10, 7, 0, 0)), (.aload 7, (0, 0, 0, 0)), (.aload_n 1, (0, 0, 0, 0)), (.putfield 229, (10, 0, 1, 0)), (.aload 7, (0, 0, 0, 0)), (.aload_n 1, (0, 0, 0, 0)), (.getfield 201, (11, 3, 0, 0)), (.putfield 233, (10, 1, 0, 0)), (.aload 7, (0, 0, 0, 0)), (.iload_n 2, (0, 0, 0, 0)), (.putfield 234, (10, 2, 0, 0)), (.aload 7, (0, 0, 0, 0)), (.iload_n 3, (0, 0, 0, 0)), (.putfield 237, (10, 3, 0, 0)), (.aload 7, (0, 0, 0, 0)), (.iload 4, (0, 0, 0, 0)), (.putfield 240, (10, 4, 0, 0)), (.aload 7, (0, 0, 0, 0)), (.iload 5, (0, 0, 0, 0)), (.putfield 243, (10, 5, 0, 0)), (.aload 7, (0, 0, 0, 0)), (.iload 6, (0, 0, 0, 0)), (.putfield 246, (10, 6, 0, 0)), (.iload_n 2, (0, 0, 0, 0)), (.iconst 3, (0, 0, 0, 0))], (.if_icmp .ne 9, (0, 0, 0, 0)), [4, 3]),
  (110, [(.aload_n 0, (0, 0, 0, 0)), (.aload 7, (0, 0, 0, 0)), (.invokevirtual 249, (69, 1, 12, 0))], (.nop, (0, 0, 0, 0)), [4]),
  (116, [(.aload_n 1, (0, 0, 0, 0)), (.getfield 156, (11, 7, 0, 0)), (.iconst 1, (0, 0, 0, 0)), (.isub, (0, 0, 0, 0)), (.istore 8, (0, 0, 0, 0))], (.nop, (0, 0, 0, 0)), [5]),
  (124, [(.iload 8, (0, 0, 0, 0))], (.ifCond .lt 68, (0, 0, 0, 0)), [8, 6]),
  (129, [(.iload_n 2, (0, 0, 0, 0)), (.bipush 10, (0, 0, 0, 0))], (.if_icmp .ne 62, (0, 0, 0, 0)), [8, 7]),
  (135, [(.aload 7, (0, 0, 0, 0)), (.getfield 253, (10, 8, 1, 0)), (.aload 7, (0, 0, 0, 0)), (.getfield 228, (10, 7, 0, 0)), (.aload_n 1, (0, 0, 0, 0)), (.getfield 256, (11, 14, 1, 0)), (.iload 8, (0, 0, 0, 0)), (.iaload, (0, 0, 0, 0)), (.iastore, (0, 0, 0, 0)), (.aload 7, (0, 0, 0, 0)), (.getfield 259, (10, 9, 1, 0)), (.aload 7, (0, 0, 0, 0)), (.getfield 228, (10, 7, 0, 0)), (.iconst 0, (0, 0, 0, 0)), (.iastore, (0, 0, 0, 0)), (.aload 7, (0, 0, 0, 0)), (.getfield 262, (10, 10, 1, 0)), (.aload 7, (0, 0, 0, 0)), (.getfield 228, (10, 7, 0, 0)), (.iconst 0, (0, 0, 0, 0)), (.iastore, (0, 0, 0, 0)), (.aload 7, (0, 0, 0, 0)), (.dup, (0, 0, 0, 0)), (.getfield 228, (10, 7, 0, 0)), (.iconst 1, (0, 0, 0, 0)), (.iadd, (0, 0, 0, 0)), (.putfield 228, (10, 7, 0, 0)), (.iinc 8 (-1), (0, 0, 0, 0))], (.goto (-67), (0, 0, 0, 0)), [5]),
  (194, [(.aload_n 0, (0, 0, 0, 0)), (.getfield 93, (12, 35, 1, 0)), (.aload_n 0, (0, 0, 0, 0)), (.getfield 222, (12, 37, 0, 0)), (.aload 7, (0, 0, 0, 0)), (.aastore, (0, 0, 0, 0)), (.aload_n 0, (0, 0, 0, 0)), (.dup, (0, 0, 0, 0)), (.getfield 222, (12, 37, 0, 0)), (.iconst 1, (0, 0, 0, 0)), (.iadd, (0, 0, 0, 0)), (.putfield 222, (12, 37, 0, 0))], (.return_, (0, 0, 0, 0)), [])]
/-- 74: TwinVaultsModel.sendsOn(LTwinVaultsModel$Store;)V -/
def bt_X12_sendsOn : List bi_K := [(0, [(.aload_n 0, (0, 0, 0, 0)), (.aload_n 1, (0, 0, 0, 0)), (.invokevirtual 283, (78, 1, 12, 0))], (.nop, (0, 0, 0, 0)), [1]),
  (5, [(.aload_n 1, (0, 0, 0, 0)), (.getfield 291, (11, 19, 0, 0)), (.aload_n 1, (0, 0, 0, 0)), (.getfield 294, (11, 18, 0, 0)), (.aload_n 0, (0, 0, 0, 0)), (.getfield 115, (12, 3, 0, 0)), (.iadd, (0, 0, 0, 0))], (.if_icmp .ge 48, (0, 0, 0, 0)), [4, 2]),
  (21, [(.iconst 4, (0, 0, 0, 0)), (.aload_n 1, (0, 0, 0, 0)), (.getfield 291, (11, 19, 0, 0)), (.imul, (0, 0, 0, 0)), (.aload_n 0, (0, 0, 0, 0)), (.getfield 128, (12, 28, 0, 0))], (.if_icmp .ge 35, (0, 0, 0, 0)), [4, 3]),
  (34, [(.aload_n 0, (0, 0, 0, 0)), (.aload_n 1, (0, 0, 0, 0)), (.iconst 3, (0, 0, 0, 0)), (.aload_n 1, (0, 0, 0, 0)), (.getfield 265, (11, 16, 0, 0)), (.aload_n 1, (0, 0, 0, 0)), (.getfield 271, (11, 9, 0, 0)), (.aload_n 1, (0, 0, 0, 0)), (.getfield 291, (11, 19, 0, 0)), (.iconst 0, (0, 0, 0, 0)), (.invokevirtual 287, (73, 6, 12, 0)), (.aload_n 1, (0, 0, 0, 0)), (.dup, (0, 0, 0, 0)), (.getfield 291, (11, 19, 0, 0)), (.iconst 1, (0, 0, 0, 0)), (.iadd, (0, 0, 0, 0)), (.putfield 291, (11, 19, 0, 0))], (.goto (-58), (0, 0, 0, 0)), [1]),
  (66, [], (.return_, (0, 0, 0, 0)), [])]
/-- 75: TwinVaultsModel.snap(III)I -/
def bt_X12_snap : List bi_K := [(0, [(.aload_n 0, (0, 0, 0, 0)), (.iconst 0, (0, 0, 0, 0)), (.putfield 1, (12, 0, 0, 0)), (.aload_n 0, (0, 0, 0, 0)), (.iload_n 1, (0, 0, 0, 0)), (.invokevirtual 407, (61, 1, 12, 0)), (.astore 4, (0, 0, 0, 0)), (.aload 4, (0, 0, 0, 0))], (.ifnull 25, (0, 0, 0, 0)), [5, 1]),
  (17, [(.iload_n 2, (0, 0, 0, 0))], (.ifCond .lt 21, (0, 0, 0, 0)), [5, 2]),
  (21, [(.iload_n 2, (0, 0, 0, 0)), (.aload 4, (0, 0, 0, 0)), (.getfield 156, (11, 7, 0, 0))], (.if_icmp .ge 12, (0, 0, 0, 0)), [5, 3]),
  (30, [(.iload_n 3, (0, 0, 0, 0))], (.ifCond .lt 8, (0, 0, 0, 0)), [5, 4]),
  (34, [(.iload_n 3, (0, 0, 0, 0)), (.iconst 1, (0, 0, 0, 0))], (.if_icmp .le 6, (0, 0, 0, 0)), [6, 5]),
  (39, [(.bipush (-2), (0, 0, 0, 0))], (.ireturn, (0, 0, 0, 0)), []),
  (42, [(.iload_n 3, (0, 0, 0, 0))], (.ifCond .ne 13, (0, 0, 0, 0)), [8, 7]),
  (46, [(.aload 4, (0, 0, 0, 0)), (.getfield 256, (11, 14, 1, 0)), (.iload_n 2, (0, 0, 0, 0)), (.iaload, (0, 0, 0, 0))], (.goto 15, (0, 0, 0, 0)), [9]),
  (56, [(.aload_n 0, (0, 0, 0, 0)), (.getfield 40, (12, 18, 1, 0)), (.aload 4, (0, 0, 0, 0)), (.getfield 162, (11, 15, 1, 0)), (.iload_n 2, (0, 0, 0, 0)), (.iaload, (0, 0, 0, 0)), (.iaload, (0, 0, 0, 0))], (.nop, (0, 0, 0, 0)), [9]),
  (68, [], (.ireturn, (0, 0, 0, 0)), [])]
/-- 76: TwinVaultsModel.snapshot(I)I -/
def bt_X12_snapshot : List bi_K := [(0, [(.aload_n 0, (0, 0, 0, 0)), (.iconst 0, (0, 0, 0, 0)), (.putfield 1, (12, 0, 0, 0)), (.aload_n 0, (0, 0, 0, 0)), (.iload_n 1, (0, 0, 0, 0)), (.invokevirtual 407, (61, 1, 12, 0)), (.astore_n 2, (0, 0, 0, 0)), (.aload_n 0, (0, 0, 0, 0)), (.aload_n 2, (0, 0, 0, 0)), (.iconst 1, (0, 0, 0, 0)), (.iconst 1, (0, 0, 0, 0)), (.invokevirtual 429, (23, 3, 12, 0)), (.istore_n 3, (0, 0, 0, 0)), (.iload_n 3, (0, 0, 0, 0))], (.ifCond .ge 5, (0, 0, 0, 0)), [2, 1]),
  (23, [(.iload_n 3, (0, 0, 0, 0))], (.ireturn, (0, 0, 0, 0)), []),
  (25, [(.aload_n 2, (0, 0, 0, 0)), (.getfield 144, (11, 4, 0, 0)), (.aload_n 2, (0, 0, 0, 0)), (.invokevirtual 433, (14, 0, 11, 0))], (.if_icmp .ne 5, (0, 0, 0, 0)), [4, 3]),
  (36, [(.iconst 0, (0, 0, 0, 0))], (.ireturn, (0, 0, 0, 0)), []),
  (38, [(.aload_n 2, (0, 0, 0, 0)), (.getfield 198, (11, 13, 0, 0)), (.sipush 4095, (0, 0, 0, 0))], (.if_icmp .ne 6, (0, 0, 0, 0)), [6, 5]),
  (48, [(.bipush (-5), (0, 0, 0, 0))], (.ireturn, (0, 0, 0, 0)), []),
  (51, [(.aload_n 0, (0, 0, 0, 0)), (.aload_n 2, (0, 0, 0, 0)), (.invokevirtual 436, (84, 1, 12, 0))], (.ifCond .eq 10, (0, 0, 0, 0)), [8, 7]),
  (59, [(.aload_n 2, (0, 0, 0, 0)), (.invokevirtual 208, (13, 0, 11, 0))], (.goto 5, (0, 0, 0, 0)), [9]),
  (66, [(.bipush (-3), (0, 0, 0, 0))], (.nop, (0, 0, 0, 0)), [9]),
  (68, [], (.ireturn, (0, 0, 0, 0)), [])]
/-- 77: TwinVaultsModel.span(III)V -/
def bt_X12_span : List bi_K := [(0, [(.iload_n 1, (0, 0, 0, 0)), (.aload_n 0, (0, 0, 0, 0)), (.getfield 65, (12, 27, 0, 0))], (.if_icmp .ne 20, (0, 0, 0, 0)), [4, 1]),
  (8, [(.iload_n 2, (0, 0, 0, 0)), (.aload_n 0, (0, 0, 0, 0)), (.getfield 59, (12, 25, 0, 0))], (.if_icmp .ne 12, (0, 0, 0, 0)), [4, 2]),
  (16, [(.iload_n 3, (0, 0, 0, 0)), (.aload_n 0, (0, 0, 0, 0)), (.getfield 62, (12, 26, 0, 0))], (.if_icmp .ne 4, (0, 0, 0, 0)), [4, 3]),
  (24, [], (.return_, (0, 0, 0, 0)), []),
  (25, [(.aload_n 0, (0, 0, 0, 0)), (.iload_n 1, (0, 0, 0, 0)), (.putfield 65, (12, 27, 0, 0)), (.aload_n 0, (0, 0, 0, 0)), (.iload_n 2, (0, 0, 0, 0)), (.putfield 59, (12, 25, 0, 0)), (.aload_n 0, (0, 0, 0, 0)), (.iload_n 3, (0, 0, 0, 0)), (.putfield 62, (12, 26, 0, 0)), (.aload_n 0, (0, 0, 0, 0)), (.dup, (0, 0, 0, 0)), (.getfield 122, (12, 24, 0, 0)), (.iconst 1, (0, 0, 0, 0)), (.iadd, (0, 0, 0, 0)), (.putfield 122, (12, 24, 0, 0)), (.iload_n 3, (0, 0, 0, 0)), (.istore 4, (0, 0, 0, 0))], (.nop, (0, 0, 0, 0)), [5]),
  (53, [(.iload 4, (0, 0, 0, 0)), (.iload_n 2, (0, 0, 0, 0))], (.if_icmp .eq 72, (0, 0, 0, 0)), [10, 6]),
  (59, [(.aload_n 0, (0, 0, 0, 0)), (.getfield 44, (12, 19, 1, 0)), (.aload_n 0, (0, 0, 0, 0)), (.getfield 34, (12, 16, 1, 0)), (.iload 4, (0, 0, 0, 0)), (.iaload, (0, 0, 0, 0)), (.iaload, (0, 0, 0, 0)), (.aload_n 0, (0, 0, 0, 0)), (.getfield 122, (12, 24, 0, 0))], (.if_icmp .ne 6, (0, 0, 0, 0)), [8, 7]),
  (78, [], (.goto 38, (0, 0, 0, 0)), [9]),
  (81, [(.aload_n 0, (0, 0, 0, 0)), (.getfield 44, (12, 19, 1, 0)), (.aload_n 0, (0, 0, 0, 0)), (.getfield 34, (12, 16, 1, 0)), (.iload 4, (0, 0, 0, 0)), (.iaload, (0, 0, 0, 0)), (.aload_n 0, (0, 0, 0, 0)), (.getfield 122, (12, 24, 0, 0)), (.iastore, (0, 0, 0, 0)), (.aload_n 0, (0, 0, 0, 0)), (.getfield 47, (12, 20, 1, 0)), (.aload_n 0, (0, 0, 0, 0)), (.getfield 34, (12, 16, 1, 0)), (.iload 4, (0, 0, 0, 0)), (.iaload, (0, 0, 0, 0)), (.aload_n 0, (0, 0, 0, 0)), (.getfield 37, (12, 17, 1, 0)), (.iload 4, (0, 0, 0, 0)), (.iaload, (0, 0, 0, 0)), (.iastore, (0, 0, 0, 0))], (.nop, (0, 0, 0, 0)), [9]),
  (116, [(.aload_n 0, (0, 0, 0, 0)), (.getfield 31, (12, 15, 1, 0)), (.iload 4, (0, 0, 0, 0)), (.iaload, (0, 0, 0, 0)), (.istore 4, (0, 0, 0, 0))], (.goto (-72), (0, 0, 0, 0)), [5]),
  (128, [(.aload_n 0, (0, 0, 0, 0)), (.iconst 0, (0, 0, 0, 0)), (.putfield 128, (12, 28, 0, 0)), (.iconst 0, (0, 0, 0, 0)), (.istore 4, (0, 0, 0, 0))], (.nop, (0, 0, 0, 0)), [11]),
  (136, [(.iload 4, (0, 0, 0, 0)), (.aload_n 0, (0, 0, 0, 0)), (.getfield 24, (12, 12, 1, 0)), (.iload_n 1, (0, 0, 0, 0)), (.iaload, (0, 0, 0, 0)), (.aload_n 0, (0, 0, 0, 0)), (.getfield 27, (12, 13, 1, 0)), (.iload_n 1, (0, 0, 0, 0)), (.iaload, (0, 0, 0, 0)), (.imul, (0, 0, 0, 0))], (.if_icmp .ge 63, (0, 0, 0, 0)), [16, 12]),
  (154, [(.aload_n 0, (0, 0, 0, 0)), (.getfield 44, (12, 19, 1, 0)), (.iload 4, (0, 0, 0, 0)), (.iaload, (0, 0, 0, 0)), (.aload_n 0, (0, 0, 0, 0)), (.getfield 122, (12, 24, 0, 0))], (.if_icmp .eq 6, (0, 0, 0, 0)), [14, 13]),
  (168, [], (.goto 40, (0, 0, 0, 0)), [15]),
  (171, [(.aload_n 0, (0, 0, 0, 0)), (.getfield 68, (12, 29, 1, 0)), (.aload_n 0, (0, 0, 0, 0)), (.getfield 128, (12, 28, 0, 0)), (.iload 4, (0, 0, 0, 0)), (.iastore, (0, 0, 0, 0)), (.aload_n 0, (0, 0, 0, 0)), (.getfield 71, (12, 30, 1, 0)), (.aload_n 0, (0, 0, 0, 0)), (.getfield 128, (12, 28, 0, 0)), (.aload_n 0, (0, 0, 0, 0)), (.getfield 47, (12, 20, 1, 0)), (.iload 4, (0, 0, 0, 0)), (.iaload, (0, 0, 0, 0)), (.iastore, (0, 0, 0, 0)), (.aload_n 0, (0, 0, 0, 0)), (.dup, (0, 0, 0, 0)), (.getfield 128, (12, 28, 0, 0)), (.iconst 1, (0, 0, 0, 0)), (.iadd, (0, 0, 0, 0)), (.putfield 128, (12, 28, 0, 0))], (.nop, (0, 0, 0, 0)), [15]),
  (208, [(.iinc 4 1, (0, 0, 0, 0))], (.goto (-75), (0, 0, 0, 0)), [11]),
  (214, [], (.return_, (0, 0, 0, 0)), [])]
/-- 78: TwinVaultsModel.spanOf(LTwinVaultsModel$Store;)V -/
def bt_X12_spanOf : List bi_K := [(0, [(.aload_n 0, (0, 0, 0, 0)), (.aload_n 1, (0, 0, 0, 0)), (.getfield 134, (11, 0, 0, 0)), (.aload_n 0, (0, 0, 0, 0)), (.aload_n 1, (0, 0, 0, 0)), (.getfield 134, (11, 0, 0, 0)), (.aload_n 1, (0, 0, 0, 0)), (.getfield 265, (11, 16, 0, 0)), (.invokevirtual 268, (56, 2, 12, 0)), (.aload_n 0, (0, 0, 0, 0)), (.aload_n 1, (0, 0, 0, 0)), (.getfield 134, (11, 0, 0, 0)), (.aload_n 1, (0, 0, 0, 0)), (.getfield 271, (11, 9, 0, 0)), (.invokevirtual 268, (56, 2, 12, 0)), (.invokevirtual 274, (77, 3, 12, 0))], (.return_, (0, 0, 0, 0)), [])]
/-- 79: TwinVaultsModel.staged(LTwinVaultsModel$Store;I)V -/
def bt_X12_staged : List bi_K := [(0, [(.aload_n 1, (0, 0, 0, 0)), (.invokevirtual 378, (10, 0, 11, 0))], (.ifCond .ne 23, (0, 0, 0, 0)), [2, 1]),
  (7, [(.aload_n 0, (0, 0, 0, 0)), (.aload_n 1, (0, 0, 0, 0)), (.iload_n 2, (0, 0, 0, 0)), (.aload_n 1, (0, 0, 0, 0)), (.getfield 366, (11, 23, 0, 0)), (.aload_n 1, (0, 0, 0, 0)), (.getfield 369, (11, 24, 0, 0)), (.aload_n 1, (0, 0, 0, 0)), (.getfield 382, (11, 26, 0, 0)), (.iconst 0, (0, 0, 0, 0)), (.invokevirtual 287, (73, 6, 12, 0))], (.return_, (0, 0, 0, 0)), []),
  (27, [(.aload_n 0, (0, 0, 0, 0)), (.aload_n 1, (0, 0, 0, 0)), (.getfield 134, (11, 0, 0, 0)), (.aload_n 1, (0, 0, 0, 0)), (.getfield 366, (11, 23, 0, 0)), (.invokevirtual 268, (56, 2, 12, 0)), (.istore_n 3, (0, 0, 0, 0)), (.aload_n 0, (0, 0, 0, 0)), (.aload_n 1, (0, 0, 0, 0)), (.getfield 134, (11, 0, 0, 0)), (.aload_n 1, (0, 0, 0, 0)), (.getfield 369, (11, 24, 0, 0)), (.invokevirtual 268, (56, 2, 12, 0)), (.istore 4, (0, 0, 0, 0)), (.aload_n 0, (0, 0, 0, 0)), (.aload_n 1, (0, 0, 0, 0)), (.getfield 131, (11, 1, 0, 0)), (.aload_n 0, (0, 0, 0, 0)), (.aload_n 1, (0, 0, 0, 0)), (.getfield 134, (11, 0, 0, 0)), (.iload_n 3, (0, 0, 0, 0)), (.iload 4, (0, 0, 0, 0)), (.invokevirtual 191, (60, 3, 12, 0)), (.iconst 1, (0, 0, 0, 0)), (.iadd, (0, 0, 0, 0)), (.invokevirtual 195, (21, 2, 12, 0))], (.ifCond .ne 4, (0, 0, 0, 0)), [4, 3]),
  (78, [], (.return_, (0, 0, 0, 0)), []),
  (79, [(.aload_n 1, (0, 0, 0, 0)), (.getfield 366, (11, 23, 0, 0))], (.ifCond .ne 8, (0, 0, 0, 0)), [6, 5]),
  (86, [(.aload_n 1, (0, 0, 0, 0)), (.iconst 0, (0, 0, 0, 0)), (.putfield 156, (11, 7, 0, 0))], (.nop, (0, 0, 0, 0)), [6]),
  (91, [(.aload_n 1, (0, 0, 0, 0)), (.getfield 369, (11, 24, 0, 0)), (.istore 5, (0, 0, 0, 0)), (.aload_n 1, (0, 0, 0, 0)), (.invokevirtual 360, (16, 0, 11, 0)), (.aload_n 1, (0, 0, 0, 0)), (.iload 5, (0, 0, 0, 0)), (.iload 4, (0, 0, 0, 0)), (.invokevirtual 204, (15, 2, 11, 0)), (.aload_n 1, (0, 0, 0, 0)), (.iload 4, (0, 0, 0, 0)), (.putfield 144, (11, 4, 0, 0)), (.aload_n 1, (0, 0, 0, 0)), (.iload 4, (0, 0, 0, 0)), (.putfield 185, (11, 5, 0, 0)), (.aload_n 1, (0, 0, 0, 0)), (.iload 4, (0, 0, 0, 0)), (.putfield 159, (11, 6, 0, 0)), (.aload_n 1, (0, 0, 0, 0)), (.iconst 0, (0, 0, 0, 0)), (.putfield 137, (11, 32, 2, 0)), (.aload_n 1, (0, 0, 0, 0)), (.aload_n 0, (0, 0, 0, 0)), (.getfield 112, (12, 2, 0, 0)), (.invokevirtual 216, (17, 1, 11, 0)), (.aload_n 0, (0, 0, 0, 0)), (.aload_n 1, (0, 0, 0, 0)), (.iconst 5, (0, 0, 0, 0)), (.iconst 0, (0, 0, 0, 0)), (.iload 5, (0, 0, 0, 0)), (.iconst 0, (0, 0, 0, 0)), (.iconst 0, (0, 0, 0, 0)), (.invokevirtual 287, (73, 6, 12, 0))], (.return_, (0, 0, 0, 0)), [])]
/-- 80: TwinVaultsModel.stagesJust(LTwinVaultsModel$Store;LTwinVaultsModel$Message;)Z -/
def bt_X12_stagesJust : List bi_K := [(0, [(.aload_n 0, (0, 0, 0, 0)), (.getfield 363, (11, 22, 2, 0))], (.ifCond .eq 29, (0, 0, 0, 0)), [4, 1]),
  (7, [(.aload_n 0, (0, 0, 0, 0)), (.getfield 366, (11, 23, 0, 0)), (.aload_n 1, (0, 0, 0, 0)), (.getfield 237, (10, 3, 0, 0))], (.if_icmp .ne 18, (0, 0, 0, 0)), [4, 2]),
  (18, [(.aload_n 0, (0, 0, 0, 0)), (.getfield 369, (11, 24, 0, 0)), (.aload_n 1, (0, 0, 0, 0)), (.getfield 240, (10, 4, 0, 0))], (.if_icmp .ne 7, (0, 0, 0, 0)), [4, 3]),
  (29, [(.iconst 1, (0, 0, 0, 0))], (.goto 4, (0, 0, 0, 0)), [5]),
  (33, [(.iconst 0, (0, 0, 0, 0))], (.nop, (0, 0, 0, 0)), [5]),
  (34, [], (.ireturn, (1, 0, 0, 0)), [])]
/-- 81: TwinVaultsModel.state(II)I -/
def bt_X12_state : List bi_K := [(0, [(.aload_n 0, (0, 0, 0, 0)), (.iconst 0, (0, 0, 0, 0)), (.putfield 1, (12, 0, 0, 0)), (.aload_n 0, (0, 0, 0, 0)), (.iload_n 1, (0, 0, 0, 0)), (.invokevirtual 407, (61, 1, 12, 0)), (.astore_n 3, (0, 0, 0, 0)), (.aload_n 3, (0, 0, 0, 0))], (.ifnonnull 6, (0, 0, 0, 0)), [2, 1]),
  (15, [(.bipush (-2), (0, 0, 0, 0))], (.ireturn, (0, 0, 0, 0)), []),
  (18, [(.iload_n 2, (0, 0, 0, 0))], (.tableswitch 263 0 24 #[113, 118, 123, 133, 143, 153, 158, 163, 168, 173, 178, 183, 188, 193, 198, 203, 208, 213, 226, 231, 236, 241, 246, 252, 258], (0, 0, 0, 0)), [31, 3, 4, 5, 6, 7, 8, 9, 10, 11, 12, 13, 14, 15, 16, 17, 18, 19, 20, 24, 25, 26, 27, 28, 29, 30]),
  (132, [(.aload_n 3, (0, 0, 0, 0)), (.getfield 305, (11, 2, 0, 0))], (.ireturn, (0, 0, 0, 0)), []),
  (137, [(.aload_n 3, (0, 0, 0, 0)), (.getfield 201, (11, 3, 0, 0))], (.ireturn, (0, 0, 0, 0)), []),
  (142, [(.aload_n 0, (0, 0, 0, 0)), (.getfield 40, (12, 18, 1, 0)), (.aload_n 3, (0, 0, 0, 0)), (.getfield 144, (11, 4, 0, 0)), (.iaload, (0, 0, 0, 0))], (.ireturn, (0, 0, 0, 0)), []),
  (152, [(.aload_n 0, (0, 0, 0, 0)), (.getfield 40, (12, 18, 1, 0)), (.aload_n 3, (0, 0, 0, 0)), (.getfield 185, (11, 5, 0, 0)), (.iaload, (0, 0, 0, 0))], (.ireturn, (0, 0, 0, 0)), []),
  (162, [(.aload_n 0, (0, 0, 0, 0)), (.getfield 40, (12, 18, 1, 0)), (.aload_n 3, (0, 0, 0, 0)), (.getfield 159, (11, 6, 0, 0)), (.iaload, (0, 0, 0, 0))], (.ireturn, (0, 0, 0, 0)), []),
  (172, [(.aload_n 3, (0, 0, 0, 0)), (.getfield 156, (11, 7, 0, 0))], (.ireturn, (0, 0, 0, 0)), []),
  (177, [(.aload_n 3, (0, 0, 0, 0)), (.invokevirtual 208, (13, 0, 11, 0))], (.ireturn, (0, 0, 0, 0)), []),
  (182, [(.aload_n 3, (0, 0, 0, 0)), (.getfield 335, (11, 8, 0, 0))], (.ireturn, (0, 0, 0, 0)), []),
  (187, [(.aload_n 3, (0, 0, 0, 0)), (.getfield 271, (11, 9, 0, 0))], (.ireturn, (0, 0, 0, 0)), []),
  (192, [(.aload_n 3, (0, 0, 0, 0)), (.getfield 354, (11, 10, 0, 0))], (.ireturn, (0, 0, 0, 0)), []),
  (197, [(.aload_n 3, (0, 0, 0, 0)), (.getfield 357, (11, 11, 0, 0))], (.ireturn, (0, 0, 0, 0)), []),
  (202, [(.aload_n 3, (0, 0, 0, 0)), (.getfield 351, (11, 12, 0, 0))], (.ireturn, (0, 0, 0, 0)), []),
  (207, [(.aload_n 3, (0, 0, 0, 0)), (.getfield 265, (11, 16, 0, 0))], (.ireturn, (0, 0, 0, 0)), []),
  (212, [(.aload_n 3, (0, 0, 0, 0)), (.getfield 277, (11, 17, 0, 0))], (.ireturn, (0, 0, 0, 0)), []),
  (217, [(.aload_n 3, (0, 0, 0, 0)), (.getfield 294, (11, 18, 0, 0))], (.ireturn, (0, 0, 0, 0)), []),
  (222, [(.aload_n 3, (0, 0, 0, 0)), (.getfield 291, (11, 19, 0, 0))], (.ireturn, (0, 0, 0, 0)), []),
  (227, [(.aload_n 3, (0, 0, 0, 0)), (.getfield 280, (11, 20, 0, 0))], (.ireturn, (0, 0, 0, 0)), []),
  (232, [(.aload_n 3, (0, 0, 0, 0)), (.getfield 341, (11, 21, 2, 0))], (.ifCond .eq 7, (0, 0, 0, 0)), [22, 21]),
  (239, [(.iconst 1, (0, 0, 0, 0))], (.goto 4, (0, 0, 0, 0)), [23]),
  (243, [(.iconst 0, (0, 0, 0, 0))], (.nop, (0, 0, 0, 0)), [23]),
  (244, [], (.ireturn, (0, 0, 0, 0)), []),
  (245, [(.aload_n 3, (0, 0, 0, 0)), (.getfield 382, (11, 26, 0, 0))], (.ireturn, (0, 0, 0, 0)), []),
  (250, [(.aload_n 3, (0, 0, 0, 0)), (.getfield 153, (11, 27, 0, 0))], (.ireturn, (0, 0, 0, 0)), []),
  (255, [(.aload_n 3, (0, 0, 0, 0)), (.getfield 369, (11, 24, 0, 0))], (.ireturn, (0, 0, 0, 0)), []),
  (260, [(.aload_n 3, (0, 0, 0, 0)), (.getfield 388, (11, 28, 0, 0))], (.ireturn, (0, 0, 0, 0)), []),
  (265, [(.aload_n 3, (0, 0, 0, 0)), (.getfield 400, (11, 29, 1, 0)), (.arraylength, (0, 0, 0, 0))], (.ireturn, (0, 0, 0, 0)), []),
  (271, [(.aload_n 0, (0, 0, 0, 0)), (.aload_n 3, (0, 0, 0, 0)), (.invokevirtual 171, (59, 1, 12, 0))], (.ireturn, (0, 0, 0, 0)), []),
  (277, [(.aload_n 3, (0, 0, 0, 0)), (.getfield 198, (11, 13, 0, 0))], (.ireturn, (0, 0, 0, 0)), []),
  (282, [(.bipush (-2), (0, 0, 0, 0))], (.ireturn, (0, 0, 0, 0)), [])]
/-- 82: TwinVaultsModel.stay(I)I -/
def bt_X12_stay : List bi_K := [(0, [(.aload_n 0, (0, 0, 0, 0)), (.iconst 0, (0, 0, 0, 0)), (.putfield 1, (12, 0, 0, 0)), (.aload_n 0, (0, 0, 0, 0)), (.iload_n 1, (0, 0, 0, 0)), (.invokevirtual 407, (61, 1, 12, 0)), (.astore_n 2, (0, 0, 0, 0)), (.aload_n 0, (0, 0, 0, 0)), (.aload_n 2, (0, 0, 0, 0)), (.iconst 2, (0, 0, 0, 0)), (.iconst 2, (0, 0, 0, 0)), (.invokevirtual 429, (23, 3, 12, 0)), (.istore_n 3, (0, 0, 0, 0)), (.iload_n 3, (0, 0, 0, 0))], (.ifCond .ge 5, (0, 0, 0, 0)), [2, 1]),
  (23, [(.iload_n 3, (0, 0, 0, 0))], (.ireturn, (0, 0, 0, 0)), []),
  (25, [(.aload_n 2, (0, 0, 0, 0)), (.getfield 351, (11, 12, 0, 0))], (.ifCond .eq 6, (0, 0, 0, 0)), [4, 3]),
  (32, [(.bipush (-4), (0, 0, 0, 0))], (.ireturn, (0, 0, 0, 0)), []),
  (35, [(.aload_n 0, (0, 0, 0, 0)), (.aload_n 2, (0, 0, 0, 0)), (.getfield 131, (11, 1, 0, 0)), (.invokevirtual 178, (20, 1, 12, 0))], (.ifCond .ne 6, (0, 0, 0, 0)), [6, 5]),
  (46, [(.bipush (-3), (0, 0, 0, 0))], (.ireturn, (0, 0, 0, 0)), []),
  (49, [(.aload_n 2, (0, 0, 0, 0)), (.iconst 1, (0, 0, 0, 0)), (.putfield 305, (11, 2, 0, 0)), (.iconst 0, (0, 0, 0, 0))], (.ireturn, (0, 0, 0, 0)), [])]
/-- 83: TwinVaultsModel.sum(II)I -/
def bt_X12_sum : List bi_K := [(0, [(.aload_n 0, (0, 0, 0, 0)), (.iconst 0, (0, 0, 0, 0)), (.putfield 1, (12, 0, 0, 0)), (.aload_n 0, (0, 0, 0, 0)), (.iload_n 1, (0, 0, 0, 0)), (.invokevirtual 407, (61, 1, 12, 0)), (.astore_n 3, (0, 0, 0, 0)), (.aload_n 0, (0, 0, 0, 0)), (.aload_n 3, (0, 0, 0, 0)), (.iload_n 2, (0, 0, 0, 0)), (.iconst 0, (0, 0, 0, 0)), (.invokevirtual 411, (49, 3, 12, 0))], (.ifCond .ne 9, (0, 0, 0, 0)), [2, 1]),
  (21, [(.aload_n 0, (0, 0, 0, 0)), (.iconst 1, (0, 0, 0, 0)), (.invokevirtual 465, (34, 1, 12, 0))], (.ireturn, (0, 0, 0, 0)), []),
  (27, [(.aload_n 0, (0, 0, 0, 0)), (.getfield 13, (12, 9, 1, 0)), (.aload_n 3, (0, 0, 0, 0)), (.getfield 131, (11, 1, 0, 0)), (.baload, (0, 0, 0, 0))], (.ifCond .ne 9, (0, 0, 0, 0)), [4, 3]),
  (39, [(.aload_n 0, (0, 0, 0, 0)), (.iconst 2, (0, 0, 0, 0)), (.invokevirtual 465, (34, 1, 12, 0))], (.ireturn, (0, 0, 0, 0)), []),
  (45, [(.aload_n 0, (0, 0, 0, 0)), (.aload_n 3, (0, 0, 0, 0)), (.invokevirtual 426, (53, 1, 12, 0)), (.iconst 0, (0, 0, 0, 0)), (.istore 4, (0, 0, 0, 0)), (.iconst 0, (0, 0, 0, 0)), (.istore 5, (0, 0, 0, 0))], (.nop, (0, 0, 0, 0)), [5]),
  (56, [(.iload 5, (0, 0, 0, 0)), (.aload_n 0, (0, 0, 0, 0)), (.getfield 27, (12, 13, 1, 0)), (.aload_n 3, (0, 0, 0, 0)), (.getfield 134, (11, 0, 0, 0)), (.iaload, (0, 0, 0, 0))], (.if_icmp .ge 41, (0, 0, 0, 0)), [7, 6]),
  (70, [(.bipush 31, (0, 0, 0, 0)), (.iload 4, (0, 0, 0, 0)), (.imul, (0, 0, 0, 0)), (.aload_n 0, (0, 0, 0, 0)), (.getfield 37, (12, 17, 1, 0)), (.aload_n 3, (0, 0, 0, 0)), (.getfield 141, (11, 31, 1, 0)), (.iload_n 2, (0, 0, 0, 0)), (.aload_n 0, (0, 0, 0, 0)), (.getfield 27, (12, 13, 1, 0)), (.aload_n 3, (0, 0, 0, 0)), (.getfield 134, (11, 0, 0, 0)), (.iaload, (0, 0, 0, 0)), (.imul, (0, 0, 0, 0)), (.iload 5, (0, 0, 0, 0)), (.iadd, (0, 0, 0, 0)), (.iaload, (0, 0, 0, 0)), (.iaload, (0, 0, 0, 0)), (.iadd, (0, 0, 0, 0)), (.istore 4, (0, 0, 0, 0)), (.iinc 5 1, (0, 0, 0, 0))], (.goto (-49), (0, 0, 0, 0)), [5]),
  (108, [(.iload 4, (0, 0, 0, 0))], (.ireturn, (0, 0, 0, 0)), [])]
/-- 84: TwinVaultsModel.takes(LTwinVaultsModel$Store;)Z -/
def bt_X12_takes : List bi_K := [(0, [(.aload_n 0, (0, 0, 0, 0)), (.aload_n 1, (0, 0, 0, 0)), (.invokevirtual 182, (27, 1, 12, 0))], (.ifCond .lt 14, (0, 0, 0, 0)), [2, 1]),
  (8, [(.aload_n 0, (0, 0, 0, 0)), (.aload_n 1, (0, 0, 0, 0)), (.getfield 131, (11, 1, 0, 0)), (.invokevirtual 178, (20, 1, 12, 0))], (.ifCond .ne 5, (0, 0, 0, 0)), [3, 2]),
  (19, [(.iconst 0, (0, 0, 0, 0))], (.ireturn, (1, 0, 0, 0)), []),
  (21, [(.aload_n 1, (0, 0, 0, 0)), (.dup, (0, 0, 0, 0)), (.getfield 198, (11, 13, 0, 0)), (.iconst 1, (0, 0, 0, 0)), (.iadd, (0, 0, 0, 0)), (.putfield 198, (11, 13, 0, 0)), (.aload_n 1, (0, 0, 0, 0)), (.sipush 4096, (0, 0, 0, 0)), (.aload_n 1, (0, 0, 0, 0)), (.getfield 201, (11, 3, 0, 0)), (.imul, (0, 0, 0, 0)), (.aload_n 1, (0, 0, 0, 0)), (.getfield 198, (11, 13, 0, 0)), (.iadd, (0, 0, 0, 0)), (.aload_n 1, (0, 0, 0, 0)), (.getfield 144, (11, 4, 0, 0)), (.invokevirtual 204, (15, 2, 11, 0)), (.aload_n 0, (0, 0, 0, 0)), (.aload_n 1, (0, 0, 0, 0)), (.getfield 134, (11, 0, 0, 0)), (.aload_n 1, (0, 0, 0, 0)), (.invokevirtual 208, (13, 0, 11, 0)), (.aload_n 1, (0, 0, 0, 0)), (.getfield 144, (11, 4, 0, 0)), (.invokevirtual 212, (51, 3, 12, 0)), (.aload_n 1, (0, 0, 0, 0)), (.aload_n 0, (0, 0, 0, 0)), (.getfield 112, (12, 2, 0, 0)), (.invokevirtual 216, (17, 1, 11, 0)), (.iconst 1, (0, 0, 0, 0))], (.ireturn, (1, 0, 0, 0)), [])]
/-- 85: TwinVaultsModel.thrown()I -/
def bt_X12_thrown : List bi_K := [(0, [(.aload_n 0, (0, 0, 0, 0)), (.getfield 1, (12, 0, 0, 0))], (.ireturn, (0, 0, 0, 0)), [])]
/-- 86: TwinVaultsModel.tick()I -/
def bt_X12_tick : List bi_K := [(0, [(.aload_n 0, (0, 0, 0, 0)), (.iconst 0, (0, 0, 0, 0)), (.putfield 1, (12, 0, 0, 0)), (.aload_n 0, (0, 0, 0, 0)), (.dup, (0, 0, 0, 0)), (.getfield 445, (12, 5, 0, 0)), (.iconst 1, (0, 0, 0, 0)), (.iadd, (0, 0, 0, 0)), (.putfield 445, (12, 5, 0, 0)), (.aload_n 0, (0, 0, 0, 0)), (.getfield 87, (12, 34, 1, 0)), (.astore_n 1, (0, 0, 0, 0)), (.aload_n 1, (0, 0, 0, 0)), (.arraylength, (0, 0, 0, 0)), (.istore_n 2, (0, 0, 0, 0)), (.iconst 0, (0, 0, 0, 0)), (.istore_n 3, (0, 0, 0, 0))], (.nop, (0, 0, 0, 0)), [1]),
  (25, [(.iload_n 3, (0, 0, 0, 0)), (.iload_n 2, (0, 0, 0, 0))], (.if_icmp .ge 38, (0, 0, 0, 0)), [6, 2]),
  (30, [(.aload_n 1, (0, 0, 0, 0)), (.iload_n 3, (0, 0, 0, 0)), (.aaload, (0, 0, 0, 0)), (.astore 4, (0, 0, 0, 0)), (.aload 4, (0, 0, 0, 0))], (.ifnull 22, (0, 0, 0, 0)), [5, 3]),
  (40, [(.aload_n 0, (0, 0, 0, 0)), (.getfield 13, (12, 9, 1, 0)), (.aload 4, (0, 0, 0, 0)), (.getfield 131, (11, 1, 0, 0)), (.baload, (0, 0, 0, 0))], (.ifCond .eq 9, (0, 0, 0, 0)), [5, 4]),
  (53, [(.aload_n 0, (0, 0, 0, 0)), (.aload 4, (0, 0, 0, 0)), (.invokevirtual 448, (87, 1, 12, 0))], (.nop, (0, 0, 0, 0)), [5]),
  (59, [(.iinc 3 1, (0, 0, 0, 0))], (.goto (-37), (0, 0, 0, 0)), [1]),
  (65, [(.aload_n 0, (0, 0, 0, 0)), (.getfield 445, (12, 5, 0, 0))], (.ireturn, (0, 0, 0, 0)), [])]
/-- 87: TwinVaultsModel.ticks(LTwinVaultsModel$Store;)V -/
def bt_X12_ticks : List bi_K := [(0, [(.aload_n 1, (0, 0, 0, 0)), (.getfield 305, (11, 2, 0, 0)), (.iconst 1, (0, 0, 0, 0))], (.if_icmp .ne 52, (0, 0, 0, 0)), [7, 1]),
  (8, [(.aload_n 0, (0, 0, 0, 0)), (.getfield 442, (12, 4, 0, 0))], (.ifCond .le 45, (0, 0, 0, 0)), [7, 2]),
  (15, [(.aload_n 0, (0, 0, 0, 0)), (.getfield 445, (12, 5, 0, 0)), (.aload_n 0, (0, 0, 0, 0)), (.getfield 442, (12, 4, 0, 0)), (.irem, (0, 0, 0, 0))], (.ifCond .ne 33, (0, 0, 0, 0)), [7, 3]),
  (27, [(.aload_n 1, (0, 0, 0, 0)), (.getfield 144, (11, 4, 0, 0)), (.aload_n 1, (0, 0, 0, 0)), (.invokevirtual 433, (14, 0, 11, 0))], (.if_icmp .eq 22, (0, 0, 0, 0)), [7, 4]),
  (38, [(.aload_n 1, (0, 0, 0, 0)), (.getfield 198, (11, 13, 0, 0)), (.sipush 4095, (0, 0, 0, 0))], (.if_icmp .ge 12, (0, 0, 0, 0)), [7, 5]),
  (48, [(.aload_n 0, (0, 0, 0, 0)), (.aload_n 1, (0, 0, 0, 0)), (.invokevirtual 436, (84, 1, 12, 0))], (.ifCond .ne 4, (0, 0, 0, 0)), [7, 6]),
  (56, [], (.return_, (0, 0, 0, 0)), []),
  (57, [(.aload_n 1, (0, 0, 0, 0)), (.getfield 305, (11, 2, 0, 0)), (.iconst 3, (0, 0, 0, 0))], (.if_icmp .ne 50, (0, 0, 0, 0)), [13, 8]),
  (65, [(.aload_n 1, (0, 0, 0, 0)), (.getfield 341, (11, 21, 2, 0))], (.ifCond .ne 4, (0, 0, 0, 0)), [10, 9]),
  (72, [], (.return_, (0, 0, 0, 0)), []),
  (73, [(.aload_n 1, (0, 0, 0, 0)), (.dup, (0, 0, 0, 0)), (.getfield 280, (11, 20, 0, 0)), (.iconst 1, (0, 0, 0, 0)), (.iadd, (0, 0, 0, 0)), (.putfield 280, (11, 20, 0, 0)), (.aload_n 1, (0, 0, 0, 0)), (.getfield 280, (11, 20, 0, 0)), (.bipush 8, (0, 0, 0, 0))], (.if_icmp .ge 4, (0, 0, 0, 0)), [12, 11]),
  (92, [], (.return_, (0, 0, 0, 0)), []),
  (93, [(.aload_n 1, (0, 0, 0, 0)), (.iconst 0, (0, 0, 0, 0)), (.putfield 280, (11, 20, 0, 0)), (.aload_n 0, (0, 0, 0, 0)), (.aload_n 1, (0, 0, 0, 0)), (.bipush 10, (0, 0, 0, 0)), (.iconst 0, (0, 0, 0, 0)), (.iconst 0, (0, 0, 0, 0)), (.iconst 0, (0, 0, 0, 0)), (.iconst 0, (0, 0, 0, 0)), (.invokevirtual 287, (73, 6, 12, 0))], (.goto 15, (0, 0, 0, 0)), [15]),
  (112, [(.aload_n 1, (0, 0, 0, 0)), (.getfield 305, (11, 2, 0, 0))], (.ifCond .eq 8, (0, 0, 0, 0)), [15, 14]),
  (119, [(.aload_n 0, (0, 0, 0, 0)), (.aload_n 1, (0, 0, 0, 0)), (.invokevirtual 451, (28, 1, 12, 0))], (.nop, (0, 0, 0, 0)), [15]),
  (124, [], (.return_, (0, 0, 0, 0)), [])]
/-- 88: TwinVaultsModel.total(I)I -/
def bt_X12_total : List bi_K := [(0, [(.aload_n 0, (0, 0, 0, 0)), (.iconst 0, (0, 0, 0, 0)), (.putfield 1, (12, 0, 0, 0)), (.iload_n 1, (0, 0, 0, 0))], (.tableswitch 68 0 5 #[38, 43, 48, 53, 58, 63], (0, 0, 0, 0)), [7, 1, 2, 3, 4, 5, 6]),
  (44, [(.aload_n 0, (0, 0, 0, 0)), (.getfield 445, (12, 5, 0, 0))], (.ireturn, (0, 0, 0, 0)), []),
  (49, [(.aload_n 0, (0, 0, 0, 0)), (.getfield 168, (12, 6, 0, 0))], (.ireturn, (0, 0, 0, 0)), []),
  (54, [(.aload_n 0, (0, 0, 0, 0)), (.getfield 419, (12, 14, 0, 0))], (.ireturn, (0, 0, 0, 0)), []),
  (59, [(.aload_n 0, (0, 0, 0, 0)), (.getfield 222, (12, 37, 0, 0))], (.ireturn, (0, 0, 0, 0)), []),
  (64, [(.aload_n 0, (0, 0, 0, 0)), (.getfield 219, (12, 7, 0, 0))], (.ireturn, (0, 0, 0, 0)), []),
  (69, [(.aload_n 0, (0, 0, 0, 0)), (.getfield 225, (12, 8, 0, 0))], (.ireturn, (0, 0, 0, 0)), []),
  (74, [(.iload_n 1, (0, 0, 0, 0)), (.bipush 10, (0, 0, 0, 0)), (.idiv, (0, 0, 0, 0)), (.iconst 1, (0, 0, 0, 0)), (.isub, (0, 0, 0, 0)), (.istore_n 2, (0, 0, 0, 0)), (.iload_n 1, (0, 0, 0, 0)), (.bipush 10, (0, 0, 0, 0))], (.if_icmp .lt 16, (0, 0, 0, 0)), [10, 8]),
  (87, [(.iload_n 2, (0, 0, 0, 0)), (.iconst 1, (0, 0, 0, 0))], (.if_icmp .gt 11, (0, 0, 0, 0)), [10, 9]),
  (92, [(.iload_n 1, (0, 0, 0, 0)), (.bipush 10, (0, 0, 0, 0)), (.irem, (0, 0, 0, 0)), (.iconst 3, (0, 0, 0, 0))], (.if_icmp .le 5, (0, 0, 0, 0)), [11, 10]),
  (100, [(.iconst (-1), (0, 0, 0, 0))], (.ireturn, (0, 0, 0, 0)), []),
  (102, [(.iload_n 1, (0, 0, 0, 0)), (.bipush 10, (0, 0, 0, 0)), (.irem, (0, 0, 0, 0))], (.tableswitch 54 0 2 #[26, 41, 48], (0, 0, 0, 0)), [18, 12, 16, 17]),
  (132, [(.aload_n 0, (0, 0, 0, 0)), (.getfield 13, (12, 9, 1, 0)), (.iload_n 2, (0, 0, 0, 0)), (.baload, (0, 0, 0, 0))], (.ifCond .eq 7, (0, 0, 0, 0)), [14, 13]),
  (141, [(.iconst 1, (0, 0, 0, 0))], (.goto 4, (0, 0, 0, 0)), [15]),
  (145, [(.iconst 0, (0, 0, 0, 0))], (.nop, (0, 0, 0, 0)), [15]),
  (146, [], (.ireturn, (0, 0, 0, 0)), []),
  (147, [(.aload_n 0, (0, 0, 0, 0)), (.getfield 17, (12, 10, 1, 0)), (.iload_n 2, (0, 0, 0, 0)), (.iaload, (0, 0, 0, 0))], (.ireturn, (0, 0, 0, 0)), []),
  (154, [(.aload_n 0, (0, 0, 0, 0)), (.iload_n 2, (0, 0, 0, 0)), (.invokevirtual 385, (41, 1, 12, 0))], (.ireturn, (0, 0, 0, 0)), []),
  (160, [(.aload_n 0, (0, 0, 0, 0)), (.getfield 21, (12, 11, 1, 0)), (.iload_n 2, (0, 0, 0, 0)), (.iaload, (0, 0, 0, 0))], (.ireturn, (0, 0, 0, 0)), [])]
/-- 89: TwinVaultsModel.up(I)I -/
def bt_X12_up : List bi_K := [(0, [(.aload_n 0, (0, 0, 0, 0)), (.iconst 0, (0, 0, 0, 0)), (.putfield 1, (12, 0, 0, 0)), (.iload_n 1, (0, 0, 0, 0)), (.invokestatic 454, (50, 1, 0, 0))], (.ifCond .ne 6, (0, 0, 0, 0)), [2, 1]),
  (12, [(.bipush (-2), (0, 0, 0, 0))], (.ireturn, (0, 0, 0, 0)), []),
  (15, [(.aload_n 0, (0, 0, 0, 0)), (.getfield 13, (12, 9, 1, 0)), (.iload_n 1, (0, 0, 0, 0)), (.baload, (0, 0, 0, 0))], (.ifCond .eq 5, (0, 0, 0, 0)), [4, 3]),
  (24, [(.iconst (-1), (0, 0, 0, 0))], (.ireturn, (0, 0, 0, 0)), []),
  (26, [(.aload_n 0, (0, 0, 0, 0)), (.getfield 13, (12, 9, 1, 0)), (.iload_n 1, (0, 0, 0, 0)), (.iconst 1, (0, 0, 0, 0)), (.bastore, (0, 0, 0, 0)), (.iconst 0, (0, 0, 0, 0)), (.istore_n 2, (0, 0, 0, 0)), (.iconst 0, (0, 0, 0, 0)), (.istore_n 3, (0, 0, 0, 0))], (.nop, (0, 0, 0, 0)), [5]),
  (37, [(.iload_n 3, (0, 0, 0, 0)), (.aload_n 0, (0, 0, 0, 0)), (.getfield 168, (12, 6, 0, 0))], (.if_icmp .ge 120, (0, 0, 0, 0)), [9, 6]),
  (45, [(.aload_n 0, (0, 0, 0, 0)), (.getfield 87, (12, 34, 1, 0)), (.iconst 4, (0, 0, 0, 0)), (.iload_n 1, (0, 0, 0, 0)), (.imul, (0, 0, 0, 0)), (.iload_n 3, (0, 0, 0, 0)), (.iadd, (0, 0, 0, 0)), (.aaload, (0, 0, 0, 0)), (.astore 4, (0, 0, 0, 0)), (.iload_n 2, (0, 0, 0, 0)), (.aload_n 0, (0, 0, 0, 0)), (.getfield 40, (12, 18, 1, 0)), (.aload 4, (0, 0, 0, 0)), (.getfield 144, (11, 4, 0, 0)), (.iaload, (0, 0, 0, 0)), (.aload_n 0, (0, 0, 0, 0)), (.getfield 40, (12, 18, 1, 0)), (.aload 4, (0, 0, 0, 0)), (.getfield 185, (11, 5, 0, 0)), (.iaload, (0, 0, 0, 0)), (.isub, (0, 0, 0, 0)), (.iadd, (0, 0, 0, 0)), (.istore_n 2, (0, 0, 0, 0)), (.aload 4, (0, 0, 0, 0)), (.getfield 144, (11, 4, 0, 0)), (.aload 4, (0, 0, 0, 0)), (.getfield 185, (11, 5, 0, 0))], (.if_icmp .eq 15, (0, 0, 0, 0)), [8, 7]),
  (94, [(.aload 4, (0, 0, 0, 0)), (.iconst 0, (0, 0, 0, 0)), (.putfield 137, (11, 32, 2, 0)), (.aload 4, (0, 0, 0, 0)), (.iconst 0, (0, 0, 0, 0)), (.putfield 147, (11, 33, 2, 0))], (.nop, (0, 0, 0, 0)), [8]),
  (106, [(.aload 4, (0, 0, 0, 0)), (.aload 4, (0, 0, 0, 0)), (.getfield 185, (11, 5, 0, 0)), (.putfield 144, (11, 4, 0, 0)), (.aload 4, (0, 0, 0, 0)), (.aload 4, (0, 0, 0, 0)), (.getfield 335, (11, 8, 0, 0)), (.putfield 265, (11, 16, 0, 0)), (.aload 4, (0, 0, 0, 0)), (.iconst 0, (0, 0, 0, 0)), (.putfield 277, (11, 17, 0, 0)), (.aload 4, (0, 0, 0, 0)), (.iconst 0, (0, 0, 0, 0)), (.putfield 294, (11, 18, 0, 0)), (.aload 4, (0, 0, 0, 0)), (.iconst 0, (0, 0, 0, 0)), (.putfield 291, (11, 19, 0, 0)), (.aload 4, (0, 0, 0, 0)), (.iconst 0, (0, 0, 0, 0)), (.putfield 280, (11, 20, 0, 0)), (.aload 4, (0, 0, 0, 0)), (.iconst 0, (0, 0, 0, 0)), (.putfield 341, (11, 21, 2, 0)), (.iinc 3 1, (0, 0, 0, 0))], (.goto (-122), (0, 0, 0, 0)), [5]),
  (162, [(.iload_n 2, (0, 0, 0, 0))], (.ireturn, (0, 0, 0, 0)), [])]
/-- 90: TwinVaultsModel.write(IIII)I -/
def bt_X12_write : List bi_K := [(0, [(.aload_n 0, (0, 0, 0, 0)), (.iconst 0, (0, 0, 0, 0)), (.putfield 1, (12, 0, 0, 0)), (.aload_n 0, (0, 0, 0, 0)), (.iload_n 1, (0, 0, 0, 0)), (.invokevirtual 407, (61, 1, 12, 0)), (.astore 5, (0, 0, 0, 0)), (.aload_n 0, (0, 0, 0, 0)), (.aload 5, (0, 0, 0, 0)), (.iload_n 2, (0, 0, 0, 0)), (.iload_n 3, (0, 0, 0, 0)), (.invokevirtual 411, (49, 3, 12, 0))], (.ifCond .eq 16, (0, 0, 0, 0)), [2, 1]),
  (23, [(.aload_n 0, (0, 0, 0, 0)), (.aload 5, (0, 0, 0, 0)), (.iload_n 2, (0, 0, 0, 0)), (.iload_n 3, (0, 0, 0, 0)), (.iload 4, (0, 0, 0, 0)), (.invokevirtual 415, (91, 4, 12, 0))], (.goto 5, (0, 0, 0, 0)), [3]),
  (36, [(.bipush (-2), (0, 0, 0, 0))], (.nop, (0, 0, 0, 0)), [3]),
  (38, [], (.ireturn, (0, 0, 0, 0)), [])]
/-- 91: TwinVaultsModel.writes(LTwinVaultsModel$Store;III)I -/
def bt_X12_writes : List bi_K := [(0, [(.aload_n 0, (0, 0, 0, 0)), (.getfield 13, (12, 9, 1, 0)), (.aload_n 1, (0, 0, 0, 0)), (.getfield 131, (11, 1, 0, 0)), (.baload, (0, 0, 0, 0))], (.ifCond .ne 6, (0, 0, 0, 0)), [2, 1]),
  (12, [(.bipush (-3), (0, 0, 0, 0))], (.ireturn, (0, 0, 0, 0)), []),
  (15, [(.aload_n 1, (0, 0, 0, 0)), (.getfield 305, (11, 2, 0, 0)), (.iconst 1, (0, 0, 0, 0))], (.if_icmp .eq 6, (0, 0, 0, 0)), [4, 3]),
  (23, [(.bipush (-4), (0, 0, 0, 0))], (.ireturn, (0, 0, 0, 0)), []),
  (26, [(.aload_n 0, (0, 0, 0, 0)), (.getfield 419, (12, 14, 0, 0)), (.ldc_w 421, (60000, 0, 0, 0))], (.if_icmp .ne 6, (0, 0, 0, 0)), [6, 5]),
  (36, [(.bipush (-5), (0, 0, 0, 0))], (.ireturn, (0, 0, 0, 0)), []),
  (39, [(.aload_n 0, (0, 0, 0, 0)), (.getfield 40, (12, 18, 1, 0)), (.aload_n 1, (0, 0, 0, 0)), (.getfield 144, (11, 4, 0, 0)), (.iaload, (0, 0, 0, 0)), (.aload_n 0, (0, 0, 0, 0)), (.getfield 40, (12, 18, 1, 0)), (.aload_n 1, (0, 0, 0, 0)), (.getfield 185, (11, 5, 0, 0)), (.iaload, (0, 0, 0, 0)), (.isub, (0, 0, 0, 0)), (.bipush 64, (0, 0, 0, 0))], (.if_icmp .ne 14, (0, 0, 0, 0)), [9, 7]),
  (63, [(.aload_n 0, (0, 0, 0, 0)), (.aload_n 1, (0, 0, 0, 0)), (.invokevirtual 422, (38, 1, 12, 0))], (.ifCond .ne 6, (0, 0, 0, 0)), [9, 8]),
  (71, [(.bipush (-3), (0, 0, 0, 0))], (.ireturn, (0, 0, 0, 0)), []),
  (74, [(.aload_n 0, (0, 0, 0, 0)), (.aload_n 1, (0, 0, 0, 0)), (.getfield 131, (11, 1, 0, 0)), (.invokevirtual 385, (41, 1, 12, 0))], (.ifCond .gt 6, (0, 0, 0, 0)), [11, 10]),
  (85, [(.bipush (-6), (0, 0, 0, 0))], (.ireturn, (0, 0, 0, 0)), []),
  (88, [(.aload_n 0, (0, 0, 0, 0)), (.aload_n 1, (0, 0, 0, 0)), (.invokevirtual 426, (53, 1, 12, 0)), (.aload_n 0, (0, 0, 0, 0)), (.dup, (0, 0, 0, 0)), (.getfield 419, (12, 14, 0, 0)), (.iconst 1, (0, 0, 0, 0)), (.iadd, (0, 0, 0, 0)), (.putfield 419, (12, 14, 0, 0)), (.aload_n 0, (0, 0, 0, 0)), (.getfield 31, (12, 15, 1, 0)), (.aload_n 0, (0, 0, 0, 0)), (.getfield 419, (12, 14, 0, 0)), (.aload_n 1, (0, 0, 0, 0)), (.getfield 144, (11, 4, 0, 0)), (.iastore, (0, 0, 0, 0)), (.aload_n 0, (0, 0, 0, 0)), (.getfield 34, (12, 16, 1, 0)), (.aload_n 0, (0, 0, 0, 0)), (.getfield 419, (12, 14, 0, 0)), (.iload_n 2, (0, 0, 0, 0)), (.aload_n 0, (0, 0, 0, 0)), (.getfield 27, (12, 13, 1, 0)), (.aload_n 1, (0, 0, 0, 0)), (.getfield 134, (11, 0, 0, 0)), (.iaload, (0, 0, 0, 0)), (.imul, (0, 0, 0, 0)), (.iload_n 3, (0, 0, 0, 0)), (.iadd, (0, 0, 0, 0)), (.iastore, (0, 0, 0, 0)), (.aload_n 0, (0, 0, 0, 0)), (.getfield 37, (12, 17, 1, 0)), (.aload_n 0, (0, 0, 0, 0)), (.getfield 419, (12, 14, 0, 0)), (.iload 4, (0, 0, 0, 0)), (.iastore, (0, 0, 0, 0)), (.aload_n 0, (0, 0, 0, 0)), (.getfield 40, (12, 18, 1, 0)), (.aload_n 0, (0, 0, 0, 0)), (.getfield 419, (12, 14, 0, 0)), (.aload_n 0, (0, 0, 0, 0)), (.getfield 40, (12, 18, 1, 0)), (.aload_n 1, (0, 0, 0, 0)), (.getfield 144, (11, 4, 0, 0)), (.iaload, (0, 0, 0, 0)), (.iconst 1, (0, 0, 0, 0)), (.iadd, (0, 0, 0, 0)), (.iastore, (0, 0, 0, 0)), (.aload_n 1, (0, 0, 0, 0)), (.getfield 141, (11, 31, 1, 0)), (.aload_n 0, (0, 0, 0, 0)), (.getfield 34, (12, 16, 1, 0)), (.aload_n 0, (0, 0, 0, 0)), (.getfield 419, (12, 14, 0, 0)), (.iaload, (0, 0, 0, 0)), (.iaload, (0, 0, 0, 0)), (.istore 5, (0, 0, 0, 0)), (.iload 5, (0, 0, 0, 0))], (.ifCond .eq 22, (0, 0, 0, 0)), [13, 12]),
  (190, [(.aload_n 0, (0, 0, 0, 0)), (.getfield 40, (12, 18, 1, 0)), (.iload 5, (0, 0, 0, 0)), (.iaload, (0, 0, 0, 0)), (.aload_n 0, (0, 0, 0, 0)), (.getfield 40, (12, 18, 1, 0)), (.aload_n 1, (0, 0, 0, 0)), (.getfield 159, (11, 6, 0, 0)), (.iaload, (0, 0, 0, 0))], (.if_icmp .gt 13, (0, 0, 0, 0)), [14, 13]),
  (209, [(.aload_n 1, (0, 0, 0, 0)), (.dup, (0, 0, 0, 0)), (.getfield 150, (11, 34, 0, 0)), (.iconst 1, (0, 0, 0, 0)), (.iadd, (0, 0, 0, 0)), (.putfield 150, (11, 34, 0, 0))], (.nop, (0, 0, 0, 0)), [14]),
  (219, [(.aload_n 1, (0, 0, 0, 0)), (.getfield 141, (11, 31, 1, 0)), (.aload_n 0, (0, 0, 0, 0)), (.getfield 34, (12, 16, 1, 0)), (.aload_n 0, (0, 0, 0, 0)), (.getfield 419, (12, 14, 0, 0)), (.iaload, (0, 0, 0, 0)), (.aload_n 0, (0, 0, 0, 0)), (.getfield 419, (12, 14, 0, 0)), (.iastore, (0, 0, 0, 0)), (.aload_n 1, (0, 0, 0, 0)), (.aload_n 0, (0, 0, 0, 0)), (.getfield 419, (12, 14, 0, 0)), (.putfield 144, (11, 4, 0, 0)), (.aload_n 0, (0, 0, 0, 0)), (.getfield 40, (12, 18, 1, 0)), (.aload_n 1, (0, 0, 0, 0)), (.getfield 144, (11, 4, 0, 0)), (.iaload, (0, 0, 0, 0)), (.aload_n 0, (0, 0, 0, 0)), (.getfield 40, (12, 18, 1, 0)), (.aload_n 1, (0, 0, 0, 0)), (.getfield 185, (11, 5, 0, 0)), (.iaload, (0, 0, 0, 0)), (.isub, (0, 0, 0, 0))], (.ireturn, (0, 0, 0, 0)), [])]
/-- 92: TwinVaults$Marks.begin()V -/
def bt_X1_begin : List bi_K := [(0, [(.aload_n 0, (0, 0, 0, 0)), (.dup, (0, 0, 0, 0)), (.getfield 13, (1, 1, 0, 0)), (.iconst 1, (0, 0, 0, 0)), (.iadd, (0, 0, 0, 0)), (.putfield 13, (1, 1, 0, 0))], (.return_, (0, 0, 0, 0)), [])]
/-- 93: TwinVaults$Marks.<init>(I)V -/
def bt_X1_init : List bi_K := [(0, [(.aload_n 0, (0, 0, 0, 0)), (.invokespecial 1, (9999, 0, 0, 0)), (.aload_n 0, (0, 0, 0, 0)), (.iload_n 1, (0, 0, 0, 0)), (.newarray .int, (0, 0, 0, 0)), (.putfield 7, (1, 0, 1, 0))], (.return_, (0, 0, 0, 0)), [])]
/-- 94: TwinVaults$Marks.mark(I)I -/
def bt_X1_mark : List bi_K := [(0, [(.iload_n 1, (0, 0, 0, 0))], (.ifCond .lt 25, (0, 0, 0, 0)), [3, 1]),
  (4, [(.iload_n 1, (0, 0, 0, 0)), (.aload_n 0, (0, 0, 0, 0)), (.getfield 7, (1, 0, 1, 0)), (.arraylength, (0, 0, 0, 0))], (.if_icmp .ge 16, (0, 0, 0, 0)), [3, 2]),
  (13, [(.aload_n 0, (0, 0, 0, 0)), (.getfield 7, (1, 0, 1, 0)), (.iload_n 1, (0, 0, 0, 0)), (.iaload, (0, 0, 0, 0)), (.aload_n 0, (0, 0, 0, 0)), (.getfield 13, (1, 1, 0, 0))], (.if_icmp .ne 5, (0, 0, 0, 0)), [4, 3]),
  (26, [(.iconst 0, (0, 0, 0, 0))], (.ireturn, (0, 0, 0, 0)), []),
  (28, [(.aload_n 0, (0, 0, 0, 0)), (.getfield 7, (1, 0, 1, 0)), (.iload_n 1, (0, 0, 0, 0)), (.aload_n 0, (0, 0, 0, 0)), (.getfield 13, (1, 1, 0, 0)), (.iastore, (0, 0, 0, 0)), (.iconst 1, (0, 0, 0, 0))], (.ireturn, (0, 0, 0, 0)), [])]
/-- 95: TwinVaults$Message.<init>(LTwinVaults$Store;III)V -/
def bt_X2_init : List bi_K := [(0, [(.aload_n 0, (0, 0, 0, 0)), (.invokespecial 1, (9999, 0, 0, 0)), (.aload_n 0, (0, 0, 0, 0)), (.iload_n 2, (0, 0, 0, 0)), (.putfield 7, (2, 0, 0, 0)), (.aload_n 0, (0, 0, 0, 0)), (.aload_n 1, (0, 0, 0, 0)), (.getfield 13, (6, 0, 0, 0)), (.putfield 18, (2, 1, 0, 0)), (.aload_n 0, (0, 0, 0, 0)), (.aload_n 1, (0, 0, 0, 0)), (.getfield 21, (6, 7, 0, 0)), (.putfield 24, (2, 2, 0, 0)), (.aload_n 0, (0, 0, 0, 0)), (.iload_n 3, (0, 0, 0, 0)), (.putfield 25, (2, 3, 0, 0)), (.aload_n 0, (0, 0, 0, 0)), (.iload 4, (0, 0, 0, 0)), (.putfield 28, (2, 4, 0, 0))], (.return_, (0, 0, 0, 0)), [])]
/-- 96: TwinVaults$Message.itemCount()I -/
def bt_X2_itemCount : List bi_K := [(0, [(.aload_n 0, (0, 0, 0, 0)), (.getfield 31, (2, 8, 1, 0))], (.ifnonnull 7, (0, 0, 0, 0)), [2, 1]),
  (7, [(.iconst 0, (0, 0, 0, 0))], (.goto 10, (0, 0, 0, 0)), [3]),
  (11, [(.aload_n 0, (0, 0, 0, 0)), (.getfield 31, (2, 8, 1, 0)), (.arraylength, (0, 0, 0, 0)), (.iconst 3, (0, 0, 0, 0)), (.idiv, (0, 0, 0, 0))], (.nop, (0, 0, 0, 0)), [3]),
  (18, [], (.ireturn, (0, 0, 0, 0)), [])]
/-- 97: TwinVaults$Row.add(I)V -/
def bt_X3_add : List bi_K := [(0, [(.aload_n 0, (0, 0, 0, 0)), (.getfield 20, (3, 3, 0, 0)), (.aload_n 0, (0, 0, 0, 0)), (.getfield 7, (3, 2, 1, 0)), (.arraylength, (0, 0, 0, 0))], (.if_icmp .ge 23, (0, 0, 0, 0)), [2, 1]),
  (12, [(.aload_n 0, (0, 0, 0, 0)), (.getfield 7, (3, 2, 1, 0)), (.aload_n 0, (0, 0, 0, 0)), (.getfield 20, (3, 3, 0, 0)), (.iload_n 1, (0, 0, 0, 0)), (.iastore, (0, 0, 0, 0)), (.aload_n 0, (0, 0, 0, 0)), (.dup, (0, 0, 0, 0)), (.getfield 20, (3, 3, 0, 0)), (.iconst 1, (0, 0, 0, 0)), (.iadd, (0, 0, 0, 0)), (.putfield 20, (3, 3, 0, 0))], (.nop, (0, 0, 0, 0)), [2]),
  (32, [], (.return_, (0, 0, 0, 0)), [])]
/-- 98: TwinVaults$Row.begin(II)V -/
def bt_X3_begin : List bi_K := [(0, [(.aload_n 0, (0, 0, 0, 0)), (.iload_n 1, (0, 0, 0, 0)), (.putfield 13, (3, 0, 0, 0)), (.aload_n 0, (0, 0, 0, 0)), (.iload_n 2, (0, 0, 0, 0)), (.putfield 17, (3, 1, 0, 0)), (.aload_n 0, (0, 0, 0, 0)), (.iconst 0, (0, 0, 0, 0)), (.putfield 20, (3, 3, 0, 0))], (.return_, (0, 0, 0, 0)), [])]
/-- 99: TwinVaults$Row.<init>(I)V -/
def bt_X3_init : List bi_K := [(0, [(.aload_n 0, (0, 0, 0, 0)), (.invokespecial 1, (9999, 0, 0, 0)), (.aload_n 0, (0, 0, 0, 0)), (.iload_n 1, (0, 0, 0, 0)), (.newarray .int, (0, 0, 0, 0)), (.putfield 7, (3, 2, 1, 0))], (.return_, (0, 0, 0, 0)), [])]
/-- 100: TwinVaults$Row.sink([III)V -/
def bt_X3_sink : List bi_K := [(0, [(.aload_n 0, (0, 0, 0, 0)), (.getfield 7, (3, 2, 1, 0)), (.iload_n 2, (0, 0, 0, 0)), (.iaload, (0, 0, 0, 0)), (.istore 4, (0, 0, 0, 0)), (.iload_n 2, (0, 0, 0, 0)), (.istore 5, (0, 0, 0, 0)), (.iconst 2, (0, 0, 0, 0)), (.iload 5, (0, 0, 0, 0)), (.imul, (0, 0, 0, 0)), (.iconst 1, (0, 0, 0, 0)), (.iadd, (0, 0, 0, 0)), (.istore 6, (0, 0, 0, 0))], (.nop, (0, 0, 0, 0)), [1]),
  (19, [(.iload 6, (0, 0, 0, 0)), (.iload_n 3, (0, 0, 0, 0))], (.if_icmp .ge 85, (0, 0, 0, 0)), [8, 2]),
  (25, [(.iload 6, (0, 0, 0, 0)), (.iconst 1, (0, 0, 0, 0)), (.iadd, (0, 0, 0, 0)), (.iload_n 3, (0, 0, 0, 0))], (.if_icmp .ge 29, (0, 0, 0, 0)), [5, 3]),
  (33, [(.aload_n 1, (0, 0, 0, 0)), (.aload_n 0, (0, 0, 0, 0)), (.getfield 7, (3, 2, 1, 0)), (.iload 6, (0, 0, 0, 0)), (.iconst 1, (0, 0, 0, 0)), (.iadd, (0, 0, 0, 0)), (.iaload, (0, 0, 0, 0)), (.iaload, (0, 0, 0, 0)), (.aload_n 1, (0, 0, 0, 0)), (.aload_n 0, (0, 0, 0, 0)), (.getfield 7, (3, 2, 1, 0)), (.iload 6, (0, 0, 0, 0)), (.iaload, (0, 0, 0, 0)), (.iaload, (0, 0, 0, 0))], (.if_icmp .le 6, (0, 0, 0, 0)), [5, 4]),
  (56, [(.iinc 6 1, (0, 0, 0, 0))], (.nop, (0, 0, 0, 0)), [5]),
  (59, [(.aload_n 1, (0, 0, 0, 0)), (.aload_n 0, (0, 0, 0, 0)), (.getfield 7, (3, 2, 1, 0)), (.iload 6, (0, 0, 0, 0)), (.iaload, (0, 0, 0, 0)), (.iaload, (0, 0, 0, 0)), (.aload_n 1, (0, 0, 0, 0)), (.iload 4, (0, 0, 0, 0)), (.iaload, (0, 0, 0, 0))], (.if_icmp .gt 6, (0, 0, 0, 0)), [7, 6]),
  (75, [], (.goto 32, (0, 0, 0, 0)), [8]),
  (78, [(.aload_n 0, (0, 0, 0, 0)), (.getfield 7, (3, 2, 1, 0)), (.iload 5, (0, 0, 0, 0)), (.aload_n 0, (0, 0, 0, 0)), (.getfield 7, (3, 2, 1, 0)), (.iload 6, (0, 0, 0, 0)), (.iaload, (0, 0, 0, 0)), (.iastore, (0, 0, 0, 0)), (.iload 6, (0, 0, 0, 0)), (.istore 5, (0, 0, 0, 0)), (.iconst 2, (0, 0, 0, 0)), (.iload 5, (0, 0, 0, 0)), (.imul, (0, 0, 0, 0)), (.iconst 1, (0, 0, 0, 0)), (.iadd, (0, 0, 0, 0)), (.istore 6, (0, 0, 0, 0))], (.goto (-85), (0, 0, 0, 0)), [1]),
  (107, [(.aload_n 0, (0, 0, 0, 0)), (.getfield 7, (3, 2, 1, 0)), (.iload 5, (0, 0, 0, 0)), (.iload 4, (0, 0, 0, 0)), (.iastore, (0, 0, 0, 0))], (.return_, (0, 0, 0, 0)), [])]
/-- 101: TwinVaults$Row.sort([I)V -/
def bt_X3_sort : List bi_K := [(0, [(.aload_n 0, (0, 0, 0, 0)), (.getfield 20, (3, 3, 0, 0)), (.iconst 2, (0, 0, 0, 0)), (.idiv, (0, 0, 0, 0)), (.iconst 1, (0, 0, 0, 0)), (.isub, (0, 0, 0, 0)), (.istore_n 2, (0, 0, 0, 0))], (.nop, (0, 0, 0, 0)), [1]),
  (9, [(.iload_n 2, (0, 0, 0, 0))], (.ifCond .lt 19, (0, 0, 0, 0)), [3, 2]),
  (13, [(.aload_n 0, (0, 0, 0, 0)), (.aload_n 1, (0, 0, 0, 0)), (.iload_n 2, (0, 0, 0, 0)), (.aload_n 0, (0, 0, 0, 0)), (.getfield 20, (3, 3, 0, 0)), (.invokevirtual 23, (100, 3, 3, 0)), (.iinc 2 (-1), (0, 0, 0, 0))], (.goto (-17), (0, 0, 0, 0)), [1]),
  (29, [(.aload_n 0, (0, 0, 0, 0)), (.getfield 20, (3, 3, 0, 0)), (.iconst 1, (0, 0, 0, 0)), (.isub, (0, 0, 0, 0)), (.istore_n 2, (0, 0, 0, 0))], (.nop, (0, 0, 0, 0)), [4]),
  (36, [(.iload_n 2, (0, 0, 0, 0))], (.ifCond .le 42, (0, 0, 0, 0)), [6, 5]),
  (40, [(.aload_n 0, (0, 0, 0, 0)), (.getfield 7, (3, 2, 1, 0)), (.iconst 0, (0, 0, 0, 0)), (.iaload, (0, 0, 0, 0)), (.istore_n 3, (0, 0, 0, 0)), (.aload_n 0, (0, 0, 0, 0)), (.getfield 7, (3, 2, 1, 0)), (.iconst 0, (0, 0, 0, 0)), (.aload_n 0, (0, 0, 0, 0)), (.getfield 7, (3, 2, 1, 0)), (.iload_n 2, (0, 0, 0, 0)), (.iaload, (0, 0, 0, 0)), (.iastore, (0, 0, 0, 0)), (.aload_n 0, (0, 0, 0, 0)), (.getfield 7, (3, 2, 1, 0)), (.iload_n 2, (0, 0, 0, 0)), (.iload_n 3, (0, 0, 0, 0)), (.iastore, (0, 0, 0, 0)), (.aload_n 0, (0, 0, 0, 0)), (.aload_n 1, (0, 0, 0, 0)), (.iconst 0, (0, 0, 0, 0)), (.iload_n 2, (0, 0, 0, 0)), (.invokevirtual 23, (100, 3, 3, 0)), (.iinc 2 (-1), (0, 0, 0, 0))], (.goto (-40), (0, 0, 0, 0)), [4]),
  (79, [], (.return_, (0, 0, 0, 0)), [])]
/-- 102: TwinVaults$Site.act()Z -/
def bt_X4_act : List bi_K := [(0, [(.aload_n 0, (0, 0, 0, 0)), (.getfield 19, (4, 3, 0, 0))], (.ifCond .ne 9, (0, 0, 0, 0)), [2, 1]),
  (7, [(.aload_n 0, (0, 0, 0, 0)), (.invokevirtual 22, (104, 0, 4, 0)), (.iconst 0, (0, 0, 0, 0))], (.ireturn, (1, 0, 0, 0)), []),
  (13, [(.aload_n 0, (0, 0, 0, 0)), (.getfield 19, (4, 3, 0, 0))], (.ifCond .le 13, (0, 0, 0, 0)), [4, 3]),
  (20, [(.aload_n 0, (0, 0, 0, 0)), (.dup, (0, 0, 0, 0)), (.getfield 19, (4, 3, 0, 0)), (.iconst 1, (0, 0, 0, 0)), (.isub, (0, 0, 0, 0)), (.putfield 19, (4, 3, 0, 0))], (.nop, (0, 0, 0, 0)), [4]),
  (30, [(.aload_n 0, (0, 0, 0, 0)), (.dup, (0, 0, 0, 0)), (.getfield 25, (4, 2, 0, 0)), (.iconst 1, (0, 0, 0, 0)), (.iadd, (0, 0, 0, 0)), (.putfield 25, (4, 2, 0, 0)), (.iconst 1, (0, 0, 0, 0))], (.ireturn, (1, 0, 0, 0)), [])]
/-- 103: TwinVaults$Site.act(I)Z -/
def bt_X4_act_ : List bi_K := [(0, [(.iconst 0, (0, 0, 0, 0)), (.istore_n 2, (0, 0, 0, 0))], (.nop, (0, 0, 0, 0)), [1]),
  (2, [(.iload_n 2, (0, 0, 0, 0)), (.iload_n 1, (0, 0, 0, 0))], (.if_icmp .ge 18, (0, 0, 0, 0)), [5, 2]),
  (7, [(.aload_n 0, (0, 0, 0, 0)), (.invokevirtual 28, (102, 0, 4, 0))], (.ifCond .ne 5, (0, 0, 0, 0)), [4, 3]),
  (14, [(.iconst 0, (0, 0, 0, 0))], (.ireturn, (1, 0, 0, 0)), []),
  (16, [(.iinc 2 1, (0, 0, 0, 0))], (.goto (-17), (0, 0, 0, 0)), [1]),
  (22, [(.iconst 1, (0, 0, 0, 0))], (.ireturn, (1, 0, 0, 0)), [])]
/-- 104: TwinVaults$Site.fail()V -/
def bt_X4_fail : List bi_K := [(0, [(.aload_n 0, (0, 0, 0, 0)), (.iconst 0, (0, 0, 0, 0)), (.putfield 15, (4, 1, 2, 0)), (.aload_n 0, (0, 0, 0, 0)), (.iconst (-1), (0, 0, 0, 0)), (.putfield 19, (4, 3, 0, 0))], (.return_, (0, 0, 0, 0)), [])]
/-- 105: TwinVaults$Site.<init>(I)V -/
def bt_X4_init : List bi_K := [(0, [(.aload_n 0, (0, 0, 0, 0)), (.invokespecial 3, (9999, 0, 0, 0)), (.aload_n 0, (0, 0, 0, 0)), (.iload_n 1, (0, 0, 0, 0)), (.putfield 9, (4, 0, 0, 0)), (.aload_n 0, (0, 0, 0, 0)), (.iconst 1, (0, 0, 0, 0)), (.putfield 15, (4, 1, 2, 0)), (.aload_n 0, (0, 0, 0, 0)), (.iconst (-1), (0, 0, 0, 0)), (.putfield 19, (4, 3, 0, 0))], (.return_, (0, 0, 0, 0)), [])]
/-- 106: TwinVaults$Staging.add(I)V -/
def bt_X5_add : List bi_K := [(0, [(.aload_n 0, (0, 0, 0, 0)), (.dup, (0, 0, 0, 0)), (.getfield 40, (5, 4, 0, 0)), (.iconst 1, (0, 0, 0, 0)), (.iadd, (0, 0, 0, 0)), (.putfield 40, (5, 4, 0, 0)), (.aload_n 0, (0, 0, 0, 0)), (.dup, (0, 0, 0, 0)), (.getfield 16, (5, 5, 0, 0)), (.iload_n 1, (0, 0, 0, 0)), (.iadd, (0, 0, 0, 0)), (.putfield 16, (5, 5, 0, 0))], (.return_, (0, 0, 0, 0)), [])]
/-- 107: TwinVaults$Staging.begin(LTwinVaults$Message;)V -/
def bt_X5_begin : List bi_K := [(0, [(.aload_n 0, (0, 0, 0, 0)), (.invokevirtual 22, (108, 0, 5, 0)), (.aload_n 0, (0, 0, 0, 0)), (.aload_n 1, (0, 0, 0, 0)), (.getfield 25, (2, 3, 0, 0)), (.putfield 13, (5, 0, 0, 0)), (.aload_n 0, (0, 0, 0, 0)), (.aload_n 1, (0, 0, 0, 0)), (.getfield 30, (2, 4, 0, 0)), (.putfield 7, (5, 1, 0, 0)), (.aload_n 0, (0, 0, 0, 0)), (.aload_n 1, (0, 0, 0, 0)), (.getfield 33, (2, 5, 0, 0)), (.putfield 19, (5, 3, 0, 0)), (.aload_n 0, (0, 0, 0, 0)), (.aload_n 1, (0, 0, 0, 0)), (.getfield 36, (2, 7, 0, 0)), (.putfield 39, (5, 2, 0, 0))], (.return_, (0, 0, 0, 0)), [])]
/-- 108: TwinVaults$Staging.clear()V -/
def bt_X5_clear : List bi_K := [(0, [(.aload_n 0, (0, 0, 0, 0)), (.iconst 0, (0, 0, 0, 0)), (.putfield 13, (5, 0, 0, 0)), (.aload_n 0, (0, 0, 0, 0)), (.iconst 0, (0, 0, 0, 0)), (.putfield 7, (5, 1, 0, 0)), (.aload_n 0, (0, 0, 0, 0)), (.iconst 0, (0, 0, 0, 0)), (.putfield 39, (5, 2, 0, 0)), (.aload_n 0, (0, 0, 0, 0)), (.iconst 0, (0, 0, 0, 0)), (.putfield 19, (5, 3, 0, 0)), (.aload_n 0, (0, 0, 0, 0)), (.iconst 0, (0, 0, 0, 0)), (.putfield 40, (5, 4, 0, 0)), (.aload_n 0, (0, 0, 0, 0)), (.iconst 0, (0, 0, 0, 0)), (.putfield 16, (5, 5, 0, 0))], (.return_, (0, 0, 0, 0)), [])]
/-- 109: TwinVaults$Staging.hasAll()Z -/
def bt_X5_hasAll : List bi_K := [(0, [(.aload_n 0, (0, 0, 0, 0)), (.getfield 16, (5, 5, 0, 0)), (.aload_n 0, (0, 0, 0, 0)), (.getfield 19, (5, 3, 0, 0))], (.if_icmp .lt 7, (0, 0, 0, 0)), [2, 1]),
  (11, [(.iconst 1, (0, 0, 0, 0))], (.goto 4, (0, 0, 0, 0)), [3]),
  (15, [(.iconst 0, (0, 0, 0, 0))], (.nop, (0, 0, 0, 0)), [3]),
  (16, [], (.ireturn, (1, 0, 0, 0)), [])]
/-- 110: TwinVaults$Staging.<init>()V -/
def bt_X5_init : List bi_K := [(0, [(.aload_n 0, (0, 0, 0, 0)), (.invokespecial 1, (9999, 0, 0, 0))], (.return_, (0, 0, 0, 0)), [])]
/-- 111: TwinVaults$Staging.isOf(II)Z -/
def bt_X5_isOf : List bi_K := [(0, [(.aload_n 0, (0, 0, 0, 0)), (.getfield 7, (5, 1, 0, 0))], (.ifCond .eq 23, (0, 0, 0, 0)), [4, 1]),
  (7, [(.aload_n 0, (0, 0, 0, 0)), (.getfield 13, (5, 0, 0, 0)), (.iload_n 1, (0, 0, 0, 0))], (.if_icmp .ne 15, (0, 0, 0, 0)), [4, 2]),
  (15, [(.aload_n 0, (0, 0, 0, 0)), (.getfield 7, (5, 1, 0, 0)), (.iload_n 2, (0, 0, 0, 0))], (.if_icmp .ne 7, (0, 0, 0, 0)), [4, 3]),
  (23, [(.iconst 1, (0, 0, 0, 0))], (.goto 4, (0, 0, 0, 0)), [5]),
  (27, [(.iconst 0, (0, 0, 0, 0))], (.nop, (0, 0, 0, 0)), [5]),
  (28, [], (.ireturn, (1, 0, 0, 0)), [])]
/-- 112: TwinVaults$Store.beginEpoch(II)V -/
def bt_X6_beginEpoch : List bi_K := [(0, [(.aload_n 0, (0, 0, 0, 0)), (.iconst 1, (0, 0, 0, 0)), (.putfield 45, (6, 6, 0, 0)), (.aload_n 0, (0, 0, 0, 0)), (.iload_n 1, (0, 0, 0, 0)), (.putfield 48, (6, 7, 0, 0)), (.aload_n 0, (0, 0, 0, 0)), (.iconst 1, (0, 0, 0, 0)), (.putfield 114, (6, 8, 0, 0)), (.aload_n 0, (0, 0, 0, 0)), (.getfield 26, (6, 3, 1, 0)), (.invokevirtual 117, (108, 0, 5, 0)), (.aload_n 0, (0, 0, 0, 0)), (.getfield 19, (6, 2, 1, 0)), (.sipush 4096, (0, 0, 0, 0)), (.aload_n 0, (0, 0, 0, 0)), (.getfield 48, (6, 7, 0, 0)), (.imul, (0, 0, 0, 0)), (.aload_n 0, (0, 0, 0, 0)), (.getfield 114, (6, 8, 0, 0)), (.iadd, (0, 0, 0, 0)), (.invokevirtual 120, (149, 1, 7, 0)), (.aload_n 0, (0, 0, 0, 0)), (.iload_n 2, (0, 0, 0, 0)), (.invokevirtual 123, (121, 1, 6, 0))], (.return_, (0, 0, 0, 0)), [])]
/-- 113: TwinVaults$Store.blocks()I -/
def bt_X6_blocks : List bi_K := [(0, [(.aload_n 0, (0, 0, 0, 0)), (.getfield 19, (6, 2, 1, 0)), (.getfield 51, (7, 10, 0, 0)), (.aload_n 0, (0, 0, 0, 0)), (.getfield 26, (6, 3, 1, 0)), (.getfield 56, (5, 5, 0, 0)), (.iadd, (0, 0, 0, 0))], (.ireturn, (0, 0, 0, 0)), [])]
/-- 114: TwinVaults$Store.forgetOther()V -/
def bt_X6_forgetOther : List bi_K := [(0, [(.aload_n 0, (0, 0, 0, 0)), (.iconst 0, (0, 0, 0, 0)), (.putfield 89, (6, 9, 0, 0)), (.aload_n 0, (0, 0, 0, 0)), (.iconst 0, (0, 0, 0, 0)), (.putfield 74, (6, 10, 0, 0)), (.aload_n 0, (0, 0, 0, 0)), (.iconst 0, (0, 0, 0, 0)), (.putfield 66, (6, 14, 0, 0)), (.aload_n 0, (0, 0, 0, 0)), (.iconst 0, (0, 0, 0, 0)), (.iconst 0, (0, 0, 0, 0)), (.invokevirtual 92, (115, 2, 6, 0))], (.return_, (0, 0, 0, 0)), [])]
/-- 115: TwinVaults$Store.hold(II)V -/
def bt_X6_hold : List bi_K := [(0, [(.aload_n 0, (0, 0, 0, 0)), (.iload_n 1, (0, 0, 0, 0)), (.putfield 83, (6, 11, 0, 0)), (.aload_n 0, (0, 0, 0, 0)), (.iload_n 2, (0, 0, 0, 0)), (.putfield 86, (6, 12, 0, 0))], (.return_, (0, 0, 0, 0)), [])]
/-- 116: TwinVaults$Store.<init>(ILTwinVaults$Site;LTwinVaults$Vault;I)V -/
def bt_X6_init : List bi_K := [(0, [(.aload_n 0, (0, 0, 0, 0)), (.invokespecial 3, (9999, 0, 0, 0)), (.aload_n 0, (0, 0, 0, 0)), (.iload_n 1, (0, 0, 0, 0)), (.putfield 9, (6, 0, 0, 0)), (.aload_n 0, (0, 0, 0, 0)), (.aload_n 2, (0, 0, 0, 0)), (.putfield 15, (6, 1, 1, 0)), (.aload_n 0, (0, 0, 0, 0)), (.aload_n 3, (0, 0, 0, 0)), (.putfield 19, (6, 2, 1, 0)), (.aload_n 0, (0, 0, 0, 0)), (.new 23, (5, 7, 0, 0)), (.dup, (0, 0, 0, 0)), (.invokespecial 25, (110, 0, 5, 0)), (.putfield 26, (6, 3, 1, 0)), (.aload_n 0, (0, 0, 0, 0)), (.new 30, (3, 4, 0, 0)), (.dup, (0, 0, 0, 0)), (.iload 4, (0, 0, 0, 0)), (.invokespecial 32, (99, 1, 3, 0)), (.putfield 35, (6, 4, 1, 0)), (.aload_n 0, (0, 0, 0, 0)), (.new 30, (3, 4, 0, 0)), (.dup, (0, 0, 0, 0)), (.iload 4, (0, 0, 0, 0)), (.invokespecial 32, (99, 1, 3, 0)), (.putfield 39, (6, 5, 1, 0)), (.aload_n 0, (0, 0, 0, 0)), (.aload_n 2, (0, 0, 0, 0)), (.getfield 42, (4, 0, 0, 0))], (.ifCond .ne 7, (0, 0, 0, 0)), [2, 1]),
  (64, [(.iconst 1, (0, 0, 0, 0))], (.goto 4, (0, 0, 0, 0)), [3]),
  (68, [(.iconst 0, (0, 0, 0, 0))], (.nop, (0, 0, 0, 0)), [3]),
  (69, [(.putfield 45, (6, 6, 0, 0)), (.aload_n 0, (0, 0, 0, 0)), (.iconst 1, (0, 0, 0, 0)), (.putfield 48, (6, 7, 0, 0))], (.return_, (0, 0, 0, 0)), [])]
/-- 117: TwinVaults$Store.isPinned(I)Z -/
def bt_X6_isPinned : List bi_K := [(0, [(.iload_n 1, (0, 0, 0, 0)), (.aload_n 0, (0, 0, 0, 0)), (.getfield 19, (6, 2, 1, 0)), (.invokevirtual 96, (133, 0, 7, 0))], (.if_icmp .eq 43, (0, 0, 0, 0)), [6, 1]),
  (11, [(.iload_n 1, (0, 0, 0, 0)), (.aload_n 0, (0, 0, 0, 0)), (.getfield 89, (6, 9, 0, 0))], (.if_icmp .eq 35, (0, 0, 0, 0)), [6, 2]),
  (19, [(.iload_n 1, (0, 0, 0, 0)), (.aload_n 0, (0, 0, 0, 0)), (.getfield 74, (6, 10, 0, 0))], (.if_icmp .eq 27, (0, 0, 0, 0)), [6, 3]),
  (27, [(.iload_n 1, (0, 0, 0, 0)), (.aload_n 0, (0, 0, 0, 0)), (.getfield 66, (6, 14, 0, 0))], (.if_icmp .eq 19, (0, 0, 0, 0)), [6, 4]),
  (35, [(.iload_n 1, (0, 0, 0, 0)), (.aload_n 0, (0, 0, 0, 0)), (.getfield 83, (6, 11, 0, 0))], (.if_icmp .eq 11, (0, 0, 0, 0)), [6, 5]),
  (43, [(.iload_n 1, (0, 0, 0, 0)), (.aload_n 0, (0, 0, 0, 0)), (.getfield 86, (6, 12, 0, 0))], (.if_icmp .ne 7, (0, 0, 0, 0)), [7, 6]),
  (51, [(.iconst 1, (0, 0, 0, 0))], (.goto 4, (0, 0, 0, 0)), [8]),
  (55, [(.iconst 0, (0, 0, 0, 0))], (.nop, (0, 0, 0, 0)), [8]),
  (56, [], (.ireturn, (1, 0, 0, 0)), [])]
/-- 118: TwinVaults$Store.isSource()Z -/
def bt_X6_isSource : List bi_K := [(0, [(.aload_n 0, (0, 0, 0, 0)), (.getfield 45, (6, 6, 0, 0)), (.iconst 1, (0, 0, 0, 0))], (.if_icmp .eq 11, (0, 0, 0, 0)), [2, 1]),
  (8, [(.aload_n 0, (0, 0, 0, 0)), (.getfield 45, (6, 6, 0, 0)), (.iconst 2, (0, 0, 0, 0))], (.if_icmp .ne 7, (0, 0, 0, 0)), [3, 2]),
  (16, [(.iconst 1, (0, 0, 0, 0))], (.goto 4, (0, 0, 0, 0)), [4]),
  (20, [(.iconst 0, (0, 0, 0, 0))], (.nop, (0, 0, 0, 0)), [4]),
  (21, [], (.ireturn, (1, 0, 0, 0)), [])]
/-- 119: TwinVaults$Store.learnEpoch(I)V -/
def bt_X6_learnEpoch : List bi_K := [(0, [(.aload_n 0, (0, 0, 0, 0)), (.getfield 45, (6, 6, 0, 0)), (.iconst 2, (0, 0, 0, 0))], (.if_icmp .ne 23, (0, 0, 0, 0)), [3, 1]),
  (8, [(.aload_n 0, (0, 0, 0, 0)), (.getfield 126, (6, 13, 0, 0)), (.iload_n 1, (0, 0, 0, 0))], (.if_icmp .ne 15, (0, 0, 0, 0)), [3, 2]),
  (16, [(.aload_n 0, (0, 0, 0, 0)), (.iconst 0, (0, 0, 0, 0)), (.putfield 45, (6, 6, 0, 0)), (.aload_n 0, (0, 0, 0, 0)), (.invokevirtual 129, (114, 0, 6, 0))], (.goto 15, (0, 0, 0, 0)), [5]),
  (28, [(.aload_n 0, (0, 0, 0, 0)), (.invokevirtual 59, (118, 0, 6, 0))], (.ifCond .eq 8, (0, 0, 0, 0)), [5, 4]),
  (35, [(.aload_n 0, (0, 0, 0, 0)), (.iconst 3, (0, 0, 0, 0)), (.putfield 45, (6, 6, 0, 0))], (.nop, (0, 0, 0, 0)), [5]),
  (40, [(.aload_n 0, (0, 0, 0, 0)), (.iconst 0, (0, 0, 0, 0)), (.putfield 126, (6, 13, 0, 0)), (.aload_n 0, (0, 0, 0, 0)), (.iload_n 1, (0, 0, 0, 0)), (.putfield 48, (6, 7, 0, 0)), (.aload_n 0, (0, 0, 0, 0)), (.iconst 0, (0, 0, 0, 0)), (.putfield 114, (6, 8, 0, 0)), (.aload_n 0, (0, 0, 0, 0)), (.iconst 0, (0, 0, 0, 0)), (.putfield 63, (6, 15, 0, 0)), (.aload_n 0, (0, 0, 0, 0)), (.getfield 26, (6, 3, 1, 0)), (.invokevirtual 117, (108, 0, 5, 0))], (.return_, (0, 0, 0, 0)), [])]
/-- 120: TwinVaults$Store.sends(LTwinVaults$Message;I)Z -/
def bt_X6_sends : List bi_K := [(0, [(.aload_n 0, (0, 0, 0, 0)), (.invokevirtual 59, (118, 0, 6, 0))], (.ifCond .eq 37, (0, 0, 0, 0)), [5, 1]),
  (7, [(.aload_n 0, (0, 0, 0, 0)), (.getfield 63, (6, 15, 0, 0)), (.iload_n 2, (0, 0, 0, 0))], (.if_icmp .ne 29, (0, 0, 0, 0)), [5, 2]),
  (15, [(.aload_n 0, (0, 0, 0, 0)), (.getfield 66, (6, 14, 0, 0)), (.aload_n 1, (0, 0, 0, 0)), (.getfield 69, (2, 3, 0, 0))], (.if_icmp .ne 18, (0, 0, 0, 0)), [5, 3]),
  (26, [(.aload_n 0, (0, 0, 0, 0)), (.getfield 74, (6, 10, 0, 0)), (.aload_n 1, (0, 0, 0, 0)), (.getfield 77, (2, 4, 0, 0))], (.if_icmp .ne 7, (0, 0, 0, 0)), [5, 4]),
  (37, [(.iconst 1, (0, 0, 0, 0))], (.goto 4, (0, 0, 0, 0)), [6]),
  (41, [(.iconst 0, (0, 0, 0, 0))], (.nop, (0, 0, 0, 0)), [6]),
  (42, [], (.ireturn, (1, 0, 0, 0)), [])]
/-- 121: TwinVaults$Store.thin(I)V -/
def bt_X6_thin : List bi_K := [(0, [(.iconst 0, (0, 0, 0, 0)), (.istore_n 2, (0, 0, 0, 0)), (.aload_n 0, (0, 0, 0, 0)), (.getfield 19, (6, 2, 1, 0)), (.getfield 100, (7, 9, 0, 0)), (.istore_n 3, (0, 0, 0, 0))], (.nop, (0, 0, 0, 0)), [1]),
  (10, [(.iload_n 3, (0, 0, 0, 0))], (.ifCond .le 50, (0, 0, 0, 0)), [7, 2]),
  (14, [(.aload_n 0, (0, 0, 0, 0)), (.getfield 19, (6, 2, 1, 0)), (.getfield 100, (7, 9, 0, 0)), (.iload_n 1, (0, 0, 0, 0))], (.if_icmp .le 39, (0, 0, 0, 0)), [7, 3]),
  (25, [(.aload_n 0, (0, 0, 0, 0)), (.aload_n 0, (0, 0, 0, 0)), (.getfield 19, (6, 2, 1, 0)), (.getfield 103, (7, 7, 1, 0)), (.iload_n 2, (0, 0, 0, 0)), (.iaload, (0, 0, 0, 0)), (.invokevirtual 107, (117, 1, 6, 0))], (.ifCond .eq 9, (0, 0, 0, 0)), [5, 4]),
  (41, [(.iinc 2 1, (0, 0, 0, 0))], (.goto 11, (0, 0, 0, 0)), [6]),
  (47, [(.aload_n 0, (0, 0, 0, 0)), (.getfield 19, (6, 2, 1, 0)), (.iload_n 2, (0, 0, 0, 0)), (.invokevirtual 111, (126, 1, 7, 0))], (.nop, (0, 0, 0, 0)), [6]),
  (55, [(.iinc 3 (-1), (0, 0, 0, 0))], (.goto (-48), (0, 0, 0, 0)), [1]),
  (61, [], (.return_, (0, 0, 0, 0)), [])]
/-- 122: TwinVaults$Store.waitedEnough()Z -/
def bt_X6_waitedEnough : List bi_K := [(0, [(.aload_n 0, (0, 0, 0, 0)), (.dup, (0, 0, 0, 0)), (.getfield 80, (6, 18, 0, 0)), (.iconst 1, (0, 0, 0, 0)), (.iadd, (0, 0, 0, 0)), (.putfield 80, (6, 18, 0, 0)), (.aload_n 0, (0, 0, 0, 0)), (.getfield 80, (6, 18, 0, 0)), (.bipush 8, (0, 0, 0, 0))], (.if_icmp .lt 7, (0, 0, 0, 0)), [2, 1]),
  (19, [(.iconst 1, (0, 0, 0, 0))], (.goto 4, (0, 0, 0, 0)), [3]),
  (23, [(.iconst 0, (0, 0, 0, 0))], (.nop, (0, 0, 0, 0)), [3]),
  (24, [], (.ireturn, (1, 0, 0, 0)), [])]
/-- 123: TwinVaults$Store.wake()I -/
def bt_X6_wake : List bi_K := [(0, [(.aload_n 0, (0, 0, 0, 0)), (.aload_n 0, (0, 0, 0, 0)), (.getfield 89, (6, 9, 0, 0)), (.putfield 66, (6, 14, 0, 0)), (.aload_n 0, (0, 0, 0, 0)), (.iconst 0, (0, 0, 0, 0)), (.putfield 63, (6, 15, 0, 0)), (.aload_n 0, (0, 0, 0, 0)), (.iconst 0, (0, 0, 0, 0)), (.putfield 132, (6, 16, 0, 0)), (.aload_n 0, (0, 0, 0, 0)), (.iconst 0, (0, 0, 0, 0)), (.putfield 135, (6, 17, 0, 0)), (.aload_n 0, (0, 0, 0, 0)), (.iconst 0, (0, 0, 0, 0)), (.putfield 80, (6, 18, 0, 0)), (.aload_n 0, (0, 0, 0, 0)), (.iconst 0, (0, 0, 0, 0)), (.putfield 138, (6, 19, 2, 0)), (.aload_n 0, (0, 0, 0, 0)), (.getfield 19, (6, 2, 1, 0)), (.invokevirtual 142, (139, 0, 7, 0))], (.ireturn, (0, 0, 0, 0)), [])]
/-- 124: TwinVaults$Vault.adopt(IIZ)V -/
def bt_X7_adopt : List bi_K := [(0, [(.iload_n 3, (0, 0, 0, 0))], (.ifCond .eq 13, (0, 0, 0, 0)), [2, 1]),
  (4, [(.aload_n 0, (0, 0, 0, 0)), (.iconst 0, (0, 0, 0, 0)), (.putfield 33, (7, 9, 0, 0)), (.aload_n 0, (0, 0, 0, 0)), (.iconst 0, (0, 0, 0, 0)), (.putfield 71, (7, 10, 0, 0))], (.nop, (0, 0, 0, 0)), [2]),
  (14, [(.aload_n 0, (0, 0, 0, 0)), (.aload_n 0, (0, 0, 0, 0)), (.invokevirtual 50, (135, 0, 7, 0)), (.invokevirtual 95, (147, 1, 7, 0)), (.aload_n 0, (0, 0, 0, 0)), (.dup, (0, 0, 0, 0)), (.getfield 71, (7, 10, 0, 0)), (.aload_n 0, (0, 0, 0, 0)), (.getfield 9, (7, 0, 1, 0)), (.iload_n 2, (0, 0, 0, 0)), (.aload_n 0, (0, 0, 0, 0)), (.getfield 9, (7, 0, 1, 0)), (.getfield 36, (8, 5, 1, 0)), (.aload_n 0, (0, 0, 0, 0)), (.getfield 41, (7, 4, 0, 0)), (.iaload, (0, 0, 0, 0)), (.invokevirtual 91, (154, 2, 8, 0)), (.iadd, (0, 0, 0, 0)), (.putfield 71, (7, 10, 0, 0)), (.aload_n 0, (0, 0, 0, 0)), (.iload_n 2, (0, 0, 0, 0)), (.invokevirtual 99, (125, 1, 7, 0)), (.aload_n 0, (0, 0, 0, 0)), (.iload_n 2, (0, 0, 0, 0)), (.putfield 44, (7, 5, 0, 0)), (.aload_n 0, (0, 0, 0, 0)), (.iload_n 2, (0, 0, 0, 0)), (.putfield 47, (7, 6, 0, 0)), (.aload_n 0, (0, 0, 0, 0)), (.iload_n 1, (0, 0, 0, 0)), (.invokevirtual 102, (149, 1, 7, 0))], (.return_, (0, 0, 0, 0)), [])]
/-- 125: TwinVaults$Vault.advance(I)V -/
def bt_X7_advance : List bi_K := [(0, [(.aload_n 0, (0, 0, 0, 0)), (.getfield 9, (7, 0, 1, 0)), (.getfield 36, (8, 5, 1, 0)), (.aload_n 0, (0, 0, 0, 0)), (.getfield 41, (7, 4, 0, 0)), (.iaload, (0, 0, 0, 0)), (.istore_n 2, (0, 0, 0, 0)), (.iload_n 1, (0, 0, 0, 0)), (.istore_n 3, (0, 0, 0, 0)), (.aload_n 0, (0, 0, 0, 0)), (.getfield 9, (7, 0, 1, 0)), (.getfield 36, (8, 5, 1, 0)), (.iload_n 1, (0, 0, 0, 0)), (.iaload, (0, 0, 0, 0)), (.iload_n 2, (0, 0, 0, 0)), (.isub, (0, 0, 0, 0)), (.istore 4, (0, 0, 0, 0))], (.nop, (0, 0, 0, 0)), [1]),
  (28, [(.iload 4, (0, 0, 0, 0))], (.ifCond .le 57, (0, 0, 0, 0)), [5, 2]),
  (33, [(.aload_n 0, (0, 0, 0, 0)), (.getfield 9, (7, 0, 1, 0)), (.getfield 105, (8, 1, 1, 0)), (.iload_n 3, (0, 0, 0, 0)), (.iaload, (0, 0, 0, 0)), (.istore 5, (0, 0, 0, 0)), (.aload_n 0, (0, 0, 0, 0)), (.getfield 9, (7, 0, 1, 0)), (.getfield 36, (8, 5, 1, 0)), (.aload_n 0, (0, 0, 0, 0)), (.getfield 16, (7, 3, 1, 0)), (.iload 5, (0, 0, 0, 0)), (.iaload, (0, 0, 0, 0)), (.iaload, (0, 0, 0, 0)), (.iload_n 2, (0, 0, 0, 0))], (.if_icmp .gt 11, (0, 0, 0, 0)), [4, 3]),
  (63, [(.aload_n 0, (0, 0, 0, 0)), (.getfield 16, (7, 3, 1, 0)), (.iload 5, (0, 0, 0, 0)), (.iload_n 3, (0, 0, 0, 0)), (.iastore, (0, 0, 0, 0))], (.nop, (0, 0, 0, 0)), [4]),
  (71, [(.aload_n 0, (0, 0, 0, 0)), (.getfield 9, (7, 0, 1, 0)), (.getfield 81, (8, 3, 1, 0)), (.iload_n 3, (0, 0, 0, 0)), (.iaload, (0, 0, 0, 0)), (.istore_n 3, (0, 0, 0, 0)), (.iinc 4 (-1), (0, 0, 0, 0))], (.goto (-56), (0, 0, 0, 0)), [1]),
  (87, [(.aload_n 0, (0, 0, 0, 0)), (.iload_n 1, (0, 0, 0, 0)), (.putfield 41, (7, 4, 0, 0))], (.return_, (0, 0, 0, 0)), [])]
/-- 126: TwinVaults$Vault.drop(I)V -/
def bt_X7_drop : List bi_K := [(0, [(.iload_n 1, (0, 0, 0, 0)), (.iconst 1, (0, 0, 0, 0)), (.iadd, (0, 0, 0, 0)), (.aload_n 0, (0, 0, 0, 0)), (.getfield 33, (7, 9, 0, 0))], (.if_icmp .ge 14, (0, 0, 0, 0)), [2, 1]),
  (10, [(.aload_n 0, (0, 0, 0, 0)), (.getfield 23, (7, 8, 1, 0)), (.iload_n 1, (0, 0, 0, 0)), (.iconst 1, (0, 0, 0, 0)), (.iadd, (0, 0, 0, 0)), (.iaload, (0, 0, 0, 0))], (.goto 7, (0, 0, 0, 0)), [3]),
  (21, [(.aload_n 0, (0, 0, 0, 0)), (.getfield 47, (7, 6, 0, 0))], (.nop, (0, 0, 0, 0)), [3]),
  (25, [(.istore_n 2, (0, 0, 0, 0)), (.aload_n 0, (0, 0, 0, 0)), (.dup, (0, 0, 0, 0)), (.getfield 71, (7, 10, 0, 0)), (.aload_n 0, (0, 0, 0, 0)), (.getfield 9, (7, 0, 1, 0)), (.iload_n 2, (0, 0, 0, 0)), (.aload_n 0, (0, 0, 0, 0)), (.iload_n 1, (0, 0, 0, 0)), (.invokevirtual 64, (136, 1, 7, 0)), (.iload_n 1, (0, 0, 0, 0))], (.ifCond .ne 7, (0, 0, 0, 0)), [5, 4]),
  (45, [(.iconst 0, (0, 0, 0, 0))], (.goto 10, (0, 0, 0, 0)), [6]),
  (49, [(.aload_n 0, (0, 0, 0, 0)), (.iload_n 1, (0, 0, 0, 0)), (.iconst 1, (0, 0, 0, 0)), (.isub, (0, 0, 0, 0)), (.invokevirtual 64, (136, 1, 7, 0))], (.nop, (0, 0, 0, 0)), [6]),
  (56, [(.invokevirtual 87, (155, 3, 8, 0)), (.isub, (0, 0, 0, 0)), (.putfield 71, (7, 10, 0, 0)), (.iload_n 1, (0, 0, 0, 0)), (.iconst 1, (0, 0, 0, 0)), (.iadd, (0, 0, 0, 0)), (.istore_n 3, (0, 0, 0, 0))], (.nop, (0, 0, 0, 0)), [7]),
  (67, [(.iload_n 3, (0, 0, 0, 0)), (.aload_n 0, (0, 0, 0, 0)), (.getfield 33, (7, 9, 0, 0))], (.if_icmp .ge 37, (0, 0, 0, 0)), [9, 8]),
  (75, [(.aload_n 0, (0, 0, 0, 0)), (.getfield 20, (7, 7, 1, 0)), (.iload_n 3, (0, 0, 0, 0)), (.iconst 1, (0, 0, 0, 0)), (.isub, (0, 0, 0, 0)), (.aload_n 0, (0, 0, 0, 0)), (.getfield 20, (7, 7, 1, 0)), (.iload_n 3, (0, 0, 0, 0)), (.iaload, (0, 0, 0, 0)), (.iastore, (0, 0, 0, 0)), (.aload_n 0, (0, 0, 0, 0)), (.getfield 23, (7, 8, 1, 0)), (.iload_n 3, (0, 0, 0, 0)), (.iconst 1, (0, 0, 0, 0)), (.isub, (0, 0, 0, 0)), (.aload_n 0, (0, 0, 0, 0)), (.getfield 23, (7, 8, 1, 0)), (.iload_n 3, (0, 0, 0, 0)), (.iaload, (0, 0, 0, 0)), (.iastore, (0, 0, 0, 0)), (.iinc 3 1, (0, 0, 0, 0))], (.goto (-39), (0, 0, 0, 0)), [7]),
  (109, [(.aload_n 0, (0, 0, 0, 0)), (.dup, (0, 0, 0, 0)), (.getfield 33, (7, 9, 0, 0)), (.iconst 1, (0, 0, 0, 0)), (.isub, (0, 0, 0, 0)), (.putfield 33, (7, 9, 0, 0))], (.return_, (0, 0, 0, 0)), [])]
/-- 127: TwinVaults$Vault.find(I)I -/
def bt_X7_find : List bi_K := [(0, [(.iconst 0, (0, 0, 0, 0)), (.istore_n 2, (0, 0, 0, 0))], (.nop, (0, 0, 0, 0)), [1]),
  (2, [(.iload_n 2, (0, 0, 0, 0)), (.aload_n 0, (0, 0, 0, 0)), (.getfield 33, (7, 9, 0, 0))], (.if_icmp .ge 21, (0, 0, 0, 0)), [5, 2]),
  (10, [(.aload_n 0, (0, 0, 0, 0)), (.getfield 20, (7, 7, 1, 0)), (.iload_n 2, (0, 0, 0, 0)), (.iaload, (0, 0, 0, 0)), (.iload_n 1, (0, 0, 0, 0))], (.if_icmp .ne 5, (0, 0, 0, 0)), [4, 3]),
  (20, [(.iload_n 2, (0, 0, 0, 0))], (.ireturn, (0, 0, 0, 0)), []),
  (22, [(.iinc 2 1, (0, 0, 0, 0))], (.goto (-23), (0, 0, 0, 0)), [1]),
  (28, [(.iconst (-1), (0, 0, 0, 0))], (.ireturn, (0, 0, 0, 0)), [])]
/-- 128: TwinVaults$Vault.hasPlace(II)Z -/
def bt_X7_hasPlace : List bi_K := [(0, [(.iload_n 1, (0, 0, 0, 0))], (.ifCond .lt 27, (0, 0, 0, 0)), [5, 1]),
  (4, [(.iload_n 1, (0, 0, 0, 0)), (.aload_n 0, (0, 0, 0, 0)), (.getfield 26, (7, 1, 0, 0))], (.if_icmp .ge 19, (0, 0, 0, 0)), [5, 2]),
  (12, [(.iload_n 2, (0, 0, 0, 0))], (.ifCond .lt 15, (0, 0, 0, 0)), [5, 3]),
  (16, [(.iload_n 2, (0, 0, 0, 0)), (.aload_n 0, (0, 0, 0, 0)), (.getfield 30, (7, 2, 0, 0))], (.if_icmp .ge 7, (0, 0, 0, 0)), [5, 4]),
  (24, [(.iconst 1, (0, 0, 0, 0))], (.goto 4, (0, 0, 0, 0)), [6]),
  (28, [(.iconst 0, (0, 0, 0, 0))], (.nop, (0, 0, 0, 0)), [6]),
  (29, [], (.ireturn, (1, 0, 0, 0)), [])]
/-- 129: TwinVaults$Vault.hasSnapshot(I)Z -/
def bt_X7_hasSnapshot : List bi_K := [(0, [(.iload_n 1, (0, 0, 0, 0))], (.ifCond .lt 15, (0, 0, 0, 0)), [3, 1]),
  (4, [(.iload_n 1, (0, 0, 0, 0)), (.aload_n 0, (0, 0, 0, 0)), (.getfield 33, (7, 9, 0, 0))], (.if_icmp .ge 7, (0, 0, 0, 0)), [3, 2]),
  (12, [(.iconst 1, (0, 0, 0, 0))], (.goto 4, (0, 0, 0, 0)), [4]),
  (16, [(.iconst 0, (0, 0, 0, 0))], (.nop, (0, 0, 0, 0)), [4]),
  (17, [], (.ireturn, (1, 0, 0, 0)), [])]
/-- 130: TwinVaults$Vault.<init>(LTwinVaults$Writes;)V -/
def bt_X7_init : List bi_K := [(0, [(.aload_n 0, (0, 0, 0, 0)), (.invokespecial 3, (9999, 0, 0, 0)), (.aload_n 0, (0, 0, 0, 0)), (.aload_n 1, (0, 0, 0, 0)), (.putfield 9, (7, 0, 1, 0)), (.aload_n 0, (0, 0, 0, 0)), (.ldc 15, (32768, 0, 0, 0)), (.newarray .int, (0, 0, 0, 0)), (.putfield 16, (7, 3, 1, 0)), (.aload_n 0, (0, 0, 0, 0)), (.bipush 16, (0, 0, 0, 0)), (.newarray .int, (0, 0, 0, 0)), (.putfield 20, (7, 7, 1, 0)), (.aload_n 0, (0, 0, 0, 0)), (.bipush 16, (0, 0, 0, 0)), (.newarray .int, (0, 0, 0, 0)), (.putfield 23, (7, 8, 1, 0))], (.return_, (0, 0, 0, 0)), [])]
/-- 131: TwinVaults$Vault.journal()I -/
def bt_X7_journal : List bi_K := [(0, [(.aload_n 0, (0, 0, 0, 0)), (.getfield 9, (7, 0, 1, 0)), (.getfield 36, (8, 5, 1, 0)), (.aload_n 0, (0, 0, 0, 0)), (.getfield 44, (7, 5, 0, 0)), (.iaload, (0, 0, 0, 0)), (.aload_n 0, (0, 0, 0, 0)), (.getfield 9, (7, 0, 1, 0)), (.getfield 36, (8, 5, 1, 0)), (.aload_n 0, (0, 0, 0, 0)), (.getfield 47, (7, 6, 0, 0)), (.iaload, (0, 0, 0, 0)), (.isub, (0, 0, 0, 0))], (.ireturn, (0, 0, 0, 0)), [])]
/-- 132: TwinVaults$Vault.keepNow()V -/
def bt_X7_keepNow : List bi_K := [(0, [(.aload_n 0, (0, 0, 0, 0)), (.dup, (0, 0, 0, 0)), (.getfield 71, (7, 10, 0, 0)), (.aload_n 0, (0, 0, 0, 0)), (.getfield 9, (7, 0, 1, 0)), (.aload_n 0, (0, 0, 0, 0)), (.getfield 41, (7, 4, 0, 0)), (.aload_n 0, (0, 0, 0, 0)), (.getfield 9, (7, 0, 1, 0)), (.getfield 36, (8, 5, 1, 0)), (.aload_n 0, (0, 0, 0, 0)), (.getfield 47, (7, 6, 0, 0)), (.iaload, (0, 0, 0, 0)), (.aload_n 0, (0, 0, 0, 0)), (.invokevirtual 84, (134, 0, 7, 0)), (.invokevirtual 87, (155, 3, 8, 0)), (.isub, (0, 0, 0, 0)), (.putfield 71, (7, 10, 0, 0)), (.aload_n 0, (0, 0, 0, 0)), (.aload_n 0, (0, 0, 0, 0)), (.getfield 41, (7, 4, 0, 0)), (.putfield 44, (7, 5, 0, 0)), (.aload_n 0, (0, 0, 0, 0)), (.aload_n 0, (0, 0, 0, 0)), (.getfield 41, (7, 4, 0, 0)), (.putfield 47, (7, 6, 0, 0))], (.return_, (0, 0, 0, 0)), [])]
/-- 133: TwinVaults$Vault.latest()I -/
def bt_X7_latest : List bi_K := [(0, [(.aload_n 0, (0, 0, 0, 0)), (.getfield 33, (7, 9, 0, 0))], (.ifCond .ne 7, (0, 0, 0, 0)), [2, 1]),
  (7, [(.iconst 0, (0, 0, 0, 0))], (.goto 14, (0, 0, 0, 0)), [3]),
  (11, [(.aload_n 0, (0, 0, 0, 0)), (.getfield 20, (7, 7, 1, 0)), (.aload_n 0, (0, 0, 0, 0)), (.getfield 33, (7, 9, 0, 0)), (.iconst 1, (0, 0, 0, 0)), (.isub, (0, 0, 0, 0)), (.iaload, (0, 0, 0, 0))], (.nop, (0, 0, 0, 0)), [3]),
  (22, [], (.ireturn, (0, 0, 0, 0)), [])]
/-- 134: TwinVaults$Vault.latestLength()I -/
def bt_X7_latestLength : List bi_K := [(0, [(.aload_n 0, (0, 0, 0, 0)), (.getfield 9, (7, 0, 1, 0)), (.getfield 36, (8, 5, 1, 0)), (.aload_n 0, (0, 0, 0, 0)), (.invokevirtual 50, (135, 0, 7, 0)), (.iaload, (0, 0, 0, 0))], (.ireturn, (0, 0, 0, 0)), [])]
/-- 135: TwinVaults$Vault.latestLine()I -/
def bt_X7_latestLine : List bi_K := [(0, [(.aload_n 0, (0, 0, 0, 0)), (.getfield 33, (7, 9, 0, 0))], (.ifCond .ne 7, (0, 0, 0, 0)), [2, 1]),
  (7, [(.iconst 0, (0, 0, 0, 0))], (.goto 14, (0, 0, 0, 0)), [3]),
  (11, [(.aload_n 0, (0, 0, 0, 0)), (.getfield 23, (7, 8, 1, 0)), (.aload_n 0, (0, 0, 0, 0)), (.getfield 33, (7, 9, 0, 0)), (.iconst 1, (0, 0, 0, 0)), (.isub, (0, 0, 0, 0)), (.iaload, (0, 0, 0, 0))], (.nop, (0, 0, 0, 0)), [3]),
  (22, [], (.ireturn, (0, 0, 0, 0)), [])]
/-- 136: TwinVaults$Vault.lengthOf(I)I -/
def bt_X7_lengthOf : List bi_K := [(0, [(.aload_n 0, (0, 0, 0, 0)), (.getfield 9, (7, 0, 1, 0)), (.getfield 36, (8, 5, 1, 0)), (.aload_n 0, (0, 0, 0, 0)), (.getfield 23, (7, 8, 1, 0)), (.iload_n 1, (0, 0, 0, 0)), (.iaload, (0, 0, 0, 0)), (.iaload, (0, 0, 0, 0))], (.ireturn, (0, 0, 0, 0)), [])]
/-- 137: TwinVaults$Vault.lengthOfId(I)I -/
def bt_X7_lengthOfId : List bi_K := [(0, [(.aload_n 0, (0, 0, 0, 0)), (.getfield 9, (7, 0, 1, 0)), (.getfield 36, (8, 5, 1, 0)), (.aload_n 0, (0, 0, 0, 0)), (.iload_n 1, (0, 0, 0, 0)), (.invokevirtual 58, (138, 1, 7, 0)), (.iaload, (0, 0, 0, 0))], (.ireturn, (0, 0, 0, 0)), [])]
/-- 138: TwinVaults$Vault.lineOf(I)I -/
def bt_X7_lineOf : List bi_K := [(0, [(.aload_n 0, (0, 0, 0, 0)), (.iload_n 1, (0, 0, 0, 0)), (.invokevirtual 54, (127, 1, 7, 0)), (.istore_n 2, (0, 0, 0, 0)), (.iload_n 2, (0, 0, 0, 0))], (.ifCond .ge 7, (0, 0, 0, 0)), [2, 1]),
  (10, [(.iconst 0, (0, 0, 0, 0))], (.goto 9, (0, 0, 0, 0)), [3]),
  (14, [(.aload_n 0, (0, 0, 0, 0)), (.getfield 23, (7, 8, 1, 0)), (.iload_n 2, (0, 0, 0, 0)), (.iaload, (0, 0, 0, 0))], (.nop, (0, 0, 0, 0)), [3]),
  (20, [], (.ireturn, (0, 0, 0, 0)), [])]
/-- 139: TwinVaults$Vault.losePending()I -/
def bt_X7_losePending : List bi_K := [(0, [(.aload_n 0, (0, 0, 0, 0)), (.invokevirtual 78, (144, 0, 7, 0)), (.istore_n 1, (0, 0, 0, 0)), (.aload_n 0, (0, 0, 0, 0)), (.getfield 9, (7, 0, 1, 0)), (.getfield 36, (8, 5, 1, 0)), (.aload_n 0, (0, 0, 0, 0)), (.getfield 47, (7, 6, 0, 0)), (.iaload, (0, 0, 0, 0)), (.istore_n 2, (0, 0, 0, 0)), (.aload_n 0, (0, 0, 0, 0)), (.dup, (0, 0, 0, 0)), (.getfield 71, (7, 10, 0, 0)), (.aload_n 0, (0, 0, 0, 0)), (.getfield 9, (7, 0, 1, 0)), (.aload_n 0, (0, 0, 0, 0)), (.getfield 41, (7, 4, 0, 0)), (.iload_n 2, (0, 0, 0, 0)), (.invokevirtual 91, (154, 2, 8, 0)), (.aload_n 0, (0, 0, 0, 0)), (.getfield 9, (7, 0, 1, 0)), (.aload_n 0, (0, 0, 0, 0)), (.getfield 44, (7, 5, 0, 0)), (.iload_n 2, (0, 0, 0, 0)), (.invokevirtual 91, (154, 2, 8, 0)), (.isub, (0, 0, 0, 0)), (.isub, (0, 0, 0, 0)), (.putfield 71, (7, 10, 0, 0)), (.aload_n 0, (0, 0, 0, 0)), (.aload_n 0, (0, 0, 0, 0)), (.getfield 44, (7, 5, 0, 0)), (.invokevirtual 95, (147, 1, 7, 0)), (.iload_n 1, (0, 0, 0, 0))], (.ireturn, (0, 0, 0, 0)), [])]
/-- 140: TwinVaults$Vault.nowIsLatest()Z -/
def bt_X7_nowIsLatest : List bi_K := [(0, [(.aload_n 0, (0, 0, 0, 0)), (.getfield 41, (7, 4, 0, 0)), (.aload_n 0, (0, 0, 0, 0)), (.invokevirtual 50, (135, 0, 7, 0))], (.if_icmp .ne 7, (0, 0, 0, 0)), [2, 1]),
  (11, [(.iconst 1, (0, 0, 0, 0))], (.goto 4, (0, 0, 0, 0)), [3]),
  (15, [(.iconst 0, (0, 0, 0, 0))], (.nop, (0, 0, 0, 0)), [3]),
  (16, [], (.ireturn, (1, 0, 0, 0)), [])]
/-- 141: TwinVaults$Vault.numberAt(I)I -/
def bt_X7_numberAt : List bi_K := [(0, [(.aload_n 0, (0, 0, 0, 0)), (.getfield 9, (7, 0, 1, 0)), (.getfield 61, (8, 2, 1, 0)), (.aload_n 0, (0, 0, 0, 0)), (.getfield 16, (7, 3, 1, 0)), (.iload_n 1, (0, 0, 0, 0)), (.iaload, (0, 0, 0, 0)), (.iaload, (0, 0, 0, 0))], (.ireturn, (0, 0, 0, 0)), [])]
/-- 142: TwinVaults$Vault.oldNumberAt(II)I -/
def bt_X7_oldNumberAt : List bi_K := [(0, [(.aload_n 0, (0, 0, 0, 0)), (.getfield 16, (7, 3, 1, 0)), (.iload_n 2, (0, 0, 0, 0)), (.iaload, (0, 0, 0, 0)), (.istore_n 3, (0, 0, 0, 0)), (.aload_n 0, (0, 0, 0, 0)), (.iload_n 1, (0, 0, 0, 0)), (.invokevirtual 64, (136, 1, 7, 0)), (.istore 4, (0, 0, 0, 0)), (.iconst 0, (0, 0, 0, 0)), (.istore 5, (0, 0, 0, 0))], (.nop, (0, 0, 0, 0)), [1]),
  (17, [(.iload 5, (0, 0, 0, 0)), (.ldc 67, (60000, 0, 0, 0))], (.if_icmp .ge 33, (0, 0, 0, 0)), [4, 2]),
  (24, [(.aload_n 0, (0, 0, 0, 0)), (.getfield 9, (7, 0, 1, 0)), (.getfield 36, (8, 5, 1, 0)), (.iload_n 3, (0, 0, 0, 0)), (.iaload, (0, 0, 0, 0)), (.iload 4, (0, 0, 0, 0))], (.if_icmp .le 19, (0, 0, 0, 0)), [4, 3]),
  (38, [(.aload_n 0, (0, 0, 0, 0)), (.getfield 9, (7, 0, 1, 0)), (.getfield 68, (8, 4, 1, 0)), (.iload_n 3, (0, 0, 0, 0)), (.iaload, (0, 0, 0, 0)), (.istore_n 3, (0, 0, 0, 0)), (.iinc 5 1, (0, 0, 0, 0))], (.goto (-34), (0, 0, 0, 0)), [1]),
  (54, [(.aload_n 0, (0, 0, 0, 0)), (.getfield 9, (7, 0, 1, 0)), (.getfield 61, (8, 2, 1, 0)), (.iload_n 3, (0, 0, 0, 0)), (.iaload, (0, 0, 0, 0))], (.ireturn, (0, 0, 0, 0)), [])]
/-- 143: TwinVaults$Vault.open(II)V -/
def bt_X7_open : List bi_K := [(0, [(.aload_n 0, (0, 0, 0, 0)), (.iload_n 1, (0, 0, 0, 0)), (.putfield 26, (7, 1, 0, 0)), (.aload_n 0, (0, 0, 0, 0)), (.iload_n 2, (0, 0, 0, 0)), (.putfield 30, (7, 2, 0, 0))], (.return_, (0, 0, 0, 0)), [])]
/-- 144: TwinVaults$Vault.pending()I -/
def bt_X7_pending : List bi_K := [(0, [(.aload_n 0, (0, 0, 0, 0)), (.getfield 9, (7, 0, 1, 0)), (.getfield 36, (8, 5, 1, 0)), (.aload_n 0, (0, 0, 0, 0)), (.getfield 41, (7, 4, 0, 0)), (.iaload, (0, 0, 0, 0)), (.aload_n 0, (0, 0, 0, 0)), (.getfield 9, (7, 0, 1, 0)), (.getfield 36, (8, 5, 1, 0)), (.aload_n 0, (0, 0, 0, 0)), (.getfield 44, (7, 5, 0, 0)), (.iaload, (0, 0, 0, 0)), (.isub, (0, 0, 0, 0))], (.ireturn, (0, 0, 0, 0)), [])]
/-- 145: TwinVaults$Vault.put(II)V -/
def bt_X7_put : List bi_K := [(0, [(.aload_n 0, (0, 0, 0, 0)), (.getfield 16, (7, 3, 1, 0)), (.iload_n 1, (0, 0, 0, 0)), (.iaload, (0, 0, 0, 0)), (.istore_n 3, (0, 0, 0, 0)), (.aload_n 0, (0, 0, 0, 0)), (.getfield 9, (7, 0, 1, 0)), (.getfield 36, (8, 5, 1, 0)), (.iload_n 3, (0, 0, 0, 0)), (.iaload, (0, 0, 0, 0)), (.aload_n 0, (0, 0, 0, 0)), (.getfield 9, (7, 0, 1, 0)), (.getfield 36, (8, 5, 1, 0)), (.aload_n 0, (0, 0, 0, 0)), (.getfield 47, (7, 6, 0, 0)), (.iaload, (0, 0, 0, 0))], (.if_icmp .gt 13, (0, 0, 0, 0)), [2, 1]),
  (31, [(.aload_n 0, (0, 0, 0, 0)), (.dup, (0, 0, 0, 0)), (.getfield 71, (7, 10, 0, 0)), (.iconst 1, (0, 0, 0, 0)), (.iadd, (0, 0, 0, 0)), (.putfield 71, (7, 10, 0, 0))], (.nop, (0, 0, 0, 0)), [2]),
  (41, [(.aload_n 0, (0, 0, 0, 0)), (.aload_n 0, (0, 0, 0, 0)), (.getfield 9, (7, 0, 1, 0)), (.aload_n 0, (0, 0, 0, 0)), (.getfield 41, (7, 4, 0, 0)), (.iload_n 1, (0, 0, 0, 0)), (.iload_n 2, (0, 0, 0, 0)), (.iload_n 3, (0, 0, 0, 0)), (.invokevirtual 74, (151, 4, 8, 0)), (.putfield 41, (7, 4, 0, 0)), (.aload_n 0, (0, 0, 0, 0)), (.getfield 16, (7, 3, 1, 0)), (.iload_n 1, (0, 0, 0, 0)), (.aload_n 0, (0, 0, 0, 0)), (.getfield 41, (7, 4, 0, 0)), (.iastore, (0, 0, 0, 0))], (.return_, (0, 0, 0, 0)), [])]
/-- 146: TwinVaults$Vault.returnTo(I)V -/
def bt_X7_returnTo : List bi_K := [(0, [(.aload_n 0, (0, 0, 0, 0)), (.iload_n 1, (0, 0, 0, 0)), (.iconst 1, (0, 0, 0, 0)), (.iadd, (0, 0, 0, 0)), (.putfield 33, (7, 9, 0, 0)), (.aload_n 0, (0, 0, 0, 0)), (.aload_n 0, (0, 0, 0, 0)), (.invokevirtual 50, (135, 0, 7, 0)), (.invokevirtual 95, (147, 1, 7, 0)), (.aload_n 0, (0, 0, 0, 0)), (.aload_n 0, (0, 0, 0, 0)), (.getfield 41, (7, 4, 0, 0)), (.putfield 44, (7, 5, 0, 0)), (.aload_n 0, (0, 0, 0, 0)), (.aload_n 0, (0, 0, 0, 0)), (.getfield 41, (7, 4, 0, 0)), (.putfield 47, (7, 6, 0, 0)), (.aload_n 0, (0, 0, 0, 0)), (.iconst 0, (0, 0, 0, 0)), (.putfield 71, (7, 10, 0, 0)), (.iconst 0, (0, 0, 0, 0)), (.istore_n 2, (0, 0, 0, 0)), (.iconst 0, (0, 0, 0, 0)), (.istore_n 3, (0, 0, 0, 0))], (.nop, (0, 0, 0, 0)), [1]),
  (40, [(.iload_n 3, (0, 0, 0, 0)), (.aload_n 0, (0, 0, 0, 0)), (.getfield 33, (7, 9, 0, 0))], (.if_icmp .ge 38, (0, 0, 0, 0)), [3, 2]),
  (48, [(.aload_n 0, (0, 0, 0, 0)), (.dup, (0, 0, 0, 0)), (.getfield 71, (7, 10, 0, 0)), (.aload_n 0, (0, 0, 0, 0)), (.getfield 9, (7, 0, 1, 0)), (.aload_n 0, (0, 0, 0, 0)), (.getfield 23, (7, 8, 1, 0)), (.iload_n 3, (0, 0, 0, 0)), (.iaload, (0, 0, 0, 0)), (.iload_n 2, (0, 0, 0, 0)), (.invokevirtual 91, (154, 2, 8, 0)), (.iadd, (0, 0, 0, 0)), (.putfield 71, (7, 10, 0, 0)), (.aload_n 0, (0, 0, 0, 0)), (.iload_n 3, (0, 0, 0, 0)), (.invokevirtual 64, (136, 1, 7, 0)), (.istore_n 2, (0, 0, 0, 0)), (.iinc 3 1, (0, 0, 0, 0))], (.goto (-40), (0, 0, 0, 0)), [1]),
  (83, [], (.return_, (0, 0, 0, 0)), [])]
/-- 147: TwinVaults$Vault.rewind(I)V -/
def bt_X7_rewind : List bi_K := [(0, [(.aload_n 0, (0, 0, 0, 0)), (.getfield 9, (7, 0, 1, 0)), (.getfield 36, (8, 5, 1, 0)), (.aload_n 0, (0, 0, 0, 0)), (.getfield 41, (7, 4, 0, 0)), (.iaload, (0, 0, 0, 0)), (.aload_n 0, (0, 0, 0, 0)), (.getfield 9, (7, 0, 1, 0)), (.getfield 36, (8, 5, 1, 0)), (.iload_n 1, (0, 0, 0, 0)), (.iaload, (0, 0, 0, 0)), (.isub, (0, 0, 0, 0)), (.istore_n 2, (0, 0, 0, 0))], (.nop, (0, 0, 0, 0)), [1]),
  (23, [(.iload_n 2, (0, 0, 0, 0))], (.ifCond .le 54, (0, 0, 0, 0)), [3, 2]),
  (27, [(.aload_n 0, (0, 0, 0, 0)), (.getfield 16, (7, 3, 1, 0)), (.aload_n 0, (0, 0, 0, 0)), (.getfield 9, (7, 0, 1, 0)), (.getfield 105, (8, 1, 1, 0)), (.aload_n 0, (0, 0, 0, 0)), (.getfield 41, (7, 4, 0, 0)), (.iaload, (0, 0, 0, 0)), (.aload_n 0, (0, 0, 0, 0)), (.getfield 9, (7, 0, 1, 0)), (.getfield 68, (8, 4, 1, 0)), (.aload_n 0, (0, 0, 0, 0)), (.getfield 41, (7, 4, 0, 0)), (.iaload, (0, 0, 0, 0)), (.iastore, (0, 0, 0, 0)), (.aload_n 0, (0, 0, 0, 0)), (.aload_n 0, (0, 0, 0, 0)), (.getfield 9, (7, 0, 1, 0)), (.getfield 81, (8, 3, 1, 0)), (.aload_n 0, (0, 0, 0, 0)), (.getfield 41, (7, 4, 0, 0)), (.iaload, (0, 0, 0, 0)), (.putfield 41, (7, 4, 0, 0)), (.iinc 2 (-1), (0, 0, 0, 0))], (.goto (-52), (0, 0, 0, 0)), [1]),
  (78, [], (.return_, (0, 0, 0, 0)), [])]
/-- 148: TwinVaults$Vault.save(I)V -/
def bt_X7_save : List bi_K := [(0, [(.aload_n 0, (0, 0, 0, 0)), (.getfield 41, (7, 4, 0, 0)), (.istore_n 2, (0, 0, 0, 0)), (.aload_n 0, (0, 0, 0, 0)), (.invokevirtual 78, (144, 0, 7, 0)), (.iload_n 1, (0, 0, 0, 0)), (.isub, (0, 0, 0, 0)), (.istore_n 3, (0, 0, 0, 0))], (.nop, (0, 0, 0, 0)), [1]),
  (12, [(.iload_n 3, (0, 0, 0, 0))], (.ifCond .le 19, (0, 0, 0, 0)), [3, 2]),
  (16, [(.aload_n 0, (0, 0, 0, 0)), (.getfield 9, (7, 0, 1, 0)), (.getfield 81, (8, 3, 1, 0)), (.iload_n 2, (0, 0, 0, 0)), (.iaload, (0, 0, 0, 0)), (.istore_n 2, (0, 0, 0, 0)), (.iinc 3 (-1), (0, 0, 0, 0))], (.goto (-17), (0, 0, 0, 0)), [1]),
  (32, [(.aload_n 0, (0, 0, 0, 0)), (.iload_n 2, (0, 0, 0, 0)), (.putfield 44, (7, 5, 0, 0))], (.return_, (0, 0, 0, 0)), [])]
/-- 149: TwinVaults$Vault.shelve(I)V -/
def bt_X7_shelve : List bi_K := [(0, [(.aload_n 0, (0, 0, 0, 0)), (.getfield 33, (7, 9, 0, 0)), (.bipush 16, (0, 0, 0, 0))], (.if_icmp .ge 36, (0, 0, 0, 0)), [2, 1]),
  (9, [(.aload_n 0, (0, 0, 0, 0)), (.getfield 20, (7, 7, 1, 0)), (.aload_n 0, (0, 0, 0, 0)), (.getfield 33, (7, 9, 0, 0)), (.iload_n 1, (0, 0, 0, 0)), (.iastore, (0, 0, 0, 0)), (.aload_n 0, (0, 0, 0, 0)), (.getfield 23, (7, 8, 1, 0)), (.aload_n 0, (0, 0, 0, 0)), (.getfield 33, (7, 9, 0, 0)), (.aload_n 0, (0, 0, 0, 0)), (.getfield 41, (7, 4, 0, 0)), (.iastore, (0, 0, 0, 0)), (.aload_n 0, (0, 0, 0, 0)), (.dup, (0, 0, 0, 0)), (.getfield 33, (7, 9, 0, 0)), (.iconst 1, (0, 0, 0, 0)), (.iadd, (0, 0, 0, 0)), (.putfield 33, (7, 9, 0, 0))], (.nop, (0, 0, 0, 0)), [2]),
  (42, [], (.return_, (0, 0, 0, 0)), [])]
/-- 150: TwinVaults$Writes.collect(LTwinVaults$Row;II)V -/
def bt_X8_collect : List bi_K := [(0, [(.aload_n 1, (0, 0, 0, 0)), (.getfield 50, (3, 0, 0, 0)), (.iload_n 2, (0, 0, 0, 0))], (.if_icmp .ne 12, (0, 0, 0, 0)), [3, 1]),
  (8, [(.aload_n 1, (0, 0, 0, 0)), (.getfield 55, (3, 1, 0, 0)), (.iload_n 3, (0, 0, 0, 0))], (.if_icmp .ne 4, (0, 0, 0, 0)), [3, 2]),
  (16, [], (.return_, (0, 0, 0, 0)), []),
  (17, [(.aload_n 1, (0, 0, 0, 0)), (.iload_n 2, (0, 0, 0, 0)), (.iload_n 3, (0, 0, 0, 0)), (.invokevirtual 58, (98, 2, 3, 0)), (.aload_n 0, (0, 0, 0, 0)), (.getfield 34, (8, 6, 1, 0)), (.invokevirtual 43, (92, 0, 1, 0)), (.iload_n 2, (0, 0, 0, 0)), (.istore 4, (0, 0, 0, 0)), (.aload_n 0, (0, 0, 0, 0)), (.getfield 25, (8, 5, 1, 0)), (.iload_n 2, (0, 0, 0, 0)), (.iaload, (0, 0, 0, 0)), (.iload_n 3, (0, 0, 0, 0)), (.isub, (0, 0, 0, 0)), (.istore 5, (0, 0, 0, 0))], (.nop, (0, 0, 0, 0)), [4]),
  (43, [(.iload 5, (0, 0, 0, 0))], (.ifCond .le 42, (0, 0, 0, 0)), [8, 5]),
  (48, [(.aload_n 0, (0, 0, 0, 0)), (.getfield 34, (8, 6, 1, 0)), (.aload_n 0, (0, 0, 0, 0)), (.getfield 10, (8, 1, 1, 0)), (.iload 4, (0, 0, 0, 0)), (.iaload, (0, 0, 0, 0)), (.invokevirtual 46, (94, 1, 1, 0)), (.iconst 1, (0, 0, 0, 0))], (.if_icmp .ne 9, (0, 0, 0, 0)), [7, 6]),
  (66, [(.aload_n 1, (0, 0, 0, 0)), (.iload 4, (0, 0, 0, 0)), (.invokevirtual 61, (97, 1, 3, 0))], (.nop, (0, 0, 0, 0)), [7]),
  (72, [(.aload_n 0, (0, 0, 0, 0)), (.getfield 19, (8, 3, 1, 0)), (.iload 4, (0, 0, 0, 0)), (.iaload, (0, 0, 0, 0)), (.istore 4, (0, 0, 0, 0)), (.iinc 5 (-1), (0, 0, 0, 0))], (.goto (-41), (0, 0, 0, 0)), [4]),
  (87, [(.aload_n 1, (0, 0, 0, 0)), (.aload_n 0, (0, 0, 0, 0)), (.getfield 10, (8, 1, 1, 0)), (.invokevirtual 64, (101, 1, 3, 0))], (.return_, (0, 0, 0, 0)), [])]
/-- 151: TwinVaults$Writes.extend(IIII)I -/
def bt_X8_extend : List bi_K := [(0, [(.aload_n 0, (0, 0, 0, 0)), (.getfield 38, (8, 0, 0, 0)), (.ldc 42, (60000, 0, 0, 0))], (.if_icmp .lt 5, (0, 0, 0, 0)), [2, 1]),
  (9, [(.iload_n 1, (0, 0, 0, 0))], (.ireturn, (0, 0, 0, 0)), []),
  (11, [(.aload_n 0, (0, 0, 0, 0)), (.dup, (0, 0, 0, 0)), (.getfield 38, (8, 0, 0, 0)), (.iconst 1, (0, 0, 0, 0)), (.iadd, (0, 0, 0, 0)), (.putfield 38, (8, 0, 0, 0)), (.aload_n 0, (0, 0, 0, 0)), (.getfield 10, (8, 1, 1, 0)), (.aload_n 0, (0, 0, 0, 0)), (.getfield 38, (8, 0, 0, 0)), (.iload_n 2, (0, 0, 0, 0)), (.iastore, (0, 0, 0, 0)), (.aload_n 0, (0, 0, 0, 0)), (.getfield 16, (8, 2, 1, 0)), (.aload_n 0, (0, 0, 0, 0)), (.getfield 38, (8, 0, 0, 0)), (.iload_n 3, (0, 0, 0, 0)), (.iastore, (0, 0, 0, 0)), (.aload_n 0, (0, 0, 0, 0)), (.getfield 19, (8, 3, 1, 0)), (.aload_n 0, (0, 0, 0, 0)), (.getfield 38, (8, 0, 0, 0)), (.iload_n 1, (0, 0, 0, 0)), (.iastore, (0, 0, 0, 0)), (.aload_n 0, (0, 0, 0, 0)), (.getfield 22, (8, 4, 1, 0)), (.aload_n 0, (0, 0, 0, 0)), (.getfield 38, (8, 0, 0, 0)), (.iload 4, (0, 0, 0, 0)), (.iastore, (0, 0, 0, 0)), (.aload_n 0, (0, 0, 0, 0)), (.getfield 25, (8, 5, 1, 0)), (.aload_n 0, (0, 0, 0, 0)), (.getfield 38, (8, 0, 0, 0)), (.aload_n 0, (0, 0, 0, 0)), (.getfield 25, (8, 5, 1, 0)), (.iload_n 1, (0, 0, 0, 0)), (.iaload, (0, 0, 0, 0)), (.iconst 1, (0, 0, 0, 0)), (.iadd, (0, 0, 0, 0)), (.iastore, (0, 0, 0, 0)), (.aload_n 0, (0, 0, 0, 0)), (.getfield 38, (8, 0, 0, 0))], (.ireturn, (0, 0, 0, 0)), [])]
/-- 152: TwinVaults$Writes.<init>()V -/
def bt_X8_init : List bi_K := [(0, [(.aload_n 0, (0, 0, 0, 0)), (.invokespecial 3, (9999, 0, 0, 0)), (.ldc 9, (60001, 0, 0, 0)), (.istore_n 1, (0, 0, 0, 0)), (.aload_n 0, (0, 0, 0, 0)), (.iload_n 1, (0, 0, 0, 0)), (.newarray .int, (0, 0, 0, 0)), (.putfield 10, (8, 1, 1, 0)), (.aload_n 0, (0, 0, 0, 0)), (.iload_n 1, (0, 0, 0, 0)), (.newarray .int, (0, 0, 0, 0)), (.putfield 16, (8, 2, 1, 0)), (.aload_n 0, (0, 0, 0, 0)), (.iload_n 1, (0, 0, 0, 0)), (.newarray .int, (0, 0, 0, 0)), (.putfield 19, (8, 3, 1, 0)), (.aload_n 0, (0, 0, 0, 0)), (.iload_n 1, (0, 0, 0, 0)), (.newarray .int, (0, 0, 0, 0)), (.putfield 22, (8, 4, 1, 0)), (.aload_n 0, (0, 0, 0, 0)), (.iload_n 1, (0, 0, 0, 0)), (.newarray .int, (0, 0, 0, 0)), (.putfield 25, (8, 5, 1, 0)), (.aload_n 0, (0, 0, 0, 0)), (.new 28, (1, 2, 0, 0)), (.dup, (0, 0, 0, 0)), (.ldc 30, (32768, 0, 0, 0)), (.invokespecial 31, (93, 1, 1, 0)), (.putfield 34, (8, 6, 1, 0))], (.return_, (0, 0, 0, 0)), [])]
/-- 153: TwinVaults$Writes.nodesBehind(II)I -/
def bt_X8_nodesBehind : List bi_K := [(0, [(.aload_n 0, (0, 0, 0, 0)), (.getfield 34, (8, 6, 1, 0)), (.invokevirtual 43, (92, 0, 1, 0)), (.iconst 0, (0, 0, 0, 0)), (.istore_n 3, (0, 0, 0, 0)), (.iload_n 1, (0, 0, 0, 0)), (.istore 4, (0, 0, 0, 0)), (.aload_n 0, (0, 0, 0, 0)), (.getfield 25, (8, 5, 1, 0)), (.iload_n 1, (0, 0, 0, 0)), (.iaload, (0, 0, 0, 0)), (.iload_n 2, (0, 0, 0, 0)), (.isub, (0, 0, 0, 0)), (.istore 5, (0, 0, 0, 0))], (.nop, (0, 0, 0, 0)), [1]),
  (22, [(.iload 5, (0, 0, 0, 0))], (.ifCond .le 96, (0, 0, 0, 0)), [3, 2]),
  (27, [(.aload_n 0, (0, 0, 0, 0)), (.getfield 10, (8, 1, 1, 0)), (.iload 4, (0, 0, 0, 0)), (.iaload, (0, 0, 0, 0)), (.bipush 16, (0, 0, 0, 0)), (.idiv, (0, 0, 0, 0)), (.istore 6, (0, 0, 0, 0)), (.sipush 2048, (0, 0, 0, 0)), (.aload_n 0, (0, 0, 0, 0)), (.getfield 10, (8, 1, 1, 0)), (.iload 4, (0, 0, 0, 0)), (.iaload, (0, 0, 0, 0)), (.sipush 256, (0, 0, 0, 0)), (.idiv, (0, 0, 0, 0)), (.iadd, (0, 0, 0, 0)), (.istore 7, (0, 0, 0, 0)), (.sipush 4096, (0, 0, 0, 0)), (.aload_n 0, (0, 0, 0, 0)), (.getfield 10, (8, 1, 1, 0)), (.iload 4, (0, 0, 0, 0)), (.iaload, (0, 0, 0, 0)), (.sipush 4096, (0, 0, 0, 0)), (.idiv, (0, 0, 0, 0)), (.iadd, (0, 0, 0, 0)), (.istore 8, (0, 0, 0, 0)), (.iload_n 3, (0, 0, 0, 0)), (.aload_n 0, (0, 0, 0, 0)), (.getfield 34, (8, 6, 1, 0)), (.iload 6, (0, 0, 0, 0)), (.invokevirtual 46, (94, 1, 1, 0)), (.aload_n 0, (0, 0, 0, 0)), (.getfield 34, (8, 6, 1, 0)), (.iload 7, (0, 0, 0, 0)), (.invokevirtual 46, (94, 1, 1, 0)), (.iadd, (0, 0, 0, 0)), (.aload_n 0, (0, 0, 0, 0)), (.getfield 34, (8, 6, 1, 0)), (.iload 8, (0, 0, 0, 0)), (.invokevirtual 46, (94, 1, 1, 0)), (.iadd, (0, 0, 0, 0)), (.iadd, (0, 0, 0, 0)), (.istore_n 3, (0, 0, 0, 0)), (.aload_n 0, (0, 0, 0, 0)), (.getfield 19, (8, 3, 1, 0)), (.iload 4, (0, 0, 0, 0)), (.iaload, (0, 0, 0, 0)), (.istore 4, (0, 0, 0, 0)), (.iinc 5 (-1), (0, 0, 0, 0))], (.goto (-95), (0, 0, 0, 0)), [1]),
  (120, [(.iload_n 3, (0, 0, 0, 0))], (.ireturn, (0, 0, 0, 0)), [])]
/-- 154: TwinVaults$Writes.placesBehind(II)I -/
def bt_X8_placesBehind : List bi_K := [(0, [(.iconst 0, (0, 0, 0, 0)), (.istore_n 3, (0, 0, 0, 0)), (.iload_n 1, (0, 0, 0, 0)), (.istore 4, (0, 0, 0, 0)), (.aload_n 0, (0, 0, 0, 0)), (.getfield 25, (8, 5, 1, 0)), (.iload_n 1, (0, 0, 0, 0)), (.iaload, (0, 0, 0, 0)), (.iload_n 2, (0, 0, 0, 0)), (.isub, (0, 0, 0, 0)), (.istore 5, (0, 0, 0, 0))], (.nop, (0, 0, 0, 0)), [1]),
  (15, [(.iload 5, (0, 0, 0, 0))], (.ifCond .le 37, (0, 0, 0, 0)), [5, 2]),
  (20, [(.aload_n 0, (0, 0, 0, 0)), (.getfield 25, (8, 5, 1, 0)), (.aload_n 0, (0, 0, 0, 0)), (.getfield 22, (8, 4, 1, 0)), (.iload 4, (0, 0, 0, 0)), (.iaload, (0, 0, 0, 0)), (.iaload, (0, 0, 0, 0)), (.iload_n 2, (0, 0, 0, 0))], (.if_icmp .gt 6, (0, 0, 0, 0)), [4, 3]),
  (36, [(.iinc 3 1, (0, 0, 0, 0))], (.nop, (0, 0, 0, 0)), [4]),
  (39, [(.aload_n 0, (0, 0, 0, 0)), (.getfield 19, (8, 3, 1, 0)), (.iload 4, (0, 0, 0, 0)), (.iaload, (0, 0, 0, 0)), (.istore 4, (0, 0, 0, 0)), (.iinc 5 (-1), (0, 0, 0, 0))], (.goto (-36), (0, 0, 0, 0)), [1]),
  (54, [(.iload_n 3, (0, 0, 0, 0))], (.ireturn, (0, 0, 0, 0)), [])]
/-- 155: TwinVaults$Writes.placesInBoth(III)I -/
def bt_X8_placesInBoth : List bi_K := [(0, [(.iconst 0, (0, 0, 0, 0)), (.istore 4, (0, 0, 0, 0)), (.iload_n 1, (0, 0, 0, 0)), (.istore 5, (0, 0, 0, 0)), (.aload_n 0, (0, 0, 0, 0)), (.getfield 25, (8, 5, 1, 0)), (.iload_n 1, (0, 0, 0, 0)), (.iaload, (0, 0, 0, 0)), (.iload_n 2, (0, 0, 0, 0)), (.isub, (0, 0, 0, 0)), (.istore 6, (0, 0, 0, 0))], (.nop, (0, 0, 0, 0)), [1]),
  (16, [(.iload 6, (0, 0, 0, 0))], (.ifCond .le 47, (0, 0, 0, 0)), [6, 2]),
  (21, [(.aload_n 0, (0, 0, 0, 0)), (.getfield 25, (8, 5, 1, 0)), (.aload_n 0, (0, 0, 0, 0)), (.getfield 22, (8, 4, 1, 0)), (.iload 5, (0, 0, 0, 0)), (.iaload, (0, 0, 0, 0)), (.iaload, (0, 0, 0, 0)), (.istore 7, (0, 0, 0, 0)), (.iload 7, (0, 0, 0, 0)), (.iload_n 3, (0, 0, 0, 0))], (.if_icmp .le 12, (0, 0, 0, 0)), [5, 3]),
  (41, [(.iload 7, (0, 0, 0, 0)), (.iload_n 2, (0, 0, 0, 0))], (.if_icmp .gt 6, (0, 0, 0, 0)), [5, 4]),
  (47, [(.iinc 4 1, (0, 0, 0, 0))], (.nop, (0, 0, 0, 0)), [5]),
  (50, [(.aload_n 0, (0, 0, 0, 0)), (.getfield 19, (8, 3, 1, 0)), (.iload 5, (0, 0, 0, 0)), (.iaload, (0, 0, 0, 0)), (.istore 5, (0, 0, 0, 0)), (.iinc 6 (-1), (0, 0, 0, 0))], (.goto (-46), (0, 0, 0, 0)), [1]),
  (65, [(.iload 4, (0, 0, 0, 0))], (.ireturn, (0, 0, 0, 0)), [])]
/-- 156: TwinVaults$Writes.told(II)I -/
def bt_X8_told : List bi_K := [(0, [(.iload_n 2, (0, 0, 0, 0))], (.ifCond .ne 14, (0, 0, 0, 0)), [2, 1]),
  (4, [(.aload_n 0, (0, 0, 0, 0)), (.getfield 10, (8, 1, 1, 0)), (.iload_n 1, (0, 0, 0, 0)), (.iaload, (0, 0, 0, 0)), (.sipush 4096, (0, 0, 0, 0)), (.idiv, (0, 0, 0, 0))], (.ireturn, (0, 0, 0, 0)), []),
  (15, [(.iload_n 2, (0, 0, 0, 0)), (.iconst 1, (0, 0, 0, 0))], (.if_icmp .ne 16, (0, 0, 0, 0)), [4, 3]),
  (20, [(.aload_n 0, (0, 0, 0, 0)), (.getfield 10, (8, 1, 1, 0)), (.iload_n 1, (0, 0, 0, 0)), (.iaload, (0, 0, 0, 0)), (.sipush 4096, (0, 0, 0, 0)), (.irem, (0, 0, 0, 0))], (.goto 9, (0, 0, 0, 0)), [5]),
  (33, [(.aload_n 0, (0, 0, 0, 0)), (.getfield 16, (8, 2, 1, 0)), (.iload_n 1, (0, 0, 0, 0)), (.iaload, (0, 0, 0, 0))], (.nop, (0, 0, 0, 0)), [5]),
  (39, [], (.ireturn, (0, 0, 0, 0)), [])]
/-- 157: TwinVaults.back(I)I -/
def bt_X9_back : List bi_K := [(0, [(.aload_n 0, (0, 0, 0, 0)), (.iload_n 1, (0, 0, 0, 0)), (.invokevirtual 76, (205, 1, 9, 0)), (.astore_n 2, (0, 0, 0, 0)), (.aload_n 2, (0, 0, 0, 0)), (.iconst 3, (0, 0, 0, 0)), (.invokestatic 116, (191, 2, 0, 0)), (.istore_n 3, (0, 0, 0, 0)), (.iload_n 3, (0, 0, 0, 0))], (.ifCond .eq 5, (0, 0, 0, 0)), [2, 1]),
  (16, [(.iload_n 3, (0, 0, 0, 0))], (.ireturn, (0, 0, 0, 0)), []),
  (18, [(.aload_n 2, (0, 0, 0, 0)), (.iconst 1, (0, 0, 0, 0)), (.putfield 166, (6, 19, 2, 0)), (.aload_n 0, (0, 0, 0, 0)), (.aload_n 2, (0, 0, 0, 0)), (.invokevirtual 181, (196, 1, 9, 0)), (.iconst 0, (0, 0, 0, 0))], (.ireturn, (0, 0, 0, 0)), [])]
/-- 158: TwinVaults.checkpoint(I)I -/
def bt_X9_checkpoint : List bi_K := [(0, [(.aload_n 0, (0, 0, 0, 0)), (.iload_n 1, (0, 0, 0, 0)), (.invokevirtual 76, (205, 1, 9, 0)), (.astore_n 2, (0, 0, 0, 0)), (.aload_n 2, (0, 0, 0, 0))], (.ifnonnull 6, (0, 0, 0, 0)), [2, 1]),
  (10, [(.bipush (-2), (0, 0, 0, 0))], (.ireturn, (0, 0, 0, 0)), []),
  (13, [(.aload_n 2, (0, 0, 0, 0)), (.getfield 95, (6, 1, 1, 0)), (.getfield 99, (4, 1, 2, 0))], (.ifCond .ne 6, (0, 0, 0, 0)), [4, 3]),
  (23, [(.bipush (-3), (0, 0, 0, 0))], (.ireturn, (0, 0, 0, 0)), []),
  (26, [(.aload_n 2, (0, 0, 0, 0)), (.getfield 95, (6, 1, 1, 0)), (.getfield 110, (4, 2, 0, 0)), (.istore_n 3, (0, 0, 0, 0)), (.aload_n 0, (0, 0, 0, 0)), (.aload_n 2, (0, 0, 0, 0)), (.invokevirtual 113, (159, 1, 9, 0))], (.ifCond .eq 15, (0, 0, 0, 0)), [6, 5]),
  (42, [(.aload_n 2, (0, 0, 0, 0)), (.getfield 95, (6, 1, 1, 0)), (.getfield 110, (4, 2, 0, 0)), (.iload_n 3, (0, 0, 0, 0)), (.isub, (0, 0, 0, 0))], (.goto 5, (0, 0, 0, 0)), [7]),
  (54, [(.bipush (-3), (0, 0, 0, 0))], (.nop, (0, 0, 0, 0)), [7]),
  (56, [], (.ireturn, (0, 0, 0, 0)), [])]
/-- 159: TwinVaults.checkpointed(LTwinVaults$Store;)Z -/
def bt_X9_checkpointed : List bi_K := [(0, [(.aload_n 1, (0, 0, 0, 0)), (.getfield 68, (6, 2, 1, 0)), (.astore_n 2, (0, 0, 0, 0)), (.aload_n 2, (0, 0, 0, 0)), (.getfield 289, (7, 4, 0, 0)), (.aload_n 2, (0, 0, 0, 0)), (.getfield 295, (7, 6, 0, 0))], (.if_icmp .ne 5, (0, 0, 0, 0)), [2, 1]),
  (16, [(.iconst 1, (0, 0, 0, 0))], (.ireturn, (1, 0, 0, 0)), []),
  (18, [(.aload_n 1, (0, 0, 0, 0)), (.getfield 95, (6, 1, 1, 0)), (.aload_n 0, (0, 0, 0, 0)), (.getfield 40, (9, 5, 1, 0)), (.aload_n 2, (0, 0, 0, 0)), (.getfield 289, (7, 4, 0, 0)), (.aload_n 0, (0, 0, 0, 0)), (.getfield 40, (9, 5, 1, 0)), (.getfield 286, (8, 5, 1, 0)), (.aload_n 2, (0, 0, 0, 0)), (.getfield 295, (7, 6, 0, 0)), (.iaload, (0, 0, 0, 0)), (.invokevirtual 371, (153, 2, 8, 0)), (.iconst 1, (0, 0, 0, 0)), (.iadd, (0, 0, 0, 0)), (.invokevirtual 374, (103, 1, 4, 0))], (.ifCond .ne 5, (0, 0, 0, 0)), [4, 3]),
  (53, [(.iconst 0, (0, 0, 0, 0))], (.ireturn, (1, 0, 0, 0)), []),
  (55, [(.aload_n 2, (0, 0, 0, 0)), (.invokevirtual 376, (132, 0, 7, 0)), (.iconst 1, (0, 0, 0, 0))], (.ireturn, (1, 0, 0, 0)), [])]
/-- 160: TwinVaults.commit(LTwinVaults$Store;)V -/
def bt_X9_commit : List bi_K := [(0, [(.aload_n 1, (0, 0, 0, 0)), (.getfield 307, (6, 3, 1, 0)), (.astore_n 2, (0, 0, 0, 0)), (.aload_n 2, (0, 0, 0, 0)), (.getfield 316, (5, 1, 0, 0)), (.istore_n 3, (0, 0, 0, 0)), (.aload_n 2, (0, 0, 0, 0)), (.getfield 425, (5, 0, 0, 0))], (.ifCond .ne 7, (0, 0, 0, 0)), [2, 1]),
  (17, [(.iconst 0, (0, 0, 0, 0))], (.goto 10, (0, 0, 0, 0)), [3]),
  (21, [(.aload_n 1, (0, 0, 0, 0)), (.getfield 68, (6, 2, 1, 0)), (.invokevirtual 482, (134, 0, 7, 0))], (.nop, (0, 0, 0, 0)), [3]),
  (28, [(.istore 4, (0, 0, 0, 0)), (.aload_n 1, (0, 0, 0, 0)), (.getfield 95, (6, 1, 1, 0)), (.aload_n 0, (0, 0, 0, 0)), (.getfield 40, (9, 5, 1, 0)), (.aload_n 2, (0, 0, 0, 0)), (.getfield 485, (5, 2, 0, 0)), (.iload 4, (0, 0, 0, 0)), (.invokevirtual 371, (153, 2, 8, 0)), (.iconst 1, (0, 0, 0, 0)), (.iadd, (0, 0, 0, 0)), (.invokevirtual 374, (103, 1, 4, 0))], (.ifCond .ne 4, (0, 0, 0, 0)), [5, 4]),
  (55, [], (.return_, (0, 0, 0, 0)), []),
  (56, [(.aload_n 1, (0, 0, 0, 0)), (.getfield 68, (6, 2, 1, 0)), (.iload_n 3, (0, 0, 0, 0)), (.aload_n 2, (0, 0, 0, 0)), (.getfield 485, (5, 2, 0, 0)), (.aload_n 2, (0, 0, 0, 0)), (.getfield 425, (5, 0, 0, 0))], (.ifCond .ne 7, (0, 0, 0, 0)), [7, 6]),
  (72, [(.iconst 1, (0, 0, 0, 0))], (.goto 4, (0, 0, 0, 0)), [8]),
  (76, [(.iconst 0, (0, 0, 0, 0))], (.nop, (0, 0, 0, 0)), [8]),
  (77, [(.invokevirtual 486, (124, 3, 7, 0)), (.aload_n 2, (0, 0, 0, 0)), (.invokevirtual 490, (108, 0, 5, 0)), (.aload_n 1, (0, 0, 0, 0)), (.aload_n 0, (0, 0, 0, 0)), (.getfield 22, (9, 1, 0, 0)), (.invokevirtual 382, (121, 1, 6, 0)), (.aload_n 0, (0, 0, 0, 0)), (.aload_n 1, (0, 0, 0, 0)), (.iconst 5, (0, 0, 0, 0)), (.iload_n 3, (0, 0, 0, 0)), (.invokevirtual 430, (192, 3, 9, 0))], (.return_, (0, 0, 0, 0)), [])]
/-- 161: TwinVaults.crash(I)Z -/
def bt_X9_crash : List bi_K := [(0, [(.iload_n 1, (0, 0, 0, 0))], (.ifCond .lt 20, (0, 0, 0, 0)), [3, 1]),
  (4, [(.iload_n 1, (0, 0, 0, 0)), (.iconst 1, (0, 0, 0, 0))], (.if_icmp .gt 15, (0, 0, 0, 0)), [3, 2]),
  (9, [(.aload_n 0, (0, 0, 0, 0)), (.getfield 30, (9, 3, 1, 0)), (.iload_n 1, (0, 0, 0, 0)), (.aaload, (0, 0, 0, 0)), (.getfield 99, (4, 1, 2, 0))], (.ifCond .ne 5, (0, 0, 0, 0)), [4, 3]),
  (21, [(.iconst 0, (0, 0, 0, 0))], (.ireturn, (1, 0, 0, 0)), []),
  (23, [(.aload_n 0, (0, 0, 0, 0)), (.getfield 30, (9, 3, 1, 0)), (.iload_n 1, (0, 0, 0, 0)), (.aaload, (0, 0, 0, 0)), (.invokevirtual 198, (104, 0, 4, 0)), (.iconst 1, (0, 0, 0, 0))], (.ireturn, (1, 0, 0, 0)), [])]
/-- 162: TwinVaults.differ(III)I -/
def bt_X9_differ : List bi_K := [(0, [(.aload_n 0, (0, 0, 0, 0)), (.iload_n 1, (0, 0, 0, 0)), (.invokevirtual 76, (205, 1, 9, 0)), (.astore 4, (0, 0, 0, 0)), (.aload 4, (0, 0, 0, 0))], (.ifnull 32, (0, 0, 0, 0)), [4, 1]),
  (12, [(.aload 4, (0, 0, 0, 0)), (.getfield 68, (6, 2, 1, 0)), (.iload_n 2, (0, 0, 0, 0)), (.invokevirtual 261, (129, 1, 7, 0))], (.ifCond .eq 20, (0, 0, 0, 0)), [4, 2]),
  (24, [(.aload 4, (0, 0, 0, 0)), (.getfield 68, (6, 2, 1, 0)), (.iload_n 3, (0, 0, 0, 0)), (.invokevirtual 261, (129, 1, 7, 0))], (.ifCond .eq 8, (0, 0, 0, 0)), [4, 3]),
  (36, [(.iload_n 2, (0, 0, 0, 0)), (.iload_n 3, (0, 0, 0, 0))], (.if_icmp .le 14, (0, 0, 0, 0)), [5, 4]),
  (41, [], (.athrow, (0, 239, 275, 243)), []),
  (52, [(.aload 4, (0, 0, 0, 0)), (.getfield 95, (6, 1, 1, 0)), (.getfield 99, (4, 1, 2, 0))], (.ifCond .ne 13, (0, 0, 0, 0)), [7, 6]),
  (63, [], (.athrow, (1, 252, 254, 256)), []),
  (73, [(.aload_n 0, (0, 0, 0, 0)), (.getfield 40, (9, 5, 1, 0)), (.aload 4, (0, 0, 0, 0)), (.getfield 68, (6, 2, 1, 0)), (.getfield 277, (7, 8, 1, 0)), (.iload_n 3, (0, 0, 0, 0)), (.iaload, (0, 0, 0, 0)), (.aload 4, (0, 0, 0, 0)), (.getfield 68, (6, 2, 1, 0)), (.iload_n 2, (0, 0, 0, 0)), (.invokevirtual 280, (136, 1, 7, 0)), (.invokevirtual 283, (154, 2, 8, 0))], (.ireturn, (0, 0, 0, 0)), [])]
/-- 163: TwinVaults.fill(IIIII)I -/
def bt_X9_fill : List bi_K := [(0, [(.aload_n 0, (0, 0, 0, 0)), (.iload_n 1, (0, 0, 0, 0)), (.invokevirtual 76, (205, 1, 9, 0)), (.astore 6, (0, 0, 0, 0)), (.aload 6, (0, 0, 0, 0))], (.ifnull 16, (0, 0, 0, 0)), [2, 1]),
  (12, [(.aload 6, (0, 0, 0, 0)), (.getfield 68, (6, 2, 1, 0)), (.iload_n 2, (0, 0, 0, 0)), (.iload_n 3, (0, 0, 0, 0)), (.invokevirtual 80, (128, 2, 7, 0))], (.ifCond .ne 6, (0, 0, 0, 0)), [3, 2]),
  (25, [(.bipush (-2), (0, 0, 0, 0))], (.ireturn, (0, 0, 0, 0)), []),
  (28, [(.iload 4, (0, 0, 0, 0)), (.iconst 1, (0, 0, 0, 0))], (.if_icmp .lt 29, (0, 0, 0, 0)), [6, 4]),
  (34, [(.iload 4, (0, 0, 0, 0)), (.sipush 4096, (0, 0, 0, 0))], (.if_icmp .gt 21, (0, 0, 0, 0)), [6, 5]),
  (42, [(.aload 6, (0, 0, 0, 0)), (.getfield 68, (6, 2, 1, 0)), (.iload_n 2, (0, 0, 0, 0)), (.iload_n 3, (0, 0, 0, 0)), (.iload 4, (0, 0, 0, 0)), (.iadd, (0, 0, 0, 0)), (.iconst 1, (0, 0, 0, 0)), (.isub, (0, 0, 0, 0)), (.invokevirtual 80, (128, 2, 7, 0))], (.ifCond .ne 6, (0, 0, 0, 0)), [7, 6]),
  (60, [(.bipush (-2), (0, 0, 0, 0))], (.ireturn, (0, 0, 0, 0)), []),
  (63, [(.iload_n 2, (0, 0, 0, 0)), (.iload_n 3, (0, 0, 0, 0)), (.invokestatic 84, (202, 2, 0, 0)), (.istore 7, (0, 0, 0, 0)), (.iconst 0, (0, 0, 0, 0)), (.istore 8, (0, 0, 0, 0))], (.nop, (0, 0, 0, 0)), [8]),
  (73, [(.iload 8, (0, 0, 0, 0)), (.iload 4, (0, 0, 0, 0))], (.if_icmp .ge 45, (0, 0, 0, 0)), [15, 9]),
  (80, [(.aload_n 0, (0, 0, 0, 0)), (.aload 6, (0, 0, 0, 0)), (.iload 7, (0, 0, 0, 0)), (.iload 8, (0, 0, 0, 0)), (.iadd, (0, 0, 0, 0)), (.iload 5, (0, 0, 0, 0)), (.iload 8, (0, 0, 0, 0)), (.iadd, (0, 0, 0, 0)), (.invokevirtual 87, (214, 3, 9, 0)), (.istore 9, (0, 0, 0, 0)), (.iload 9, (0, 0, 0, 0))], (.ifCond .eq 16, (0, 0, 0, 0)), [14, 10]),
  (103, [(.iload 8, (0, 0, 0, 0))], (.ifCond .ne 8, (0, 0, 0, 0)), [12, 11]),
  (108, [(.iload 9, (0, 0, 0, 0))], (.goto 5, (0, 0, 0, 0)), [13]),
  (113, [(.iload 8, (0, 0, 0, 0))], (.nop, (0, 0, 0, 0)), [13]),
  (115, [], (.ireturn, (0, 0, 0, 0)), []),
  (116, [(.iinc 8 1, (0, 0, 0, 0))], (.goto (-46), (0, 0, 0, 0)), [8]),
  (122, [(.iload 4, (0, 0, 0, 0))], (.ireturn, (0, 0, 0, 0)), [])]
/-- 164: TwinVaults.flush(I)I -/
def bt_X9_flush : List bi_K := [(0, [(.aload_n 0, (0, 0, 0, 0)), (.iload_n 1, (0, 0, 0, 0)), (.invokevirtual 76, (205, 1, 9, 0)), (.astore_n 2, (0, 0, 0, 0)), (.aload_n 2, (0, 0, 0, 0))], (.ifnonnull 6, (0, 0, 0, 0)), [2, 1]),
  (10, [(.bipush (-2), (0, 0, 0, 0))], (.ireturn, (0, 0, 0, 0)), []),
  (13, [(.aload_n 2, (0, 0, 0, 0)), (.getfield 95, (6, 1, 1, 0)), (.getfield 99, (4, 1, 2, 0))], (.ifCond .eq 11, (0, 0, 0, 0)), [4, 3]),
  (23, [(.aload_n 0, (0, 0, 0, 0)), (.aload_n 2, (0, 0, 0, 0)), (.invokevirtual 103, (165, 1, 9, 0))], (.ifCond .ne 6, (0, 0, 0, 0)), [5, 4]),
  (31, [(.bipush (-3), (0, 0, 0, 0))], (.ireturn, (0, 0, 0, 0)), []),
  (34, [(.aload_n 2, (0, 0, 0, 0)), (.getfield 68, (6, 2, 1, 0)), (.invokevirtual 107, (131, 0, 7, 0))], (.ireturn, (0, 0, 0, 0)), [])]
/-- 165: TwinVaults.flushed(LTwinVaults$Store;)Z -/
def bt_X9_flushed : List bi_K := [(0, [(.aload_n 1, (0, 0, 0, 0)), (.getfield 68, (6, 2, 1, 0)), (.astore_n 2, (0, 0, 0, 0)), (.aload_n 2, (0, 0, 0, 0)), (.invokevirtual 107, (131, 0, 7, 0)), (.aload_n 2, (0, 0, 0, 0)), (.invokevirtual 91, (144, 0, 7, 0)), (.iadd, (0, 0, 0, 0)), (.sipush 512, (0, 0, 0, 0))], (.if_icmp .le 9, (0, 0, 0, 0)), [2, 1]),
  (20, [(.aload_n 0, (0, 0, 0, 0)), (.aload_n 1, (0, 0, 0, 0)), (.invokevirtual 113, (159, 1, 9, 0))], (.ireturn, (1, 0, 0, 0)), []),
  (26, [(.aload_n 2, (0, 0, 0, 0)), (.invokevirtual 91, (144, 0, 7, 0)), (.istore_n 3, (0, 0, 0, 0))], (.nop, (0, 0, 0, 0)), [3]),
  (31, [(.iload_n 3, (0, 0, 0, 0))], (.ifCond .le 27, (0, 0, 0, 0)), [7, 4]),
  (35, [(.aload_n 1, (0, 0, 0, 0)), (.getfield 95, (6, 1, 1, 0)), (.invokevirtual 133, (102, 0, 4, 0))], (.ifCond .ne 5, (0, 0, 0, 0)), [6, 5]),
  (45, [(.iconst 0, (0, 0, 0, 0))], (.ireturn, (1, 0, 0, 0)), []),
  (47, [(.aload_n 2, (0, 0, 0, 0)), (.bipush 8, (0, 0, 0, 0)), (.invokevirtual 368, (148, 1, 7, 0)), (.iinc 3 (-8), (0, 0, 0, 0))], (.goto (-25), (0, 0, 0, 0)), [3]),
  (59, [(.iconst 1, (0, 0, 0, 0))], (.ireturn, (1, 0, 0, 0)), [])]
/-- 166: TwinVaults.force(I)I -/
def bt_X9_force : List bi_K := [(0, [(.aload_n 0, (0, 0, 0, 0)), (.iload_n 1, (0, 0, 0, 0)), (.invokevirtual 76, (205, 1, 9, 0)), (.astore_n 2, (0, 0, 0, 0)), (.aload_n 2, (0, 0, 0, 0))], (.ifnonnull 6, (0, 0, 0, 0)), [2, 1]),
  (10, [(.bipush (-2), (0, 0, 0, 0))], (.ireturn, (0, 0, 0, 0)), []),
  (13, [(.aload_n 2, (0, 0, 0, 0)), (.getfield 95, (6, 1, 1, 0)), (.getfield 99, (4, 1, 2, 0))], (.ifCond .ne 6, (0, 0, 0, 0)), [4, 3]),
  (23, [(.bipush (-3), (0, 0, 0, 0))], (.ireturn, (0, 0, 0, 0)), []),
  (26, [(.aload_n 2, (0, 0, 0, 0)), (.getfield 136, (6, 6, 0, 0))], (.ifCond .eq 14, (0, 0, 0, 0)), [7, 5]),
  (33, [(.aload_n 2, (0, 0, 0, 0)), (.getfield 136, (6, 6, 0, 0)), (.iconst 3, (0, 0, 0, 0))], (.if_icmp .eq 6, (0, 0, 0, 0)), [7, 6]),
  (41, [(.bipush (-4), (0, 0, 0, 0))], (.ireturn, (0, 0, 0, 0)), []),
  (44, [(.aload_n 2, (0, 0, 0, 0)), (.getfield 136, (6, 6, 0, 0)), (.iconst 3, (0, 0, 0, 0))], (.if_icmp .ne 14, (0, 0, 0, 0)), [10, 8]),
  (52, [(.aload_n 0, (0, 0, 0, 0)), (.aload_n 2, (0, 0, 0, 0)), (.invokevirtual 113, (159, 1, 9, 0))], (.ifCond .ne 6, (0, 0, 0, 0)), [10, 9]),
  (60, [(.bipush (-3), (0, 0, 0, 0))], (.ireturn, (0, 0, 0, 0)), []),
  (63, [(.aload_n 2, (0, 0, 0, 0)), (.getfield 95, (6, 1, 1, 0)), (.invokevirtual 133, (102, 0, 4, 0))], (.ifCond .ne 6, (0, 0, 0, 0)), [12, 11]),
  (73, [(.bipush (-3), (0, 0, 0, 0))], (.ireturn, (0, 0, 0, 0)), []),
  (76, [(.aload_n 2, (0, 0, 0, 0)), (.getfield 136, (6, 6, 0, 0))], (.ifCond .ne 18, (0, 0, 0, 0)), [14, 13]),
  (83, [(.aload_n 2, (0, 0, 0, 0)), (.aload_n 2, (0, 0, 0, 0)), (.getfield 68, (6, 2, 1, 0)), (.invokevirtual 130, (133, 0, 7, 0)), (.iconst 0, (0, 0, 0, 0)), (.invokevirtual 142, (115, 2, 6, 0))], (.goto 29, (0, 0, 0, 0)), [17]),
  (98, [(.aload_n 2, (0, 0, 0, 0)), (.getfield 145, (6, 11, 0, 0))], (.ifCond .ne 22, (0, 0, 0, 0)), [17, 15]),
  (105, [(.aload_n 2, (0, 0, 0, 0)), (.getfield 148, (6, 12, 0, 0))], (.ifCond .ne 15, (0, 0, 0, 0)), [17, 16]),
  (112, [(.aload_n 2, (0, 0, 0, 0)), (.aload_n 2, (0, 0, 0, 0)), (.getfield 151, (6, 9, 0, 0)), (.aload_n 2, (0, 0, 0, 0)), (.getfield 154, (6, 10, 0, 0)), (.invokevirtual 142, (115, 2, 6, 0))], (.nop, (0, 0, 0, 0)), [17]),
  (124, [(.aload_n 2, (0, 0, 0, 0)), (.iconst 0, (0, 0, 0, 0)), (.putfield 151, (6, 9, 0, 0)), (.aload_n 2, (0, 0, 0, 0)), (.iconst 0, (0, 0, 0, 0)), (.putfield 154, (6, 10, 0, 0)), (.aload_n 2, (0, 0, 0, 0)), (.iconst 0, (0, 0, 0, 0)), (.putfield 157, (6, 14, 0, 0)), (.aload_n 2, (0, 0, 0, 0)), (.iconst 0, (0, 0, 0, 0)), (.putfield 160, (6, 15, 0, 0)), (.aload_n 2, (0, 0, 0, 0)), (.iconst 0, (0, 0, 0, 0)), (.putfield 163, (6, 18, 0, 0)), (.aload_n 2, (0, 0, 0, 0)), (.iconst 0, (0, 0, 0, 0)), (.putfield 166, (6, 19, 2, 0)), (.aload_n 2, (0, 0, 0, 0)), (.aload_n 2, (0, 0, 0, 0)), (.getfield 169, (6, 7, 0, 0)), (.aload_n 2, (0, 0, 0, 0)), (.getfield 95, (6, 1, 1, 0)), (.getfield 172, (4, 0, 0, 0))], (.ifCond .ne 7, (0, 0, 0, 0)), [19, 18]),
  (169, [(.iconst 3, (0, 0, 0, 0))], (.goto 4, (0, 0, 0, 0)), [20]),
  (173, [(.iconst 0, (0, 0, 0, 0))], (.nop, (0, 0, 0, 0)), [20]),
  (174, [(.invokestatic 175, (175, 2, 0, 0)), (.aload_n 0, (0, 0, 0, 0)), (.getfield 22, (9, 1, 0, 0)), (.invokevirtual 178, (112, 2, 6, 0)), (.aload_n 2, (0, 0, 0, 0)), (.getfield 169, (6, 7, 0, 0))], (.ireturn, (0, 0, 0, 0)), [])]
/-- 167: TwinVaults.freeBlocks(LTwinVaults$Site;)I -/
def bt_X9_freeBlocks : List bi_K := [(0, [(.aload_n 0, (0, 0, 0, 0)), (.getfield 16, (9, 0, 0, 0)), (.istore_n 2, (0, 0, 0, 0)), (.iconst 0, (0, 0, 0, 0)), (.istore_n 3, (0, 0, 0, 0))], (.nop, (0, 0, 0, 0)), [1]),
  (7, [(.iload_n 3, (0, 0, 0, 0)), (.iconst 4, (0, 0, 0, 0))], (.if_icmp .ge 36, (0, 0, 0, 0)), [5, 2]),
  (12, [(.aload_n 0, (0, 0, 0, 0)), (.iconst 4, (0, 0, 0, 0)), (.aload_n 1, (0, 0, 0, 0)), (.getfield 172, (4, 0, 0, 0)), (.imul, (0, 0, 0, 0)), (.iload_n 3, (0, 0, 0, 0)), (.iadd, (0, 0, 0, 0)), (.invokevirtual 76, (205, 1, 9, 0)), (.astore 4, (0, 0, 0, 0)), (.aload 4, (0, 0, 0, 0))], (.ifnull 11, (0, 0, 0, 0)), [4, 3]),
  (31, [(.iload_n 2, (0, 0, 0, 0)), (.aload 4, (0, 0, 0, 0)), (.invokevirtual 329, (113, 0, 6, 0)), (.isub, (0, 0, 0, 0)), (.istore_n 2, (0, 0, 0, 0))], (.nop, (0, 0, 0, 0)), [4]),
  (39, [(.iinc 3 1, (0, 0, 0, 0))], (.goto (-35), (0, 0, 0, 0)), [1]),
  (45, [(.iload_n 2, (0, 0, 0, 0))], (.ireturn, (0, 0, 0, 0)), [])]
/-- 168: TwinVaults.group(II)I -/
def bt_X9_group : List bi_K := [(0, [(.iload_n 1, (0, 0, 0, 0)), (.iconst 1, (0, 0, 0, 0))], (.if_icmp .lt 21, (0, 0, 0, 0)), [4, 1]),
  (5, [(.iload_n 1, (0, 0, 0, 0)), (.bipush 8, (0, 0, 0, 0))], (.if_icmp .gt 15, (0, 0, 0, 0)), [4, 2]),
  (11, [(.iload_n 2, (0, 0, 0, 0)), (.iconst 1, (0, 0, 0, 0))], (.if_icmp .lt 10, (0, 0, 0, 0)), [4, 3]),
  (16, [(.iload_n 2, (0, 0, 0, 0)), (.sipush 4096, (0, 0, 0, 0))], (.if_icmp .le 6, (0, 0, 0, 0)), [5, 4]),
  (23, [(.bipush (-2), (0, 0, 0, 0))], (.ireturn, (0, 0, 0, 0)), []),
  (26, [(.aload_n 0, (0, 0, 0, 0)), (.getfield 65, (9, 7, 0, 0)), (.iconst 4, (0, 0, 0, 0))], (.if_icmp .lt 5, (0, 0, 0, 0)), [7, 6]),
  (34, [(.iconst (-1), (0, 0, 0, 0))], (.ireturn, (0, 0, 0, 0)), []),
  (36, [(.aload_n 0, (0, 0, 0, 0)), (.getfield 65, (9, 7, 0, 0)), (.istore_n 3, (0, 0, 0, 0)), (.aload_n 0, (0, 0, 0, 0)), (.getfield 53, (9, 4, 1, 0)), (.iload_n 3, (0, 0, 0, 0)), (.aaload, (0, 0, 0, 0)), (.getfield 68, (6, 2, 1, 0)), (.iload_n 1, (0, 0, 0, 0)), (.iload_n 2, (0, 0, 0, 0)), (.invokevirtual 72, (143, 2, 7, 0)), (.aload_n 0, (0, 0, 0, 0)), (.getfield 53, (9, 4, 1, 0)), (.iload_n 3, (0, 0, 0, 0)), (.iconst 4, (0, 0, 0, 0)), (.iadd, (0, 0, 0, 0)), (.aaload, (0, 0, 0, 0)), (.getfield 68, (6, 2, 1, 0)), (.iload_n 1, (0, 0, 0, 0)), (.iload_n 2, (0, 0, 0, 0)), (.invokevirtual 72, (143, 2, 7, 0)), (.aload_n 0, (0, 0, 0, 0)), (.dup, (0, 0, 0, 0)), (.getfield 65, (9, 7, 0, 0)), (.iconst 1, (0, 0, 0, 0)), (.iadd, (0, 0, 0, 0)), (.putfield 65, (9, 7, 0, 0)), (.iload_n 3, (0, 0, 0, 0))], (.ireturn, (0, 0, 0, 0)), [])]
/-- 169: TwinVaults.handOver(LTwinVaults$Store;)V -/
def bt_X9_handOver : List bi_K := [(0, [(.aload_n 1, (0, 0, 0, 0)), (.getfield 139, (6, 13, 0, 0))], (.ifCond .eq 18, (0, 0, 0, 0)), [3, 1]),
  (7, [(.aload_n 1, (0, 0, 0, 0)), (.invokevirtual 391, (122, 0, 6, 0))], (.ifCond .eq 52, (0, 0, 0, 0)), [8, 2]),
  (14, [(.aload_n 0, (0, 0, 0, 0)), (.aload_n 1, (0, 0, 0, 0)), (.invokevirtual 400, (195, 1, 9, 0))], (.goto 44, (0, 0, 0, 0)), [8]),
  (22, [(.aload_n 1, (0, 0, 0, 0)), (.getfield 95, (6, 1, 1, 0)), (.invokevirtual 133, (102, 0, 4, 0))], (.ifCond .eq 34, (0, 0, 0, 0)), [8, 4]),
  (32, [(.aload_n 1, (0, 0, 0, 0)), (.aload_n 1, (0, 0, 0, 0)), (.getfield 169, (6, 7, 0, 0)), (.aload_n 1, (0, 0, 0, 0)), (.getfield 95, (6, 1, 1, 0)), (.getfield 172, (4, 0, 0, 0))], (.ifCond .ne 7, (0, 0, 0, 0)), [6, 5]),
  (47, [(.iconst 2, (0, 0, 0, 0))], (.goto 4, (0, 0, 0, 0)), [7]),
  (51, [(.iconst 1, (0, 0, 0, 0))], (.nop, (0, 0, 0, 0)), [7]),
  (52, [(.invokestatic 175, (175, 2, 0, 0)), (.putfield 139, (6, 13, 0, 0)), (.aload_n 0, (0, 0, 0, 0)), (.aload_n 1, (0, 0, 0, 0)), (.invokevirtual 400, (195, 1, 9, 0))], (.nop, (0, 0, 0, 0)), [8]),
  (63, [], (.return_, (0, 0, 0, 0)), [])]
/-- 170: TwinVaults.<init>(III)V -/
def bt_X9_init : List bi_K := [(0, [(.aload_n 0, (0, 0, 0, 0)), (.invokespecial 1, (9999, 0, 0, 0)), (.aload_n 0, (0, 0, 0, 0)), (.bipush 16, (0, 0, 0, 0)), (.sipush 8192, (0, 0, 0, 0)), (.iload_n 1, (0, 0, 0, 0)), (.invokestatic 7, (2, 2, 0, 0)), (.invokestatic 13, (1, 2, 0, 0)), (.putfield 16, (9, 0, 0, 0)), (.aload_n 0, (0, 0, 0, 0)), (.iconst 2, (0, 0, 0, 0)), (.bipush 8, (0, 0, 0, 0)), (.iload_n 2, (0, 0, 0, 0)), (.invokestatic 7, (2, 2, 0, 0)), (.invokestatic 13, (1, 2, 0, 0)), (.putfield 22, (9, 1, 0, 0)), (.aload_n 0, (0, 0, 0, 0)), (.iconst 1, (0, 0, 0, 0)), (.bipush 8, (0, 0, 0, 0)), (.iload_n 3, (0, 0, 0, 0)), (.invokestatic 7, (2, 2, 0, 0)), (.invokestatic 13, (1, 2, 0, 0)), (.putfield 25, (9, 2, 0, 0)), (.aload_n 0, (0, 0, 0, 0)), (.iconst 2, (0, 0, 0, 0)), (.anewarray 28, (4, 0, 0, 0)), (.putfield 30, (9, 3, 1, 0)), (.aload_n 0, (0, 0, 0, 0)), (.getfield 30, (9, 3, 1, 0)), (.iconst 0, (0, 0, 0, 0)), (.new 28, (4, 4, 0, 0)), (.dup, (0, 0, 0, 0)), (.iconst 0, (0, 0, 0, 0)), (.invokespecial 34, (105, 1, 4, 0)), (.aastore, (0, 0, 0, 0)), (.aload_n 0, (0, 0, 0, 0)), (.getfield 30, (9, 3, 1, 0)), (.iconst 1, (0, 0, 0, 0)), (.new 28, (4, 4, 0, 0)), (.dup, (0, 0, 0, 0)), (.iconst 1, (0, 0, 0, 0)), (.invokespecial 34, (105, 1, 4, 0)), (.aastore, (0, 0, 0, 0)), (.aload_n 0, (0, 0, 0, 0)), (.new 37, (8, 7, 0, 0)), (.dup, (0, 0, 0, 0)), (.invokespecial 39, (152, 0, 8, 0)), (.putfield 40, (9, 5, 1, 0)), (.aload_n 0, (0, 0, 0, 0)), (.new 44, (0, 4, 0, 0)), (.dup, (0, 0, 0, 0)), (.invokespecial 46, (6, 0, 0, 0)), (.putfield 47, (9, 6, 1, 0)), (.aload_n 0, (0, 0, 0, 0)), (.bipush 8, (0, 0, 0, 0)), (.anewarray 51, (6, 0, 0, 0)), (.putfield 53, (9, 4, 1, 0)), (.iconst 0, (0, 0, 0, 0)), (.istore 4, (0, 0, 0, 0))], (.nop, (0, 0, 0, 0)), [1]),
  (118, [(.iload 4, (0, 0, 0, 0)), (.bipush 8, (0, 0, 0, 0))], (.if_icmp .ge 49, (0, 0, 0, 0)), [3, 2]),
  (125, [(.aload_n 0, (0, 0, 0, 0)), (.getfield 53, (9, 4, 1, 0)), (.iload 4, (0, 0, 0, 0)), (.new 51, (6, 20, 0, 0)), (.dup, (0, 0, 0, 0)), (.iload 4, (0, 0, 0, 0)), (.aload_n 0, (0, 0, 0, 0)), (.getfield 30, (9, 3, 1, 0)), (.iload 4, (0, 0, 0, 0)), (.iconst 4, (0, 0, 0, 0)), (.idiv, (0, 0, 0, 0)), (.aaload, (0, 0, 0, 0)), (.new 57, (7, 11, 0, 0)), (.dup, (0, 0, 0, 0)), (.aload_n 0, (0, 0, 0, 0)), (.getfield 40, (9, 5, 1, 0)), (.invokespecial 59, (130, 1, 7, 0)), (.aload_n 0, (0, 0, 0, 0)), (.getfield 16, (9, 0, 0, 0)), (.invokespecial 62, (116, 4, 6, 0)), (.aastore, (0, 0, 0, 0)), (.iinc 4 1, (0, 0, 0, 0))], (.goto (-50), (0, 0, 0, 0)), [1]),
  (171, [], (.return_, (0, 0, 0, 0)), [])]
/-- 171: TwinVaults.item(III)I -/
def bt_X9_item : List bi_K := [(0, [(.aload_n 0, (0, 0, 0, 0)), (.getfield 47, (9, 6, 1, 0)), (.iload_n 1, (0, 0, 0, 0)), (.invokevirtual 204, (4, 1, 0, 0)), (.astore 4, (0, 0, 0, 0)), (.aload 4, (0, 0, 0, 0))], (.ifnull 25, (0, 0, 0, 0)), [5, 1]),
  (15, [(.iload_n 2, (0, 0, 0, 0))], (.ifCond .lt 21, (0, 0, 0, 0)), [5, 2]),
  (19, [(.iload_n 2, (0, 0, 0, 0)), (.aload 4, (0, 0, 0, 0)), (.invokevirtual 236, (96, 0, 2, 0))], (.if_icmp .ge 12, (0, 0, 0, 0)), [5, 3]),
  (28, [(.iload_n 3, (0, 0, 0, 0))], (.ifCond .lt 8, (0, 0, 0, 0)), [5, 4]),
  (32, [(.iload_n 3, (0, 0, 0, 0)), (.iconst 2, (0, 0, 0, 0))], (.if_icmp .le 13, (0, 0, 0, 0)), [6, 5]),
  (37, [], (.athrow, (0, 239, 241, 243)), []),
  (47, [(.aload 4, (0, 0, 0, 0)), (.getfield 246, (2, 8, 1, 0)), (.iconst 3, (0, 0, 0, 0)), (.iload_n 2, (0, 0, 0, 0)), (.imul, (0, 0, 0, 0)), (.iload_n 3, (0, 0, 0, 0)), (.iadd, (0, 0, 0, 0)), (.iaload, (0, 0, 0, 0))], (.ireturn, (0, 0, 0, 0)), [])]
/-- 172: TwinVaults.leave(I)I -/
def bt_X9_leave : List bi_K := [(0, [(.aload_n 0, (0, 0, 0, 0)), (.iload_n 1, (0, 0, 0, 0)), (.invokevirtual 76, (205, 1, 9, 0)), (.astore_n 2, (0, 0, 0, 0)), (.aload_n 2, (0, 0, 0, 0)), (.iconst 1, (0, 0, 0, 0)), (.invokestatic 116, (191, 2, 0, 0)), (.istore_n 3, (0, 0, 0, 0)), (.iload_n 3, (0, 0, 0, 0))], (.ifCond .eq 5, (0, 0, 0, 0)), [2, 1]),
  (16, [(.iload_n 3, (0, 0, 0, 0))], (.ireturn, (0, 0, 0, 0)), []),
  (18, [(.aload_n 2, (0, 0, 0, 0)), (.getfield 68, (6, 2, 1, 0)), (.invokevirtual 120, (140, 0, 7, 0))], (.ifCond .ne 27, (0, 0, 0, 0)), [7, 3]),
  (28, [(.aload_n 2, (0, 0, 0, 0)), (.getfield 124, (6, 8, 0, 0)), (.sipush 4095, (0, 0, 0, 0))], (.if_icmp .lt 6, (0, 0, 0, 0)), [5, 4]),
  (38, [(.bipush (-5), (0, 0, 0, 0))], (.ireturn, (0, 0, 0, 0)), []),
  (41, [(.aload_n 0, (0, 0, 0, 0)), (.aload_n 2, (0, 0, 0, 0)), (.invokevirtual 127, (209, 1, 9, 0))], (.ifCond .ne 6, (0, 0, 0, 0)), [7, 6]),
  (49, [(.bipush (-3), (0, 0, 0, 0))], (.ireturn, (0, 0, 0, 0)), []),
  (52, [(.aload_n 2, (0, 0, 0, 0)), (.getfield 95, (6, 1, 1, 0)), (.invokevirtual 133, (102, 0, 4, 0))], (.ifCond .ne 6, (0, 0, 0, 0)), [9, 8]),
  (62, [(.bipush (-3), (0, 0, 0, 0))], (.ireturn, (0, 0, 0, 0)), []),
  (65, [(.aload_n 2, (0, 0, 0, 0)), (.iconst 2, (0, 0, 0, 0)), (.putfield 136, (6, 6, 0, 0)), (.aload_n 2, (0, 0, 0, 0)), (.iconst 0, (0, 0, 0, 0)), (.putfield 139, (6, 13, 0, 0)), (.aload_n 2, (0, 0, 0, 0)), (.getfield 68, (6, 2, 1, 0)), (.invokevirtual 130, (133, 0, 7, 0))], (.ireturn, (0, 0, 0, 0)), [])]
/-- 173: TwinVaults.lost(III)I -/
def bt_X9_lost : List bi_K := [(0, [(.aload_n 0, (0, 0, 0, 0)), (.iload_n 1, (0, 0, 0, 0)), (.invokevirtual 76, (205, 1, 9, 0)), (.astore 4, (0, 0, 0, 0)), (.aload 4, (0, 0, 0, 0))], (.ifnull 28, (0, 0, 0, 0)), [5, 1]),
  (12, [(.iload_n 2, (0, 0, 0, 0))], (.ifCond .lt 24, (0, 0, 0, 0)), [5, 2]),
  (16, [(.iload_n 2, (0, 0, 0, 0)), (.aload 4, (0, 0, 0, 0)), (.getfield 322, (6, 5, 1, 0)), (.getfield 326, (3, 3, 0, 0))], (.if_icmp .ge 12, (0, 0, 0, 0)), [5, 3]),
  (28, [(.iload_n 3, (0, 0, 0, 0))], (.ifCond .lt 8, (0, 0, 0, 0)), [5, 4]),
  (32, [(.iload_n 3, (0, 0, 0, 0)), (.iconst 2, (0, 0, 0, 0))], (.if_icmp .le 14, (0, 0, 0, 0)), [6, 5]),
  (37, [], (.athrow, (0, 239, 335, 243)), []),
  (48, [(.aload_n 0, (0, 0, 0, 0)), (.getfield 40, (9, 5, 1, 0)), (.aload 4, (0, 0, 0, 0)), (.getfield 322, (6, 5, 1, 0)), (.getfield 337, (3, 2, 1, 0)), (.iload_n 2, (0, 0, 0, 0)), (.iaload, (0, 0, 0, 0)), (.iload_n 3, (0, 0, 0, 0)), (.invokevirtual 340, (156, 2, 8, 0))], (.ireturn, (0, 0, 0, 0)), [])]
/-- 174: TwinVaults.message(II)I -/
def bt_X9_message : List bi_K := [(0, [(.aload_n 0, (0, 0, 0, 0)), (.getfield 47, (9, 6, 1, 0)), (.iload_n 1, (0, 0, 0, 0)), (.invokevirtual 204, (4, 1, 0, 0)), (.astore_n 3, (0, 0, 0, 0)), (.aload_n 3, (0, 0, 0, 0))], (.ifnonnull 5, (0, 0, 0, 0)), [2, 1]),
  (13, [(.iconst (-1), (0, 0, 0, 0))], (.ireturn, (0, 0, 0, 0)), []),
  (15, [(.iload_n 2, (0, 0, 0, 0))], (.tableswitch 88 0 7 #[48, 53, 58, 63, 68, 73, 78, 83], (0, 0, 0, 0)), [11, 3, 4, 5, 6, 7, 8, 9, 10]),
  (64, [(.aload_n 3, (0, 0, 0, 0)), (.getfield 215, (2, 0, 0, 0))], (.ireturn, (0, 0, 0, 0)), []),
  (69, [(.aload_n 3, (0, 0, 0, 0)), (.getfield 220, (2, 1, 0, 0))], (.ireturn, (0, 0, 0, 0)), []),
  (74, [(.aload_n 3, (0, 0, 0, 0)), (.getfield 223, (2, 2, 0, 0))], (.ireturn, (0, 0, 0, 0)), []),
  (79, [(.aload_n 3, (0, 0, 0, 0)), (.getfield 224, (2, 3, 0, 0))], (.ireturn, (0, 0, 0, 0)), []),
  (84, [(.aload_n 3, (0, 0, 0, 0)), (.getfield 227, (2, 4, 0, 0))], (.ireturn, (0, 0, 0, 0)), []),
  (89, [(.aload_n 3, (0, 0, 0, 0)), (.getfield 230, (2, 5, 0, 0))], (.ireturn, (0, 0, 0, 0)), []),
  (94, [(.aload_n 3, (0, 0, 0, 0)), (.getfield 233, (2, 6, 0, 0))], (.ireturn, (0, 0, 0, 0)), []),
  (99, [(.aload_n 3, (0, 0, 0, 0)), (.invokevirtual 236, (96, 0, 2, 0))], (.ireturn, (0, 0, 0, 0)), []),
  (104, [(.iconst (-1), (0, 0, 0, 0))], (.ireturn, (0, 0, 0, 0)), [])]
/-- 175: TwinVaults.nextEpoch(II)I -/
def bt_X9_nextEpoch : List bi_K := [(0, [(.iload_n 0, (0, 0, 0, 0)), (.iconst 1, (0, 0, 0, 0)), (.iadd, (0, 0, 0, 0)), (.iload_n 1, (0, 0, 0, 0)), (.iload_n 0, (0, 0, 0, 0)), (.isub, (0, 0, 0, 0)), (.iconst 1, (0, 0, 0, 0)), (.isub, (0, 0, 0, 0)), (.iconst 4, (0, 0, 0, 0)), (.invokestatic 361, (0, 2, 0, 0)), (.iadd, (0, 0, 0, 0))], (.ireturn, (0, 0, 0, 0)), [])]
/-- 176: TwinVaults.old(IIII)I -/
def bt_X9_old : List bi_K := [(0, [(.aload_n 0, (0, 0, 0, 0)), (.iload_n 1, (0, 0, 0, 0)), (.invokevirtual 76, (205, 1, 9, 0)), (.astore 5, (0, 0, 0, 0)), (.aload 5, (0, 0, 0, 0))], (.ifnull 29, (0, 0, 0, 0)), [3, 1]),
  (12, [(.aload 5, (0, 0, 0, 0)), (.getfield 68, (6, 2, 1, 0)), (.iload_n 2, (0, 0, 0, 0)), (.invokevirtual 261, (129, 1, 7, 0))], (.ifCond .eq 17, (0, 0, 0, 0)), [3, 2]),
  (24, [(.aload 5, (0, 0, 0, 0)), (.getfield 68, (6, 2, 1, 0)), (.iload_n 3, (0, 0, 0, 0)), (.iload 4, (0, 0, 0, 0)), (.invokevirtual 80, (128, 2, 7, 0))], (.ifCond .ne 14, (0, 0, 0, 0)), [4, 3]),
  (38, [], (.athrow, (0, 239, 265, 243)), []),
  (49, [(.aload 5, (0, 0, 0, 0)), (.getfield 95, (6, 1, 1, 0)), (.getfield 99, (4, 1, 2, 0))], (.ifCond .ne 13, (0, 0, 0, 0)), [6, 5]),
  (60, [], (.athrow, (1, 252, 254, 256)), []),
  (70, [(.aload 5, (0, 0, 0, 0)), (.getfield 68, (6, 2, 1, 0)), (.iload_n 2, (0, 0, 0, 0)), (.iload_n 3, (0, 0, 0, 0)), (.iload 4, (0, 0, 0, 0)), (.invokestatic 84, (202, 2, 0, 0)), (.invokevirtual 267, (142, 2, 7, 0))], (.ireturn, (0, 0, 0, 0)), [])]
/-- 177: TwinVaults.onAccept(LTwinVaults$Store;LTwinVaults$Message;)V -/
def bt_X9_onAccept : List bi_K := [(0, [(.aload_n 1, (0, 0, 0, 0)), (.aload_n 2, (0, 0, 0, 0)), (.iconst 1, (0, 0, 0, 0)), (.invokevirtual 502, (120, 2, 6, 0))], (.ifCond .ne 4, (0, 0, 0, 0)), [2, 1]),
  (9, [], (.return_, (0, 0, 0, 0)), []),
  (10, [(.aload_n 1, (0, 0, 0, 0)), (.iconst 2, (0, 0, 0, 0)), (.putfield 160, (6, 15, 0, 0)), (.aload_n 1, (0, 0, 0, 0)), (.aload_n 2, (0, 0, 0, 0)), (.getfield 230, (2, 5, 0, 0)), (.putfield 301, (6, 16, 0, 0)), (.aload_n 1, (0, 0, 0, 0)), (.aload_n 2, (0, 0, 0, 0)), (.getfield 230, (2, 5, 0, 0)), (.putfield 304, (6, 17, 0, 0)), (.aload_n 1, (0, 0, 0, 0)), (.iconst 0, (0, 0, 0, 0)), (.putfield 163, (6, 18, 0, 0)), (.aload_n 0, (0, 0, 0, 0)), (.aload_n 1, (0, 0, 0, 0)), (.invokevirtual 506, (198, 1, 9, 0))], (.return_, (0, 0, 0, 0)), [])]
/-- 178: TwinVaults.onAck(LTwinVaults$Store;LTwinVaults$Message;)V -/
def bt_X9_onAck : List bi_K := [(0, [(.aload_n 1, (0, 0, 0, 0)), (.aload_n 2, (0, 0, 0, 0)), (.iconst 2, (0, 0, 0, 0)), (.invokevirtual 502, (120, 2, 6, 0))], (.ifCond .eq 14, (0, 0, 0, 0)), [2, 1]),
  (9, [(.aload_n 2, (0, 0, 0, 0)), (.getfield 230, (2, 5, 0, 0)), (.aload_n 1, (0, 0, 0, 0)), (.getfield 301, (6, 16, 0, 0))], (.if_icmp .gt 4, (0, 0, 0, 0)), [3, 2]),
  (20, [], (.return_, (0, 0, 0, 0)), []),
  (21, [(.aload_n 1, (0, 0, 0, 0)), (.aload_n 2, (0, 0, 0, 0)), (.getfield 230, (2, 5, 0, 0)), (.putfield 301, (6, 16, 0, 0)), (.aload_n 1, (0, 0, 0, 0)), (.aload_n 1, (0, 0, 0, 0)), (.getfield 304, (6, 17, 0, 0)), (.aload_n 2, (0, 0, 0, 0)), (.getfield 230, (2, 5, 0, 0)), (.invokestatic 13, (1, 2, 0, 0)), (.putfield 304, (6, 17, 0, 0)), (.aload_n 1, (0, 0, 0, 0)), (.iconst 0, (0, 0, 0, 0)), (.putfield 163, (6, 18, 0, 0)), (.aload_n 0, (0, 0, 0, 0)), (.aload_n 1, (0, 0, 0, 0)), (.invokevirtual 506, (198, 1, 9, 0))], (.return_, (0, 0, 0, 0)), [])]
/-- 179: TwinVaults.onCommon(LTwinVaults$Store;LTwinVaults$Message;)V -/
def bt_X9_onCommon : List bi_K := [(0, [(.aload_n 1, (0, 0, 0, 0)), (.getfield 68, (6, 2, 1, 0)), (.aload_n 2, (0, 0, 0, 0)), (.getfield 227, (2, 4, 0, 0)), (.invokevirtual 493, (127, 1, 7, 0)), (.istore_n 3, (0, 0, 0, 0)), (.aload_n 1, (0, 0, 0, 0)), (.getfield 136, (6, 6, 0, 0)), (.iconst 3, (0, 0, 0, 0))], (.if_icmp .ne 31, (0, 0, 0, 0)), [5, 1]),
  (20, [(.aload_n 1, (0, 0, 0, 0)), (.getfield 166, (6, 19, 2, 0))], (.ifCond .eq 24, (0, 0, 0, 0)), [5, 2]),
  (27, [(.aload_n 2, (0, 0, 0, 0)), (.getfield 227, (2, 4, 0, 0))], (.ifCond .eq 7, (0, 0, 0, 0)), [4, 3]),
  (34, [(.iload_n 3, (0, 0, 0, 0))], (.ifCond .lt 13, (0, 0, 0, 0)), [5, 4]),
  (38, [(.aload_n 1, (0, 0, 0, 0)), (.getfield 95, (6, 1, 1, 0)), (.invokevirtual 133, (102, 0, 4, 0))], (.ifCond .ne 4, (0, 0, 0, 0)), [6, 5]),
  (48, [], (.return_, (0, 0, 0, 0)), []),
  (49, [(.aload_n 0, (0, 0, 0, 0)), (.getfield 40, (9, 5, 1, 0)), (.aload_n 1, (0, 0, 0, 0)), (.getfield 322, (6, 5, 1, 0)), (.aload_n 1, (0, 0, 0, 0)), (.getfield 68, (6, 2, 1, 0)), (.getfield 289, (7, 4, 0, 0)), (.aload_n 1, (0, 0, 0, 0)), (.getfield 68, (6, 2, 1, 0)), (.aload_n 2, (0, 0, 0, 0)), (.getfield 227, (2, 4, 0, 0)), (.invokevirtual 415, (137, 1, 7, 0)), (.invokevirtual 418, (150, 3, 8, 0)), (.aload_n 1, (0, 0, 0, 0)), (.getfield 68, (6, 2, 1, 0)), (.iload_n 3, (0, 0, 0, 0)), (.invokevirtual 496, (146, 1, 7, 0)), (.aload_n 1, (0, 0, 0, 0)), (.iconst 0, (0, 0, 0, 0)), (.putfield 136, (6, 6, 0, 0)), (.aload_n 1, (0, 0, 0, 0)), (.invokevirtual 499, (114, 0, 6, 0)), (.aload_n 1, (0, 0, 0, 0)), (.iconst 0, (0, 0, 0, 0)), (.putfield 166, (6, 19, 2, 0)), (.aload_n 1, (0, 0, 0, 0)), (.aload_n 0, (0, 0, 0, 0)), (.getfield 22, (9, 1, 0, 0)), (.invokevirtual 382, (121, 1, 6, 0))], (.return_, (0, 0, 0, 0)), [])]
/-- 180: TwinVaults.onData(LTwinVaults$Store;LTwinVaults$Message;)V -/
def bt_X9_onData : List bi_K := [(0, [(.aload_n 1, (0, 0, 0, 0)), (.getfield 307, (6, 3, 1, 0)), (.astore_n 3, (0, 0, 0, 0)), (.aload_n 1, (0, 0, 0, 0)), (.getfield 136, (6, 6, 0, 0))], (.ifCond .ne 18, (0, 0, 0, 0)), [2, 1]),
  (12, [(.aload_n 3, (0, 0, 0, 0)), (.aload_n 2, (0, 0, 0, 0)), (.getfield 224, (2, 3, 0, 0)), (.aload_n 2, (0, 0, 0, 0)), (.getfield 227, (2, 4, 0, 0)), (.invokevirtual 465, (111, 2, 5, 0))], (.ifCond .ne 4, (0, 0, 0, 0)), [3, 2]),
  (27, [], (.return_, (0, 0, 0, 0)), []),
  (28, [(.aload_n 2, (0, 0, 0, 0)), (.getfield 230, (2, 5, 0, 0)), (.aload_n 3, (0, 0, 0, 0)), (.getfield 311, (5, 4, 0, 0))], (.if_icmp .lt 10, (0, 0, 0, 0)), [5, 4]),
  (39, [(.aload_n 3, (0, 0, 0, 0)), (.invokevirtual 471, (109, 0, 5, 0))], (.ifCond .eq 10, (0, 0, 0, 0)), [6, 5]),
  (46, [(.aload_n 0, (0, 0, 0, 0)), (.aload_n 1, (0, 0, 0, 0)), (.iconst 4, (0, 0, 0, 0)), (.invokevirtual 477, (199, 2, 9, 0))], (.return_, (0, 0, 0, 0)), []),
  (53, [(.aload_n 2, (0, 0, 0, 0)), (.getfield 230, (2, 5, 0, 0)), (.aload_n 3, (0, 0, 0, 0)), (.getfield 311, (5, 4, 0, 0))], (.if_icmp .le 4, (0, 0, 0, 0)), [8, 7]),
  (64, [], (.return_, (0, 0, 0, 0)), []),
  (65, [(.aload_n 0, (0, 0, 0, 0)), (.aload_n 1, (0, 0, 0, 0)), (.getfield 95, (6, 1, 1, 0)), (.invokevirtual 357, (167, 1, 9, 0)), (.aload_n 2, (0, 0, 0, 0)), (.invokevirtual 236, (96, 0, 2, 0))], (.if_icmp .ge 14, (0, 0, 0, 0)), [10, 9]),
  (80, [(.aload_n 3, (0, 0, 0, 0)), (.dup, (0, 0, 0, 0)), (.getfield 319, (5, 6, 0, 0)), (.iconst 1, (0, 0, 0, 0)), (.iadd, (0, 0, 0, 0)), (.putfield 319, (5, 6, 0, 0))], (.return_, (0, 0, 0, 0)), []),
  (91, [(.aload_n 1, (0, 0, 0, 0)), (.getfield 95, (6, 1, 1, 0)), (.invokevirtual 133, (102, 0, 4, 0))], (.ifCond .ne 4, (0, 0, 0, 0)), [12, 11]),
  (101, [], (.return_, (0, 0, 0, 0)), []),
  (102, [(.aload_n 3, (0, 0, 0, 0)), (.aload_n 2, (0, 0, 0, 0)), (.invokevirtual 236, (96, 0, 2, 0)), (.invokevirtual 480, (106, 1, 5, 0)), (.aload_n 3, (0, 0, 0, 0)), (.invokevirtual 471, (109, 0, 5, 0))], (.ifCond .eq 11, (0, 0, 0, 0)), [14, 13]),
  (117, [(.aload_n 0, (0, 0, 0, 0)), (.aload_n 1, (0, 0, 0, 0)), (.invokevirtual 474, (160, 1, 9, 0))], (.goto 9, (0, 0, 0, 0)), [15]),
  (125, [(.aload_n 0, (0, 0, 0, 0)), (.aload_n 1, (0, 0, 0, 0)), (.iconst 4, (0, 0, 0, 0)), (.invokevirtual 477, (199, 2, 9, 0))], (.nop, (0, 0, 0, 0)), [15]),
  (131, [], (.return_, (0, 0, 0, 0)), [])]
/-- 181: TwinVaults.onGive(LTwinVaults$Store;LTwinVaults$Message;)V -/
def bt_X9_onGive : List bi_K := [(0, [(.aload_n 1, (0, 0, 0, 0)), (.getfield 136, (6, 6, 0, 0))], (.ifCond .ne 27, (0, 0, 0, 0)), [3, 1]),
  (7, [(.aload_n 2, (0, 0, 0, 0)), (.getfield 227, (2, 4, 0, 0)), (.aload_n 1, (0, 0, 0, 0)), (.getfield 68, (6, 2, 1, 0)), (.invokevirtual 130, (133, 0, 7, 0))], (.if_icmp .ne 13, (0, 0, 0, 0)), [3, 2]),
  (21, [(.aload_n 1, (0, 0, 0, 0)), (.getfield 95, (6, 1, 1, 0)), (.invokevirtual 133, (102, 0, 4, 0))], (.ifCond .ne 4, (0, 0, 0, 0)), [4, 3]),
  (31, [], (.return_, (0, 0, 0, 0)), []),
  (32, [(.aload_n 1, (0, 0, 0, 0)), (.aload_n 2, (0, 0, 0, 0)), (.getfield 227, (2, 4, 0, 0)), (.putfield 151, (6, 9, 0, 0)), (.aload_n 1, (0, 0, 0, 0)), (.aload_n 2, (0, 0, 0, 0)), (.getfield 227, (2, 4, 0, 0)), (.putfield 157, (6, 14, 0, 0)), (.aload_n 1, (0, 0, 0, 0)), (.iconst 0, (0, 0, 0, 0)), (.putfield 154, (6, 10, 0, 0)), (.aload_n 1, (0, 0, 0, 0)), (.iconst 0, (0, 0, 0, 0)), (.iconst 0, (0, 0, 0, 0)), (.invokevirtual 142, (115, 2, 6, 0)), (.aload_n 1, (0, 0, 0, 0)), (.aload_n 2, (0, 0, 0, 0)), (.getfield 230, (2, 5, 0, 0)), (.aload_n 0, (0, 0, 0, 0)), (.getfield 22, (9, 1, 0, 0)), (.invokevirtual 178, (112, 2, 6, 0)), (.aload_n 0, (0, 0, 0, 0)), (.aload_n 1, (0, 0, 0, 0)), (.bipush 9, (0, 0, 0, 0)), (.iconst 0, (0, 0, 0, 0)), (.invokevirtual 430, (192, 3, 9, 0))], (.return_, (0, 0, 0, 0)), [])]
/-- 182: TwinVaults.onHave(LTwinVaults$Store;LTwinVaults$Message;)V -/
def bt_X9_onHave : List bi_K := [(0, [(.aload_n 1, (0, 0, 0, 0)), (.invokevirtual 385, (118, 0, 6, 0))], (.ifCond .eq 31, (0, 0, 0, 0)), [4, 1]),
  (7, [(.aload_n 1, (0, 0, 0, 0)), (.getfield 154, (6, 10, 0, 0))], (.ifCond .eq 24, (0, 0, 0, 0)), [4, 2]),
  (14, [(.aload_n 1, (0, 0, 0, 0)), (.getfield 154, (6, 10, 0, 0)), (.aload_n 2, (0, 0, 0, 0)), (.getfield 227, (2, 4, 0, 0))], (.if_icmp .ne 13, (0, 0, 0, 0)), [4, 3]),
  (25, [(.aload_n 1, (0, 0, 0, 0)), (.getfield 95, (6, 1, 1, 0)), (.invokevirtual 133, (102, 0, 4, 0))], (.ifCond .ne 4, (0, 0, 0, 0)), [5, 4]),
  (35, [], (.return_, (0, 0, 0, 0)), []),
  (36, [(.aload_n 1, (0, 0, 0, 0)), (.aload_n 2, (0, 0, 0, 0)), (.getfield 227, (2, 4, 0, 0)), (.putfield 151, (6, 9, 0, 0)), (.aload_n 1, (0, 0, 0, 0)), (.aload_n 2, (0, 0, 0, 0)), (.getfield 227, (2, 4, 0, 0)), (.putfield 157, (6, 14, 0, 0)), (.aload_n 1, (0, 0, 0, 0)), (.iconst 0, (0, 0, 0, 0)), (.putfield 154, (6, 10, 0, 0)), (.aload_n 1, (0, 0, 0, 0)), (.iconst 0, (0, 0, 0, 0)), (.putfield 160, (6, 15, 0, 0)), (.aload_n 1, (0, 0, 0, 0)), (.iconst 0, (0, 0, 0, 0)), (.putfield 163, (6, 18, 0, 0)), (.aload_n 1, (0, 0, 0, 0)), (.aload_n 0, (0, 0, 0, 0)), (.getfield 22, (9, 1, 0, 0)), (.invokevirtual 382, (121, 1, 6, 0))], (.return_, (0, 0, 0, 0)), [])]
/-- 183: TwinVaults.onHello(LTwinVaults$Store;LTwinVaults$Message;)V -/
def bt_X9_onHello : List bi_K := [(0, [(.aload_n 1, (0, 0, 0, 0)), (.getfield 136, (6, 6, 0, 0)), (.iconst 1, (0, 0, 0, 0))], (.if_icmp .ne 18, (0, 0, 0, 0)), [2, 1]),
  (8, [(.aload_n 1, (0, 0, 0, 0)), (.getfield 151, (6, 9, 0, 0)), (.sipush 4096, (0, 0, 0, 0)), (.aload_n 1, (0, 0, 0, 0)), (.getfield 169, (6, 7, 0, 0)), (.imul, (0, 0, 0, 0))], (.if_icmp .le 4, (0, 0, 0, 0)), [3, 2]),
  (23, [], (.return_, (0, 0, 0, 0)), []),
  (24, [(.iconst 0, (0, 0, 0, 0)), (.istore_n 3, (0, 0, 0, 0)), (.iconst 0, (0, 0, 0, 0)), (.istore 4, (0, 0, 0, 0))], (.nop, (0, 0, 0, 0)), [4]),
  (29, [(.iload 4, (0, 0, 0, 0)), (.aload_n 2, (0, 0, 0, 0)), (.invokevirtual 236, (96, 0, 2, 0))], (.if_icmp .ge 42, (0, 0, 0, 0)), [9, 5]),
  (38, [(.iload_n 3, (0, 0, 0, 0))], (.ifCond .ne 38, (0, 0, 0, 0)), [9, 6]),
  (42, [(.aload_n 1, (0, 0, 0, 0)), (.getfield 68, (6, 2, 1, 0)), (.aload_n 2, (0, 0, 0, 0)), (.getfield 246, (2, 8, 1, 0)), (.iconst 3, (0, 0, 0, 0)), (.iload 4, (0, 0, 0, 0)), (.imul, (0, 0, 0, 0)), (.iaload, (0, 0, 0, 0)), (.invokevirtual 493, (127, 1, 7, 0))], (.ifCond .lt 13, (0, 0, 0, 0)), [8, 7]),
  (61, [(.aload_n 2, (0, 0, 0, 0)), (.getfield 246, (2, 8, 1, 0)), (.iconst 3, (0, 0, 0, 0)), (.iload 4, (0, 0, 0, 0)), (.imul, (0, 0, 0, 0)), (.iaload, (0, 0, 0, 0)), (.istore_n 3, (0, 0, 0, 0))], (.nop, (0, 0, 0, 0)), [8]),
  (71, [(.iinc 4 1, (0, 0, 0, 0))], (.goto (-45), (0, 0, 0, 0)), [4]),
  (77, [(.aload_n 1, (0, 0, 0, 0)), (.getfield 95, (6, 1, 1, 0)), (.invokevirtual 133, (102, 0, 4, 0))], (.ifCond .ne 4, (0, 0, 0, 0)), [11, 10]),
  (87, [], (.return_, (0, 0, 0, 0)), []),
  (88, [(.aload_n 1, (0, 0, 0, 0)), (.iload_n 3, (0, 0, 0, 0)), (.putfield 151, (6, 9, 0, 0)), (.aload_n 1, (0, 0, 0, 0)), (.iconst 0, (0, 0, 0, 0)), (.iconst 0, (0, 0, 0, 0)), (.invokevirtual 142, (115, 2, 6, 0)), (.aload_n 1, (0, 0, 0, 0)), (.getfield 154, (6, 10, 0, 0)), (.iload_n 3, (0, 0, 0, 0))], (.if_icmp .ne 8, (0, 0, 0, 0)), [13, 12]),
  (107, [(.aload_n 1, (0, 0, 0, 0)), (.iconst 0, (0, 0, 0, 0)), (.putfield 154, (6, 10, 0, 0))], (.nop, (0, 0, 0, 0)), [13]),
  (112, [(.aload_n 1, (0, 0, 0, 0)), (.iload_n 3, (0, 0, 0, 0)), (.putfield 157, (6, 14, 0, 0)), (.aload_n 1, (0, 0, 0, 0)), (.iconst 0, (0, 0, 0, 0)), (.putfield 160, (6, 15, 0, 0)), (.aload_n 1, (0, 0, 0, 0)), (.iconst 0, (0, 0, 0, 0)), (.putfield 163, (6, 18, 0, 0)), (.aload_n 1, (0, 0, 0, 0)), (.aload_n 0, (0, 0, 0, 0)), (.getfield 22, (9, 1, 0, 0)), (.invokevirtual 382, (121, 1, 6, 0)), (.aload_n 0, (0, 0, 0, 0)), (.aload_n 1, (0, 0, 0, 0)), (.bipush 11, (0, 0, 0, 0)), (.iload_n 3, (0, 0, 0, 0)), (.invokevirtual 430, (192, 3, 9, 0))], (.return_, (0, 0, 0, 0)), [])]
/-- 184: TwinVaults.onLack(LTwinVaults$Store;LTwinVaults$Message;)V -/
def bt_X9_onLack : List bi_K := [(0, [(.aload_n 1, (0, 0, 0, 0)), (.invokevirtual 385, (118, 0, 6, 0))], (.ifCond .eq 17, (0, 0, 0, 0)), [3, 1]),
  (7, [(.aload_n 1, (0, 0, 0, 0)), (.getfield 154, (6, 10, 0, 0))], (.ifCond .eq 10, (0, 0, 0, 0)), [3, 2]),
  (14, [(.aload_n 1, (0, 0, 0, 0)), (.getfield 160, (6, 15, 0, 0))], (.ifCond .ne 4, (0, 0, 0, 0)), [4, 3]),
  (21, [], (.return_, (0, 0, 0, 0)), []),
  (22, [(.aload_n 1, (0, 0, 0, 0)), (.aload_n 2, (0, 0, 0, 0)), (.getfield 227, (2, 4, 0, 0)), (.aload_n 1, (0, 0, 0, 0)), (.getfield 154, (6, 10, 0, 0))], (.if_icmp .ge 24, (0, 0, 0, 0)), [7, 5]),
  (34, [(.aload_n 1, (0, 0, 0, 0)), (.getfield 68, (6, 2, 1, 0)), (.aload_n 2, (0, 0, 0, 0)), (.getfield 227, (2, 4, 0, 0)), (.invokevirtual 493, (127, 1, 7, 0))], (.ifCond .lt 10, (0, 0, 0, 0)), [7, 6]),
  (48, [(.aload_n 2, (0, 0, 0, 0)), (.getfield 227, (2, 4, 0, 0))], (.goto 4, (0, 0, 0, 0)), [8]),
  (55, [(.iconst 0, (0, 0, 0, 0))], (.nop, (0, 0, 0, 0)), [8]),
  (56, [(.putfield 157, (6, 14, 0, 0)), (.aload_n 0, (0, 0, 0, 0)), (.aload_n 1, (0, 0, 0, 0)), (.invokevirtual 394, (197, 1, 9, 0))], (.return_, (0, 0, 0, 0)), [])]
/-- 185: TwinVaults.onOffer(LTwinVaults$Store;LTwinVaults$Message;)V -/
def bt_X9_onOffer : List bi_K := [(0, [(.aload_n 1, (0, 0, 0, 0)), (.getfield 68, (6, 2, 1, 0)), (.invokevirtual 130, (133, 0, 7, 0)), (.istore_n 3, (0, 0, 0, 0)), (.aload_n 1, (0, 0, 0, 0)), (.getfield 136, (6, 6, 0, 0))], (.ifCond .ne 11, (0, 0, 0, 0)), [2, 1]),
  (15, [(.aload_n 2, (0, 0, 0, 0)), (.getfield 227, (2, 4, 0, 0)), (.iload_n 3, (0, 0, 0, 0))], (.if_icmp .ge 4, (0, 0, 0, 0)), [3, 2]),
  (23, [], (.return_, (0, 0, 0, 0)), []),
  (24, [(.aload_n 2, (0, 0, 0, 0)), (.getfield 227, (2, 4, 0, 0)), (.iload_n 3, (0, 0, 0, 0))], (.if_icmp .ne 14, (0, 0, 0, 0)), [5, 4]),
  (32, [(.aload_n 0, (0, 0, 0, 0)), (.aload_n 1, (0, 0, 0, 0)), (.iconst 5, (0, 0, 0, 0)), (.aload_n 2, (0, 0, 0, 0)), (.getfield 227, (2, 4, 0, 0)), (.invokevirtual 430, (192, 3, 9, 0))], (.return_, (0, 0, 0, 0)), []),
  (43, [(.aload_n 2, (0, 0, 0, 0)), (.getfield 224, (2, 3, 0, 0))], (.ifCond .eq 20, (0, 0, 0, 0)), [8, 6]),
  (50, [(.aload_n 2, (0, 0, 0, 0)), (.getfield 224, (2, 3, 0, 0)), (.iload_n 3, (0, 0, 0, 0))], (.if_icmp .eq 12, (0, 0, 0, 0)), [8, 7]),
  (58, [(.aload_n 0, (0, 0, 0, 0)), (.aload_n 1, (0, 0, 0, 0)), (.bipush 6, (0, 0, 0, 0)), (.iload_n 3, (0, 0, 0, 0)), (.invokevirtual 430, (192, 3, 9, 0))], (.return_, (0, 0, 0, 0)), []),
  (67, [(.aload_n 1, (0, 0, 0, 0)), (.getfield 307, (6, 3, 1, 0)), (.aload_n 2, (0, 0, 0, 0)), (.getfield 224, (2, 3, 0, 0)), (.aload_n 2, (0, 0, 0, 0)), (.getfield 227, (2, 4, 0, 0)), (.invokevirtual 465, (111, 2, 5, 0))], (.ifCond .ne 22, (0, 0, 0, 0)), [12, 9]),
  (85, [(.aload_n 1, (0, 0, 0, 0)), (.getfield 95, (6, 1, 1, 0)), (.invokevirtual 133, (102, 0, 4, 0))], (.ifCond .ne 4, (0, 0, 0, 0)), [11, 10]),
  (95, [], (.return_, (0, 0, 0, 0)), []),
  (96, [(.aload_n 1, (0, 0, 0, 0)), (.getfield 307, (6, 3, 1, 0)), (.aload_n 2, (0, 0, 0, 0)), (.invokevirtual 468, (107, 1, 5, 0))], (.nop, (0, 0, 0, 0)), [12]),
  (104, [(.aload_n 1, (0, 0, 0, 0)), (.getfield 307, (6, 3, 1, 0)), (.invokevirtual 471, (109, 0, 5, 0))], (.ifCond .eq 11, (0, 0, 0, 0)), [14, 13]),
  (114, [(.aload_n 0, (0, 0, 0, 0)), (.aload_n 1, (0, 0, 0, 0)), (.invokevirtual 474, (160, 1, 9, 0))], (.goto 9, (0, 0, 0, 0)), [15]),
  (122, [(.aload_n 0, (0, 0, 0, 0)), (.aload_n 1, (0, 0, 0, 0)), (.iconst 2, (0, 0, 0, 0)), (.invokevirtual 477, (199, 2, 9, 0))], (.nop, (0, 0, 0, 0)), [15]),
  (128, [], (.return_, (0, 0, 0, 0)), [])]
/-- 186: TwinVaults.pass(II)I -/
def bt_X9_pass : List bi_K := [(0, [(.aload_n 0, (0, 0, 0, 0)), (.getfield 47, (9, 6, 1, 0)), (.iload_n 1, (0, 0, 0, 0)), (.invokevirtual 204, (4, 1, 0, 0)), (.astore_n 3, (0, 0, 0, 0)), (.aload_n 3, (0, 0, 0, 0))], (.ifnull 12, (0, 0, 0, 0)), [3, 1]),
  (13, [(.iload_n 2, (0, 0, 0, 0))], (.ifCond .lt 8, (0, 0, 0, 0)), [3, 2]),
  (17, [(.iload_n 2, (0, 0, 0, 0)), (.iconst 2, (0, 0, 0, 0))], (.if_icmp .le 5, (0, 0, 0, 0)), [4, 3]),
  (22, [(.iconst (-1), (0, 0, 0, 0))], (.ireturn, (0, 0, 0, 0)), []),
  (24, [(.iload_n 2, (0, 0, 0, 0)), (.iconst 2, (0, 0, 0, 0))], (.if_icmp .eq 11, (0, 0, 0, 0)), [6, 5]),
  (29, [(.aload_n 0, (0, 0, 0, 0)), (.getfield 47, (9, 6, 1, 0)), (.iload_n 1, (0, 0, 0, 0)), (.invokevirtual 208, (5, 1, 0, 0))], (.nop, (0, 0, 0, 0)), [6]),
  (37, [(.iload_n 2, (0, 0, 0, 0))], (.ifCond .eq 8, (0, 0, 0, 0)), [8, 7]),
  (41, [(.aload_n 0, (0, 0, 0, 0)), (.aload_n 3, (0, 0, 0, 0)), (.invokevirtual 211, (190, 1, 9, 0))], (.nop, (0, 0, 0, 0)), [8]),
  (46, [(.iconst 1, (0, 0, 0, 0))], (.ireturn, (0, 0, 0, 0)), [])]
/-- 187: TwinVaults.period(I)Z -/
def bt_X9_period : List bi_K := [(0, [(.iload_n 1, (0, 0, 0, 0))], (.ifCond .lt 10, (0, 0, 0, 0)), [2, 1]),
  (4, [(.iload_n 1, (0, 0, 0, 0)), (.sipush 1000, (0, 0, 0, 0))], (.if_icmp .le 5, (0, 0, 0, 0)), [3, 2]),
  (11, [(.iconst 0, (0, 0, 0, 0))], (.ireturn, (1, 0, 0, 0)), []),
  (13, [(.aload_n 0, (0, 0, 0, 0)), (.iload_n 1, (0, 0, 0, 0)), (.putfield 185, (9, 9, 0, 0)), (.iconst 1, (0, 0, 0, 0))], (.ireturn, (1, 0, 0, 0)), [])]
/-- 188: TwinVaults.power(II)Z -/
def bt_X9_power : List bi_K := [(0, [(.iload_n 1, (0, 0, 0, 0))], (.ifCond .lt 19, (0, 0, 0, 0)), [4, 1]),
  (4, [(.iload_n 1, (0, 0, 0, 0)), (.iconst 1, (0, 0, 0, 0))], (.if_icmp .gt 14, (0, 0, 0, 0)), [4, 2]),
  (9, [(.iload_n 2, (0, 0, 0, 0)), (.iconst (-1), (0, 0, 0, 0))], (.if_icmp .lt 9, (0, 0, 0, 0)), [4, 3]),
  (14, [(.iload_n 2, (0, 0, 0, 0)), (.ldc 194, (100000, 0, 0, 0))], (.if_icmp .le 5, (0, 0, 0, 0)), [5, 4]),
  (20, [(.iconst 0, (0, 0, 0, 0))], (.ireturn, (1, 0, 0, 0)), []),
  (22, [(.aload_n 0, (0, 0, 0, 0)), (.getfield 30, (9, 3, 1, 0)), (.iload_n 1, (0, 0, 0, 0)), (.aaload, (0, 0, 0, 0)), (.iload_n 2, (0, 0, 0, 0)), (.putfield 195, (4, 3, 0, 0)), (.iconst 1, (0, 0, 0, 0))], (.ireturn, (1, 0, 0, 0)), [])]
/-- 189: TwinVaults.read(III)I -/
def bt_X9_read : List bi_K := [(0, [(.aload_n 0, (0, 0, 0, 0)), (.iload_n 1, (0, 0, 0, 0)), (.invokevirtual 76, (205, 1, 9, 0)), (.astore 4, (0, 0, 0, 0)), (.aload 4, (0, 0, 0, 0))], (.ifnull 16, (0, 0, 0, 0)), [2, 1]),
  (12, [(.aload 4, (0, 0, 0, 0)), (.getfield 68, (6, 2, 1, 0)), (.iload_n 2, (0, 0, 0, 0)), (.iload_n 3, (0, 0, 0, 0)), (.invokevirtual 80, (128, 2, 7, 0))], (.ifCond .ne 13, (0, 0, 0, 0)), [3, 2]),
  (25, [], (.athrow, (0, 239, 250, 243)), []),
  (35, [(.aload 4, (0, 0, 0, 0)), (.getfield 95, (6, 1, 1, 0)), (.getfield 99, (4, 1, 2, 0))], (.ifCond .ne 13, (0, 0, 0, 0)), [5, 4]),
  (46, [], (.athrow, (1, 252, 254, 256)), []),
  (56, [(.aload 4, (0, 0, 0, 0)), (.getfield 68, (6, 2, 1, 0)), (.iload_n 2, (0, 0, 0, 0)), (.iload_n 3, (0, 0, 0, 0)), (.invokestatic 84, (202, 2, 0, 0)), (.invokevirtual 257, (141, 1, 7, 0))], (.ireturn, (0, 0, 0, 0)), [])]
/-- 190: TwinVaults.receive(LTwinVaults$Message;)V -/
def bt_X9_receive : List bi_K := [(0, [(.aload_n 0, (0, 0, 0, 0)), (.aload_n 1, (0, 0, 0, 0)), (.getfield 220, (2, 1, 0, 0)), (.iconst 4, (0, 0, 0, 0)), (.iadd, (0, 0, 0, 0)), (.bipush 8, (0, 0, 0, 0)), (.irem, (0, 0, 0, 0)), (.invokevirtual 76, (205, 1, 9, 0)), (.astore_n 2, (0, 0, 0, 0)), (.aload_n 2, (0, 0, 0, 0))], (.ifnull 13, (0, 0, 0, 0)), [2, 1]),
  (18, [(.aload_n 2, (0, 0, 0, 0)), (.getfield 95, (6, 1, 1, 0)), (.getfield 99, (4, 1, 2, 0))], (.ifCond .ne 4, (0, 0, 0, 0)), [3, 2]),
  (28, [], (.return_, (0, 0, 0, 0)), []),
  (29, [(.aload_n 1, (0, 0, 0, 0)), (.getfield 223, (2, 2, 0, 0)), (.aload_n 2, (0, 0, 0, 0)), (.getfield 169, (6, 7, 0, 0))], (.if_icmp .ge 37, (0, 0, 0, 0)), [9, 4]),
  (40, [(.aload_n 1, (0, 0, 0, 0)), (.getfield 215, (2, 0, 0, 0)), (.iconst 1, (0, 0, 0, 0))], (.if_icmp .eq 20, (0, 0, 0, 0)), [7, 5]),
  (48, [(.aload_n 1, (0, 0, 0, 0)), (.getfield 215, (2, 0, 0, 0)), (.iconst 3, (0, 0, 0, 0))], (.if_icmp .eq 12, (0, 0, 0, 0)), [7, 6]),
  (56, [(.aload_n 1, (0, 0, 0, 0)), (.getfield 215, (2, 0, 0, 0)), (.bipush 8, (0, 0, 0, 0))], (.if_icmp .ne 11, (0, 0, 0, 0)), [8, 7]),
  (65, [(.aload_n 0, (0, 0, 0, 0)), (.aload_n 2, (0, 0, 0, 0)), (.bipush 7, (0, 0, 0, 0)), (.iconst 0, (0, 0, 0, 0)), (.invokevirtual 430, (192, 3, 9, 0))], (.nop, (0, 0, 0, 0)), [8]),
  (73, [], (.return_, (0, 0, 0, 0)), []),
  (74, [(.aload_n 1, (0, 0, 0, 0)), (.getfield 223, (2, 2, 0, 0)), (.aload_n 2, (0, 0, 0, 0)), (.getfield 169, (6, 7, 0, 0))], (.if_icmp .le 22, (0, 0, 0, 0)), [13, 10]),
  (85, [(.aload_n 2, (0, 0, 0, 0)), (.getfield 95, (6, 1, 1, 0)), (.invokevirtual 133, (102, 0, 4, 0))], (.ifCond .ne 4, (0, 0, 0, 0)), [12, 11]),
  (95, [], (.return_, (0, 0, 0, 0)), []),
  (96, [(.aload_n 2, (0, 0, 0, 0)), (.aload_n 1, (0, 0, 0, 0)), (.getfield 223, (2, 2, 0, 0)), (.invokevirtual 434, (119, 1, 6, 0))], (.nop, (0, 0, 0, 0)), [13]),
  (104, [(.aload_n 1, (0, 0, 0, 0)), (.getfield 215, (2, 0, 0, 0))], (.tableswitch 141 1 11 #[60, 69, 78, 87, 96, 105, 141, 114, 141, 123, 132], (0, 0, 0, 0)), [23, 14, 15, 16, 17, 18, 19, 23, 20, 23, 21, 22]),
  (168, [(.aload_n 0, (0, 0, 0, 0)), (.aload_n 2, (0, 0, 0, 0)), (.aload_n 1, (0, 0, 0, 0)), (.invokevirtual 437, (185, 2, 9, 0))], (.goto 75, (0, 0, 0, 0)), [23]),
  (177, [(.aload_n 0, (0, 0, 0, 0)), (.aload_n 2, (0, 0, 0, 0)), (.aload_n 1, (0, 0, 0, 0)), (.invokevirtual 441, (177, 2, 9, 0))], (.goto 66, (0, 0, 0, 0)), [23]),
  (186, [(.aload_n 0, (0, 0, 0, 0)), (.aload_n 2, (0, 0, 0, 0)), (.aload_n 1, (0, 0, 0, 0)), (.invokevirtual 444, (180, 2, 9, 0))], (.goto 57, (0, 0, 0, 0)), [23]),
  (195, [(.aload_n 0, (0, 0, 0, 0)), (.aload_n 2, (0, 0, 0, 0)), (.aload_n 1, (0, 0, 0, 0)), (.invokevirtual 447, (178, 2, 9, 0))], (.goto 48, (0, 0, 0, 0)), [23]),
  (204, [(.aload_n 0, (0, 0, 0, 0)), (.aload_n 2, (0, 0, 0, 0)), (.aload_n 1, (0, 0, 0, 0)), (.invokevirtual 450, (182, 2, 9, 0))], (.goto 39, (0, 0, 0, 0)), [23]),
  (213, [(.aload_n 0, (0, 0, 0, 0)), (.aload_n 2, (0, 0, 0, 0)), (.aload_n 1, (0, 0, 0, 0)), (.invokevirtual 453, (184, 2, 9, 0))], (.goto 30, (0, 0, 0, 0)), [23]),
  (222, [(.aload_n 0, (0, 0, 0, 0)), (.aload_n 2, (0, 0, 0, 0)), (.aload_n 1, (0, 0, 0, 0)), (.invokevirtual 456, (181, 2, 9, 0))], (.goto 21, (0, 0, 0, 0)), [23]),
  (231, [(.aload_n 0, (0, 0, 0, 0)), (.aload_n 2, (0, 0, 0, 0)), (.aload_n 1, (0, 0, 0, 0)), (.invokevirtual 459, (183, 2, 9, 0))], (.goto 12, (0, 0, 0, 0)), [23]),
  (240, [(.aload_n 0, (0, 0, 0, 0)), (.aload_n 2, (0, 0, 0, 0)), (.aload_n 1, (0, 0, 0, 0)), (.invokevirtual 462, (179, 2, 9, 0))], (.goto 3, (0, 0, 0, 0)), [23]),
  (249, [], (.return_, (0, 0, 0, 0)), [])]
/-- 191: TwinVaults.refusalOf(LTwinVaults$Store;I)I -/
def bt_X9_refusalOf : List bi_K := [(0, [(.aload_n 0, (0, 0, 0, 0))], (.ifnonnull 6, (0, 0, 0, 0)), [2, 1]),
  (4, [(.bipush (-2), (0, 0, 0, 0))], (.ireturn, (0, 0, 0, 0)), []),
  (7, [(.aload_n 0, (0, 0, 0, 0)), (.getfield 95, (6, 1, 1, 0)), (.getfield 99, (4, 1, 2, 0))], (.ifCond .ne 6, (0, 0, 0, 0)), [4, 3]),
  (17, [(.bipush (-3), (0, 0, 0, 0))], (.ireturn, (0, 0, 0, 0)), []),
  (20, [(.aload_n 0, (0, 0, 0, 0)), (.getfield 136, (6, 6, 0, 0)), (.iload_n 1, (0, 0, 0, 0))], (.if_icmp .ne 7, (0, 0, 0, 0)), [6, 5]),
  (28, [(.iconst 0, (0, 0, 0, 0))], (.goto 5, (0, 0, 0, 0)), [7]),
  (32, [(.bipush (-4), (0, 0, 0, 0))], (.nop, (0, 0, 0, 0)), [7]),
  (34, [], (.ireturn, (0, 0, 0, 0)), [])]
/-- 192: TwinVaults.send(LTwinVaults$Store;II)V -/
def bt_X9_send : List bi_K := [(0, [(.aload_n 0, (0, 0, 0, 0)), (.getfield 47, (9, 6, 1, 0)), (.new 216, (2, 9, 0, 0)), (.dup, (0, 0, 0, 0)), (.aload_n 1, (0, 0, 0, 0)), (.iload_n 2, (0, 0, 0, 0)), (.iconst 0, (0, 0, 0, 0)), (.iload_n 3, (0, 0, 0, 0)), (.invokespecial 403, (95, 4, 2, 0)), (.invokevirtual 406, (3, 1, 0, 0))], (.return_, (0, 0, 0, 0)), [])]
/-- 193: TwinVaults.sendData(LTwinVaults$Store;I)V -/
def bt_X9_sendData : List bi_K := [(0, [(.new 216, (2, 9, 0, 0)), (.dup, (0, 0, 0, 0)), (.aload_n 1, (0, 0, 0, 0)), (.iconst 3, (0, 0, 0, 0)), (.aload_n 1, (0, 0, 0, 0)), (.getfield 157, (6, 14, 0, 0)), (.aload_n 1, (0, 0, 0, 0)), (.getfield 154, (6, 10, 0, 0)), (.invokespecial 403, (95, 4, 2, 0)), (.astore_n 3, (0, 0, 0, 0)), (.aload_n 3, (0, 0, 0, 0)), (.iload_n 2, (0, 0, 0, 0)), (.putfield 230, (2, 5, 0, 0)), (.iconst 4, (0, 0, 0, 0)), (.iload_n 2, (0, 0, 0, 0)), (.imul, (0, 0, 0, 0)), (.istore 4, (0, 0, 0, 0)), (.iconst 0, (0, 0, 0, 0)), (.iconst 4, (0, 0, 0, 0)), (.aload_n 1, (0, 0, 0, 0)), (.getfield 412, (6, 4, 1, 0)), (.getfield 326, (3, 3, 0, 0)), (.iload 4, (0, 0, 0, 0)), (.isub, (0, 0, 0, 0)), (.invokestatic 7, (2, 2, 0, 0)), (.invokestatic 13, (1, 2, 0, 0)), (.istore 5, (0, 0, 0, 0)), (.aload_n 3, (0, 0, 0, 0)), (.iconst 3, (0, 0, 0, 0)), (.iload 5, (0, 0, 0, 0)), (.imul, (0, 0, 0, 0)), (.newarray .int, (0, 0, 0, 0)), (.putfield 246, (2, 8, 1, 0)), (.iconst 0, (0, 0, 0, 0)), (.istore 6, (0, 0, 0, 0))], (.nop, (0, 0, 0, 0)), [1]),
  (61, [(.iload 6, (0, 0, 0, 0)), (.iload 5, (0, 0, 0, 0))], (.if_icmp .ge 62, (0, 0, 0, 0)), [6, 2]),
  (68, [(.aload_n 1, (0, 0, 0, 0)), (.getfield 412, (6, 4, 1, 0)), (.getfield 337, (3, 2, 1, 0)), (.iload 4, (0, 0, 0, 0)), (.iload 6, (0, 0, 0, 0)), (.iadd, (0, 0, 0, 0)), (.iaload, (0, 0, 0, 0)), (.istore 7, (0, 0, 0, 0)), (.iconst 0, (0, 0, 0, 0)), (.istore 8, (0, 0, 0, 0))], (.nop, (0, 0, 0, 0)), [3]),
  (86, [(.iload 8, (0, 0, 0, 0)), (.iconst 3, (0, 0, 0, 0))], (.if_icmp .ge 32, (0, 0, 0, 0)), [5, 4]),
  (92, [(.aload_n 3, (0, 0, 0, 0)), (.getfield 246, (2, 8, 1, 0)), (.iconst 3, (0, 0, 0, 0)), (.iload 6, (0, 0, 0, 0)), (.imul, (0, 0, 0, 0)), (.iload 8, (0, 0, 0, 0)), (.iadd, (0, 0, 0, 0)), (.aload_n 0, (0, 0, 0, 0)), (.getfield 40, (9, 5, 1, 0)), (.iload 7, (0, 0, 0, 0)), (.iload 8, (0, 0, 0, 0)), (.invokevirtual 340, (156, 2, 8, 0)), (.iastore, (0, 0, 0, 0)), (.iinc 8 1, (0, 0, 0, 0))], (.goto (-32), (0, 0, 0, 0)), [3]),
  (121, [(.iinc 6 1, (0, 0, 0, 0))], (.goto (-63), (0, 0, 0, 0)), [1]),
  (127, [(.aload_n 0, (0, 0, 0, 0)), (.getfield 47, (9, 6, 1, 0)), (.aload_n 3, (0, 0, 0, 0)), (.invokevirtual 406, (3, 1, 0, 0))], (.return_, (0, 0, 0, 0)), [])]
/-- 194: TwinVaults.sendForward(LTwinVaults$Store;)V -/
def bt_X9_sendForward : List bi_K := [(0, [(.aload_n 1, (0, 0, 0, 0)), (.getfield 154, (6, 10, 0, 0))], (.ifCond .eq 18, (0, 0, 0, 0)), [3, 1]),
  (7, [(.aload_n 1, (0, 0, 0, 0)), (.invokevirtual 391, (122, 0, 6, 0))], (.ifCond .eq 75, (0, 0, 0, 0)), [8, 2]),
  (14, [(.aload_n 0, (0, 0, 0, 0)), (.aload_n 1, (0, 0, 0, 0)), (.invokevirtual 394, (197, 1, 9, 0))], (.goto 67, (0, 0, 0, 0)), [8]),
  (22, [(.aload_n 1, (0, 0, 0, 0)), (.getfield 68, (6, 2, 1, 0)), (.invokevirtual 130, (133, 0, 7, 0)), (.aload_n 1, (0, 0, 0, 0)), (.getfield 151, (6, 9, 0, 0))], (.if_icmp .eq 40, (0, 0, 0, 0)), [6, 4]),
  (36, [(.aload_n 1, (0, 0, 0, 0)), (.getfield 95, (6, 1, 1, 0)), (.invokevirtual 133, (102, 0, 4, 0))], (.ifCond .eq 43, (0, 0, 0, 0)), [8, 5]),
  (46, [(.aload_n 1, (0, 0, 0, 0)), (.aload_n 1, (0, 0, 0, 0)), (.getfield 68, (6, 2, 1, 0)), (.invokevirtual 130, (133, 0, 7, 0)), (.putfield 154, (6, 10, 0, 0)), (.aload_n 1, (0, 0, 0, 0)), (.aload_n 1, (0, 0, 0, 0)), (.getfield 151, (6, 9, 0, 0)), (.putfield 157, (6, 14, 0, 0)), (.aload_n 0, (0, 0, 0, 0)), (.aload_n 1, (0, 0, 0, 0)), (.invokevirtual 394, (197, 1, 9, 0))], (.goto 16, (0, 0, 0, 0)), [8]),
  (73, [(.aload_n 1, (0, 0, 0, 0)), (.getfield 136, (6, 6, 0, 0)), (.iconst 2, (0, 0, 0, 0))], (.if_icmp .ne 8, (0, 0, 0, 0)), [8, 7]),
  (81, [(.aload_n 0, (0, 0, 0, 0)), (.aload_n 1, (0, 0, 0, 0)), (.invokevirtual 397, (169, 1, 9, 0))], (.nop, (0, 0, 0, 0)), [8]),
  (86, [], (.return_, (0, 0, 0, 0)), [])]
/-- 195: TwinVaults.sendGive(LTwinVaults$Store;)V -/
def bt_X9_sendGive : List bi_K := [(0, [(.aload_n 1, (0, 0, 0, 0)), (.iconst 0, (0, 0, 0, 0)), (.putfield 163, (6, 18, 0, 0)), (.new 216, (2, 9, 0, 0)), (.dup, (0, 0, 0, 0)), (.aload_n 1, (0, 0, 0, 0)), (.bipush 8, (0, 0, 0, 0)), (.iconst 0, (0, 0, 0, 0)), (.aload_n 1, (0, 0, 0, 0)), (.getfield 68, (6, 2, 1, 0)), (.invokevirtual 130, (133, 0, 7, 0)), (.invokespecial 403, (95, 4, 2, 0)), (.astore_n 2, (0, 0, 0, 0)), (.aload_n 2, (0, 0, 0, 0)), (.aload_n 1, (0, 0, 0, 0)), (.getfield 139, (6, 13, 0, 0)), (.putfield 230, (2, 5, 0, 0)), (.aload_n 0, (0, 0, 0, 0)), (.getfield 47, (9, 6, 1, 0)), (.aload_n 2, (0, 0, 0, 0)), (.invokevirtual 406, (3, 1, 0, 0))], (.return_, (0, 0, 0, 0)), [])]
/-- 196: TwinVaults.sendHello(LTwinVaults$Store;)V -/
def bt_X9_sendHello : List bi_K := [(0, [(.aload_n 1, (0, 0, 0, 0)), (.iconst 0, (0, 0, 0, 0)), (.putfield 163, (6, 18, 0, 0)), (.new 216, (2, 9, 0, 0)), (.dup, (0, 0, 0, 0)), (.aload_n 1, (0, 0, 0, 0)), (.bipush 10, (0, 0, 0, 0)), (.iconst 0, (0, 0, 0, 0)), (.iconst 0, (0, 0, 0, 0)), (.invokespecial 403, (95, 4, 2, 0)), (.astore_n 2, (0, 0, 0, 0)), (.aload_n 1, (0, 0, 0, 0)), (.getfield 68, (6, 2, 1, 0)), (.getfield 298, (7, 9, 0, 0)), (.istore_n 3, (0, 0, 0, 0)), (.aload_n 2, (0, 0, 0, 0)), (.iconst 3, (0, 0, 0, 0)), (.iload_n 3, (0, 0, 0, 0)), (.imul, (0, 0, 0, 0)), (.newarray .int, (0, 0, 0, 0)), (.putfield 246, (2, 8, 1, 0)), (.iconst 0, (0, 0, 0, 0)), (.istore 4, (0, 0, 0, 0))], (.nop, (0, 0, 0, 0)), [1]),
  (38, [(.iload 4, (0, 0, 0, 0)), (.iload_n 3, (0, 0, 0, 0))], (.if_icmp .ge 32, (0, 0, 0, 0)), [3, 2]),
  (44, [(.aload_n 2, (0, 0, 0, 0)), (.getfield 246, (2, 8, 1, 0)), (.iconst 3, (0, 0, 0, 0)), (.iload 4, (0, 0, 0, 0)), (.imul, (0, 0, 0, 0)), (.aload_n 1, (0, 0, 0, 0)), (.getfield 68, (6, 2, 1, 0)), (.getfield 332, (7, 7, 1, 0)), (.iload_n 3, (0, 0, 0, 0)), (.iconst 1, (0, 0, 0, 0)), (.isub, (0, 0, 0, 0)), (.iload 4, (0, 0, 0, 0)), (.isub, (0, 0, 0, 0)), (.iaload, (0, 0, 0, 0)), (.iastore, (0, 0, 0, 0)), (.iinc 4 1, (0, 0, 0, 0))], (.goto (-32), (0, 0, 0, 0)), [1]),
  (73, [(.aload_n 0, (0, 0, 0, 0)), (.getfield 47, (9, 6, 1, 0)), (.aload_n 2, (0, 0, 0, 0)), (.invokevirtual 406, (3, 1, 0, 0))], (.return_, (0, 0, 0, 0)), [])]
/-- 197: TwinVaults.sendOffer(LTwinVaults$Store;)V -/
def bt_X9_sendOffer : List bi_K := [(0, [(.aload_n 1, (0, 0, 0, 0)), (.iconst 1, (0, 0, 0, 0)), (.putfield 160, (6, 15, 0, 0)), (.aload_n 1, (0, 0, 0, 0)), (.iconst 0, (0, 0, 0, 0)), (.putfield 163, (6, 18, 0, 0)), (.aload_n 1, (0, 0, 0, 0)), (.getfield 68, (6, 2, 1, 0)), (.aload_n 1, (0, 0, 0, 0)), (.getfield 154, (6, 10, 0, 0)), (.invokevirtual 409, (138, 1, 7, 0)), (.istore_n 2, (0, 0, 0, 0)), (.aload_n 0, (0, 0, 0, 0)), (.getfield 40, (9, 5, 1, 0)), (.aload_n 1, (0, 0, 0, 0)), (.getfield 412, (6, 4, 1, 0)), (.iload_n 2, (0, 0, 0, 0)), (.aload_n 1, (0, 0, 0, 0)), (.getfield 68, (6, 2, 1, 0)), (.aload_n 1, (0, 0, 0, 0)), (.getfield 157, (6, 14, 0, 0)), (.invokevirtual 415, (137, 1, 7, 0)), (.invokevirtual 418, (150, 3, 8, 0)), (.new 216, (2, 9, 0, 0)), (.dup, (0, 0, 0, 0)), (.aload_n 1, (0, 0, 0, 0)), (.iconst 1, (0, 0, 0, 0)), (.aload_n 1, (0, 0, 0, 0)), (.getfield 157, (6, 14, 0, 0)), (.aload_n 1, (0, 0, 0, 0)), (.getfield 154, (6, 10, 0, 0)), (.invokespecial 403, (95, 4, 2, 0)), (.astore_n 3, (0, 0, 0, 0)), (.aload_n 3, (0, 0, 0, 0)), (.aload_n 1, (0, 0, 0, 0)), (.getfield 412, (6, 4, 1, 0)), (.getfield 326, (3, 3, 0, 0)), (.putfield 230, (2, 5, 0, 0)), (.aload_n 3, (0, 0, 0, 0)), (.aload_n 0, (0, 0, 0, 0)), (.getfield 40, (9, 5, 1, 0)), (.getfield 286, (8, 5, 1, 0)), (.iload_n 2, (0, 0, 0, 0)), (.iaload, (0, 0, 0, 0)), (.putfield 233, (2, 6, 0, 0)), (.aload_n 3, (0, 0, 0, 0)), (.iload_n 2, (0, 0, 0, 0)), (.putfield 422, (2, 7, 0, 0)), (.aload_n 0, (0, 0, 0, 0)), (.getfield 47, (9, 6, 1, 0)), (.aload_n 3, (0, 0, 0, 0)), (.invokevirtual 406, (3, 1, 0, 0))], (.return_, (0, 0, 0, 0)), [])]
/-- 198: TwinVaults.sendOn(LTwinVaults$Store;)V -/
def bt_X9_sendOn : List bi_K := [(0, [(.aload_n 0, (0, 0, 0, 0)), (.getfield 40, (9, 5, 1, 0)), (.aload_n 1, (0, 0, 0, 0)), (.getfield 412, (6, 4, 1, 0)), (.aload_n 1, (0, 0, 0, 0)), (.getfield 68, (6, 2, 1, 0)), (.aload_n 1, (0, 0, 0, 0)), (.getfield 154, (6, 10, 0, 0)), (.invokevirtual 409, (138, 1, 7, 0)), (.aload_n 1, (0, 0, 0, 0)), (.getfield 68, (6, 2, 1, 0)), (.aload_n 1, (0, 0, 0, 0)), (.getfield 157, (6, 14, 0, 0)), (.invokevirtual 415, (137, 1, 7, 0)), (.invokevirtual 418, (150, 3, 8, 0)), (.aload_n 1, (0, 0, 0, 0)), (.getfield 301, (6, 16, 0, 0)), (.aload_n 0, (0, 0, 0, 0)), (.getfield 25, (9, 2, 0, 0)), (.iadd, (0, 0, 0, 0)), (.aload_n 1, (0, 0, 0, 0)), (.getfield 412, (6, 4, 1, 0)), (.getfield 326, (3, 3, 0, 0)), (.iconst 4, (0, 0, 0, 0)), (.iadd, (0, 0, 0, 0)), (.iconst 1, (0, 0, 0, 0)), (.isub, (0, 0, 0, 0)), (.iconst 4, (0, 0, 0, 0)), (.idiv, (0, 0, 0, 0)), (.invokestatic 7, (2, 2, 0, 0)), (.istore_n 2, (0, 0, 0, 0)), (.aload_n 1, (0, 0, 0, 0)), (.getfield 304, (6, 17, 0, 0)), (.istore_n 3, (0, 0, 0, 0))], (.nop, (0, 0, 0, 0)), [1]),
  (64, [(.iload_n 3, (0, 0, 0, 0)), (.iload_n 2, (0, 0, 0, 0))], (.if_icmp .ge 25, (0, 0, 0, 0)), [3, 2]),
  (69, [(.aload_n 0, (0, 0, 0, 0)), (.aload_n 1, (0, 0, 0, 0)), (.iload_n 3, (0, 0, 0, 0)), (.invokevirtual 426, (193, 2, 9, 0)), (.aload_n 1, (0, 0, 0, 0)), (.dup, (0, 0, 0, 0)), (.getfield 304, (6, 17, 0, 0)), (.iconst 1, (0, 0, 0, 0)), (.iadd, (0, 0, 0, 0)), (.putfield 304, (6, 17, 0, 0)), (.iinc 3 1, (0, 0, 0, 0))], (.goto (-24), (0, 0, 0, 0)), [1]),
  (91, [], (.return_, (0, 0, 0, 0)), [])]
/-- 199: TwinVaults.sendProgress(LTwinVaults$Store;I)V -/
def bt_X9_sendProgress : List bi_K := [(0, [(.new 216, (2, 9, 0, 0)), (.dup, (0, 0, 0, 0)), (.aload_n 1, (0, 0, 0, 0)), (.iload_n 2, (0, 0, 0, 0)), (.aload_n 1, (0, 0, 0, 0)), (.getfield 307, (6, 3, 1, 0)), (.getfield 425, (5, 0, 0, 0)), (.aload_n 1, (0, 0, 0, 0)), (.getfield 307, (6, 3, 1, 0)), (.getfield 316, (5, 1, 0, 0)), (.invokespecial 403, (95, 4, 2, 0)), (.astore_n 3, (0, 0, 0, 0)), (.aload_n 3, (0, 0, 0, 0)), (.aload_n 1, (0, 0, 0, 0)), (.getfield 307, (6, 3, 1, 0)), (.getfield 311, (5, 4, 0, 0)), (.putfield 230, (2, 5, 0, 0)), (.aload_n 0, (0, 0, 0, 0)), (.getfield 47, (9, 6, 1, 0)), (.aload_n 3, (0, 0, 0, 0)), (.invokevirtual 406, (3, 1, 0, 0))], (.return_, (0, 0, 0, 0)), [])]
/-- 200: TwinVaults.snap(III)I -/
def bt_X9_snap : List bi_K := [(0, [(.aload_n 0, (0, 0, 0, 0)), (.iload_n 1, (0, 0, 0, 0)), (.invokevirtual 76, (205, 1, 9, 0)), (.astore 4, (0, 0, 0, 0)), (.aload 4, (0, 0, 0, 0))], (.ifnull 24, (0, 0, 0, 0)), [4, 1]),
  (12, [(.aload 4, (0, 0, 0, 0)), (.getfield 68, (6, 2, 1, 0)), (.iload_n 2, (0, 0, 0, 0)), (.invokevirtual 261, (129, 1, 7, 0))], (.ifCond .eq 12, (0, 0, 0, 0)), [4, 2]),
  (24, [(.iload_n 3, (0, 0, 0, 0))], (.ifCond .lt 8, (0, 0, 0, 0)), [4, 3]),
  (28, [(.iload_n 3, (0, 0, 0, 0)), (.iconst 1, (0, 0, 0, 0))], (.if_icmp .le 6, (0, 0, 0, 0)), [5, 4]),
  (33, [(.bipush (-2), (0, 0, 0, 0))], (.ireturn, (0, 0, 0, 0)), []),
  (36, [(.iload_n 3, (0, 0, 0, 0))], (.ifCond .ne 16, (0, 0, 0, 0)), [7, 6]),
  (40, [(.aload 4, (0, 0, 0, 0)), (.getfield 68, (6, 2, 1, 0)), (.getfield 332, (7, 7, 1, 0)), (.iload_n 2, (0, 0, 0, 0)), (.iaload, (0, 0, 0, 0))], (.goto 12, (0, 0, 0, 0)), [8]),
  (53, [(.aload 4, (0, 0, 0, 0)), (.getfield 68, (6, 2, 1, 0)), (.iload_n 2, (0, 0, 0, 0)), (.invokevirtual 280, (136, 1, 7, 0))], (.nop, (0, 0, 0, 0)), [8]),
  (62, [], (.ireturn, (0, 0, 0, 0)), [])]
/-- 201: TwinVaults.snapshot(I)I -/
def bt_X9_snapshot : List bi_K := [(0, [(.aload_n 0, (0, 0, 0, 0)), (.iload_n 1, (0, 0, 0, 0)), (.invokevirtual 76, (205, 1, 9, 0)), (.astore_n 2, (0, 0, 0, 0)), (.aload_n 2, (0, 0, 0, 0)), (.iconst 1, (0, 0, 0, 0)), (.invokestatic 116, (191, 2, 0, 0)), (.istore_n 3, (0, 0, 0, 0)), (.iload_n 3, (0, 0, 0, 0))], (.ifCond .eq 5, (0, 0, 0, 0)), [2, 1]),
  (16, [(.iload_n 3, (0, 0, 0, 0))], (.ireturn, (0, 0, 0, 0)), []),
  (18, [(.aload_n 2, (0, 0, 0, 0)), (.getfield 68, (6, 2, 1, 0)), (.invokevirtual 120, (140, 0, 7, 0))], (.ifCond .eq 5, (0, 0, 0, 0)), [4, 3]),
  (28, [(.iconst 0, (0, 0, 0, 0))], (.ireturn, (0, 0, 0, 0)), []),
  (30, [(.aload_n 2, (0, 0, 0, 0)), (.getfield 124, (6, 8, 0, 0)), (.sipush 4095, (0, 0, 0, 0))], (.if_icmp .lt 6, (0, 0, 0, 0)), [6, 5]),
  (40, [(.bipush (-5), (0, 0, 0, 0))], (.ireturn, (0, 0, 0, 0)), []),
  (43, [(.aload_n 0, (0, 0, 0, 0)), (.aload_n 2, (0, 0, 0, 0)), (.invokevirtual 127, (209, 1, 9, 0))], (.ifCond .eq 13, (0, 0, 0, 0)), [8, 7]),
  (51, [(.aload_n 2, (0, 0, 0, 0)), (.getfield 68, (6, 2, 1, 0)), (.invokevirtual 130, (133, 0, 7, 0))], (.goto 5, (0, 0, 0, 0)), [9]),
  (61, [(.bipush (-3), (0, 0, 0, 0))], (.nop, (0, 0, 0, 0)), [9]),
  (63, [], (.ireturn, (0, 0, 0, 0)), [])]
/-- 202: TwinVaults.spotOf(II)I -/
def bt_X9_spotOf : List bi_K := [(0, [(.sipush 4096, (0, 0, 0, 0)), (.iload_n 0, (0, 0, 0, 0)), (.imul, (0, 0, 0, 0)), (.iload_n 1, (0, 0, 0, 0)), (.iadd, (0, 0, 0, 0))], (.ireturn, (0, 0, 0, 0)), [])]
/-- 203: TwinVaults.state(II)I -/
def bt_X9_state : List bi_K := [(0, [(.aload_n 0, (0, 0, 0, 0)), (.iload_n 1, (0, 0, 0, 0)), (.invokevirtual 76, (205, 1, 9, 0)), (.astore_n 3, (0, 0, 0, 0)), (.aload_n 3, (0, 0, 0, 0))], (.ifnonnull 6, (0, 0, 0, 0)), [2, 1]),
  (10, [(.bipush (-2), (0, 0, 0, 0))], (.ireturn, (0, 0, 0, 0)), []),
  (13, [(.iload_n 2, (0, 0, 0, 0))], (.tableswitch 301 0 24 #[114, 119, 124, 140, 156, 172, 180, 188, 193, 198, 203, 208, 213, 218, 223, 228, 233, 238, 251, 259, 267, 275, 283, 291, 296], (0, 0, 0, 0)), [31, 3, 4, 5, 6, 7, 8, 9, 10, 11, 12, 13, 14, 15, 16, 17, 18, 19, 20, 24, 25, 26, 27, 28, 29, 30]),
  (128, [(.aload_n 3, (0, 0, 0, 0)), (.getfield 136, (6, 6, 0, 0))], (.ireturn, (0, 0, 0, 0)), []),
  (133, [(.aload_n 3, (0, 0, 0, 0)), (.getfield 169, (6, 7, 0, 0))], (.ireturn, (0, 0, 0, 0)), []),
  (138, [(.aload_n 0, (0, 0, 0, 0)), (.getfield 40, (9, 5, 1, 0)), (.getfield 286, (8, 5, 1, 0)), (.aload_n 3, (0, 0, 0, 0)), (.getfield 68, (6, 2, 1, 0)), (.getfield 289, (7, 4, 0, 0)), (.iaload, (0, 0, 0, 0))], (.ireturn, (0, 0, 0, 0)), []),
  (154, [(.aload_n 0, (0, 0, 0, 0)), (.getfield 40, (9, 5, 1, 0)), (.getfield 286, (8, 5, 1, 0)), (.aload_n 3, (0, 0, 0, 0)), (.getfield 68, (6, 2, 1, 0)), (.getfield 292, (7, 5, 0, 0)), (.iaload, (0, 0, 0, 0))], (.ireturn, (0, 0, 0, 0)), []),
  (170, [(.aload_n 0, (0, 0, 0, 0)), (.getfield 40, (9, 5, 1, 0)), (.getfield 286, (8, 5, 1, 0)), (.aload_n 3, (0, 0, 0, 0)), (.getfield 68, (6, 2, 1, 0)), (.getfield 295, (7, 6, 0, 0)), (.iaload, (0, 0, 0, 0))], (.ireturn, (0, 0, 0, 0)), []),
  (186, [(.aload_n 3, (0, 0, 0, 0)), (.getfield 68, (6, 2, 1, 0)), (.getfield 298, (7, 9, 0, 0))], (.ireturn, (0, 0, 0, 0)), []),
  (194, [(.aload_n 3, (0, 0, 0, 0)), (.getfield 68, (6, 2, 1, 0)), (.invokevirtual 130, (133, 0, 7, 0))], (.ireturn, (0, 0, 0, 0)), []),
  (202, [(.aload_n 3, (0, 0, 0, 0)), (.getfield 151, (6, 9, 0, 0))], (.ireturn, (0, 0, 0, 0)), []),
  (207, [(.aload_n 3, (0, 0, 0, 0)), (.getfield 154, (6, 10, 0, 0))], (.ireturn, (0, 0, 0, 0)), []),
  (212, [(.aload_n 3, (0, 0, 0, 0)), (.getfield 145, (6, 11, 0, 0))], (.ireturn, (0, 0, 0, 0)), []),
  (217, [(.aload_n 3, (0, 0, 0, 0)), (.getfield 148, (6, 12, 0, 0))], (.ireturn, (0, 0, 0, 0)), []),
  (222, [(.aload_n 3, (0, 0, 0, 0)), (.getfield 139, (6, 13, 0, 0))], (.ireturn, (0, 0, 0, 0)), []),
  (227, [(.aload_n 3, (0, 0, 0, 0)), (.getfield 157, (6, 14, 0, 0))], (.ireturn, (0, 0, 0, 0)), []),
  (232, [(.aload_n 3, (0, 0, 0, 0)), (.getfield 160, (6, 15, 0, 0))], (.ireturn, (0, 0, 0, 0)), []),
  (237, [(.aload_n 3, (0, 0, 0, 0)), (.getfield 301, (6, 16, 0, 0))], (.ireturn, (0, 0, 0, 0)), []),
  (242, [(.aload_n 3, (0, 0, 0, 0)), (.getfield 304, (6, 17, 0, 0))], (.ireturn, (0, 0, 0, 0)), []),
  (247, [(.aload_n 3, (0, 0, 0, 0)), (.getfield 163, (6, 18, 0, 0))], (.ireturn, (0, 0, 0, 0)), []),
  (252, [(.aload_n 3, (0, 0, 0, 0)), (.getfield 166, (6, 19, 2, 0))], (.ifCond .eq 7, (0, 0, 0, 0)), [22, 21]),
  (259, [(.iconst 1, (0, 0, 0, 0))], (.goto 4, (0, 0, 0, 0)), [23]),
  (263, [(.iconst 0, (0, 0, 0, 0))], (.nop, (0, 0, 0, 0)), [23]),
  (264, [], (.ireturn, (0, 0, 0, 0)), []),
  (265, [(.aload_n 3, (0, 0, 0, 0)), (.getfield 307, (6, 3, 1, 0)), (.getfield 311, (5, 4, 0, 0))], (.ireturn, (0, 0, 0, 0)), []),
  (273, [(.aload_n 3, (0, 0, 0, 0)), (.getfield 307, (6, 3, 1, 0)), (.getfield 314, (5, 5, 0, 0))], (.ireturn, (0, 0, 0, 0)), []),
  (281, [(.aload_n 3, (0, 0, 0, 0)), (.getfield 307, (6, 3, 1, 0)), (.getfield 316, (5, 1, 0, 0))], (.ireturn, (0, 0, 0, 0)), []),
  (289, [(.aload_n 3, (0, 0, 0, 0)), (.getfield 307, (6, 3, 1, 0)), (.getfield 319, (5, 6, 0, 0))], (.ireturn, (0, 0, 0, 0)), []),
  (297, [(.aload_n 3, (0, 0, 0, 0)), (.getfield 322, (6, 5, 1, 0)), (.getfield 326, (3, 3, 0, 0))], (.ireturn, (0, 0, 0, 0)), []),
  (305, [(.aload_n 3, (0, 0, 0, 0)), (.invokevirtual 329, (113, 0, 6, 0))], (.ireturn, (0, 0, 0, 0)), []),
  (310, [(.aload_n 3, (0, 0, 0, 0)), (.getfield 124, (6, 8, 0, 0))], (.ireturn, (0, 0, 0, 0)), []),
  (315, [(.bipush (-2), (0, 0, 0, 0))], (.ireturn, (0, 0, 0, 0)), [])]
/-- 204: TwinVaults.stay(I)I -/
def bt_X9_stay : List bi_K := [(0, [(.aload_n 0, (0, 0, 0, 0)), (.iload_n 1, (0, 0, 0, 0)), (.invokevirtual 76, (205, 1, 9, 0)), (.astore_n 2, (0, 0, 0, 0)), (.aload_n 2, (0, 0, 0, 0)), (.iconst 2, (0, 0, 0, 0)), (.invokestatic 116, (191, 2, 0, 0)), (.istore_n 3, (0, 0, 0, 0)), (.iload_n 3, (0, 0, 0, 0))], (.ifCond .eq 5, (0, 0, 0, 0)), [2, 1]),
  (16, [(.iload_n 3, (0, 0, 0, 0))], (.ireturn, (0, 0, 0, 0)), []),
  (18, [(.aload_n 2, (0, 0, 0, 0)), (.getfield 139, (6, 13, 0, 0))], (.ifCond .eq 6, (0, 0, 0, 0)), [4, 3]),
  (25, [(.bipush (-4), (0, 0, 0, 0))], (.ireturn, (0, 0, 0, 0)), []),
  (28, [(.aload_n 2, (0, 0, 0, 0)), (.getfield 95, (6, 1, 1, 0)), (.invokevirtual 133, (102, 0, 4, 0))], (.ifCond .ne 6, (0, 0, 0, 0)), [6, 5]),
  (38, [(.bipush (-3), (0, 0, 0, 0))], (.ireturn, (0, 0, 0, 0)), []),
  (41, [(.aload_n 2, (0, 0, 0, 0)), (.iconst 1, (0, 0, 0, 0)), (.putfield 136, (6, 6, 0, 0)), (.iconst 0, (0, 0, 0, 0))], (.ireturn, (0, 0, 0, 0)), [])]
/-- 205: TwinVaults.storeOf(I)LTwinVaults$Store; -/
def bt_X9_storeOf : List bi_K := [(0, [(.iload_n 1, (0, 0, 0, 0))], (.ifCond .lt 19, (0, 0, 0, 0)), [3, 1]),
  (4, [(.iload_n 1, (0, 0, 0, 0)), (.bipush 8, (0, 0, 0, 0))], (.if_icmp .ge 13, (0, 0, 0, 0)), [3, 2]),
  (10, [(.iload_n 1, (0, 0, 0, 0)), (.iconst 4, (0, 0, 0, 0)), (.irem, (0, 0, 0, 0)), (.aload_n 0, (0, 0, 0, 0)), (.getfield 65, (9, 7, 0, 0))], (.if_icmp .lt 7, (0, 0, 0, 0)), [4, 3]),
  (20, [(.aconst_null, (0, 0, 0, 0))], (.goto 9, (0, 0, 0, 0)), [5]),
  (24, [(.aload_n 0, (0, 0, 0, 0)), (.getfield 53, (9, 4, 1, 0)), (.iload_n 1, (0, 0, 0, 0)), (.aaload, (0, 0, 0, 0))], (.nop, (0, 0, 0, 0)), [5]),
  (30, [], (.areturn, (0, 0, 0, 0)), [])]
/-- 206: TwinVaults.sum(II)I -/
def bt_X9_sum : List bi_K := [(0, [(.aload_n 0, (0, 0, 0, 0)), (.iload_n 1, (0, 0, 0, 0)), (.invokevirtual 76, (205, 1, 9, 0)), (.astore_n 3, (0, 0, 0, 0)), (.aload_n 3, (0, 0, 0, 0))], (.ifnull 15, (0, 0, 0, 0)), [2, 1]),
  (10, [(.aload_n 3, (0, 0, 0, 0)), (.getfield 68, (6, 2, 1, 0)), (.iload_n 2, (0, 0, 0, 0)), (.iconst 0, (0, 0, 0, 0)), (.invokevirtual 80, (128, 2, 7, 0))], (.ifCond .ne 14, (0, 0, 0, 0)), [3, 2]),
  (22, [], (.athrow, (0, 239, 270, 243)), []),
  (33, [(.aload_n 3, (0, 0, 0, 0)), (.getfield 95, (6, 1, 1, 0)), (.getfield 99, (4, 1, 2, 0))], (.ifCond .ne 13, (0, 0, 0, 0)), [5, 4]),
  (43, [], (.athrow, (1, 252, 254, 256)), []),
  (53, [(.iload_n 2, (0, 0, 0, 0)), (.iconst 0, (0, 0, 0, 0)), (.invokestatic 84, (202, 2, 0, 0)), (.istore 4, (0, 0, 0, 0)), (.iconst 0, (0, 0, 0, 0)), (.istore 5, (0, 0, 0, 0)), (.iconst 0, (0, 0, 0, 0)), (.istore 6, (0, 0, 0, 0))], (.nop, (0, 0, 0, 0)), [6]),
  (66, [(.iload 6, (0, 0, 0, 0)), (.aload_n 3, (0, 0, 0, 0)), (.getfield 68, (6, 2, 1, 0)), (.getfield 272, (7, 2, 0, 0))], (.if_icmp .ge 29, (0, 0, 0, 0)), [8, 7]),
  (78, [(.bipush 31, (0, 0, 0, 0)), (.iload 5, (0, 0, 0, 0)), (.imul, (0, 0, 0, 0)), (.aload_n 3, (0, 0, 0, 0)), (.getfield 68, (6, 2, 1, 0)), (.iload 4, (0, 0, 0, 0)), (.iload 6, (0, 0, 0, 0)), (.iadd, (0, 0, 0, 0)), (.invokevirtual 257, (141, 1, 7, 0)), (.iadd, (0, 0, 0, 0)), (.istore 5, (0, 0, 0, 0)), (.iinc 6 1, (0, 0, 0, 0))], (.goto (-35), (0, 0, 0, 0)), [6]),
  (104, [(.iload 5, (0, 0, 0, 0))], (.ireturn, (0, 0, 0, 0)), [])]
/-- 207: TwinVaults.tick()I -/
def bt_X9_tick : List bi_K := [(0, [(.aload_n 0, (0, 0, 0, 0)), (.dup, (0, 0, 0, 0)), (.getfield 188, (9, 8, 0, 0)), (.iconst 1, (0, 0, 0, 0)), (.iadd, (0, 0, 0, 0)), (.putfield 188, (9, 8, 0, 0)), (.iconst 0, (0, 0, 0, 0)), (.istore_n 1, (0, 0, 0, 0))], (.nop, (0, 0, 0, 0)), [1]),
  (12, [(.iload_n 1, (0, 0, 0, 0)), (.bipush 8, (0, 0, 0, 0))], (.if_icmp .ge 34, (0, 0, 0, 0)), [6, 2]),
  (18, [(.aload_n 0, (0, 0, 0, 0)), (.iload_n 1, (0, 0, 0, 0)), (.invokevirtual 76, (205, 1, 9, 0)), (.astore_n 2, (0, 0, 0, 0)), (.aload_n 2, (0, 0, 0, 0))], (.ifnull 18, (0, 0, 0, 0)), [5, 3]),
  (28, [(.aload_n 2, (0, 0, 0, 0)), (.getfield 95, (6, 1, 1, 0)), (.getfield 99, (4, 1, 2, 0))], (.ifCond .eq 8, (0, 0, 0, 0)), [5, 4]),
  (38, [(.aload_n 0, (0, 0, 0, 0)), (.aload_n 2, (0, 0, 0, 0)), (.invokevirtual 191, (208, 1, 9, 0))], (.nop, (0, 0, 0, 0)), [5]),
  (43, [(.iinc 1 1, (0, 0, 0, 0))], (.goto (-34), (0, 0, 0, 0)), [1]),
  (49, [(.aload_n 0, (0, 0, 0, 0)), (.getfield 188, (9, 8, 0, 0))], (.ireturn, (0, 0, 0, 0)), [])]
/-- 208: TwinVaults.tickOf(LTwinVaults$Store;)V -/
def bt_X9_tickOf : List bi_K := [(0, [(.aload_n 1, (0, 0, 0, 0)), (.getfield 136, (6, 6, 0, 0)), (.iconst 1, (0, 0, 0, 0))], (.if_icmp .ne 51, (0, 0, 0, 0)), [7, 1]),
  (8, [(.aload_n 0, (0, 0, 0, 0)), (.getfield 185, (9, 9, 0, 0))], (.ifCond .le 44, (0, 0, 0, 0)), [7, 2]),
  (15, [(.aload_n 0, (0, 0, 0, 0)), (.getfield 188, (9, 8, 0, 0)), (.aload_n 0, (0, 0, 0, 0)), (.getfield 185, (9, 9, 0, 0)), (.irem, (0, 0, 0, 0))], (.ifCond .ne 32, (0, 0, 0, 0)), [7, 3]),
  (27, [(.aload_n 1, (0, 0, 0, 0)), (.getfield 68, (6, 2, 1, 0)), (.invokevirtual 120, (140, 0, 7, 0))], (.ifCond .ne 22, (0, 0, 0, 0)), [7, 4]),
  (37, [(.aload_n 1, (0, 0, 0, 0)), (.getfield 124, (6, 8, 0, 0)), (.sipush 4095, (0, 0, 0, 0))], (.if_icmp .ge 12, (0, 0, 0, 0)), [7, 5]),
  (47, [(.aload_n 0, (0, 0, 0, 0)), (.aload_n 1, (0, 0, 0, 0)), (.invokevirtual 127, (209, 1, 9, 0))], (.ifCond .ne 4, (0, 0, 0, 0)), [7, 6]),
  (55, [], (.return_, (0, 0, 0, 0)), []),
  (56, [(.aload_n 1, (0, 0, 0, 0)), (.invokevirtual 385, (118, 0, 6, 0))], (.ifCond .eq 11, (0, 0, 0, 0)), [9, 8]),
  (63, [(.aload_n 0, (0, 0, 0, 0)), (.aload_n 1, (0, 0, 0, 0)), (.invokevirtual 388, (194, 1, 9, 0))], (.goto 30, (0, 0, 0, 0)), [13]),
  (71, [(.aload_n 1, (0, 0, 0, 0)), (.getfield 136, (6, 6, 0, 0)), (.iconst 3, (0, 0, 0, 0))], (.if_icmp .ne 22, (0, 0, 0, 0)), [13, 10]),
  (79, [(.aload_n 1, (0, 0, 0, 0)), (.getfield 166, (6, 19, 2, 0))], (.ifCond .eq 15, (0, 0, 0, 0)), [13, 11]),
  (86, [(.aload_n 1, (0, 0, 0, 0)), (.invokevirtual 391, (122, 0, 6, 0))], (.ifCond .eq 8, (0, 0, 0, 0)), [13, 12]),
  (93, [(.aload_n 0, (0, 0, 0, 0)), (.aload_n 1, (0, 0, 0, 0)), (.invokevirtual 181, (196, 1, 9, 0))], (.nop, (0, 0, 0, 0)), [13]),
  (98, [], (.return_, (0, 0, 0, 0)), [])]
/-- 209: TwinVaults.tookSnapshot(LTwinVaults$Store;)Z -/
def bt_X9_tookSnapshot : List bi_K := [(0, [(.aload_n 0, (0, 0, 0, 0)), (.aload_n 1, (0, 0, 0, 0)), (.invokevirtual 113, (159, 1, 9, 0))], (.ifCond .eq 13, (0, 0, 0, 0)), [2, 1]),
  (8, [(.aload_n 1, (0, 0, 0, 0)), (.getfield 95, (6, 1, 1, 0)), (.invokevirtual 133, (102, 0, 4, 0))], (.ifCond .ne 5, (0, 0, 0, 0)), [3, 2]),
  (18, [(.iconst 0, (0, 0, 0, 0))], (.ireturn, (1, 0, 0, 0)), []),
  (20, [(.aload_n 1, (0, 0, 0, 0)), (.dup, (0, 0, 0, 0)), (.getfield 124, (6, 8, 0, 0)), (.iconst 1, (0, 0, 0, 0)), (.iadd, (0, 0, 0, 0)), (.putfield 124, (6, 8, 0, 0)), (.aload_n 1, (0, 0, 0, 0)), (.getfield 68, (6, 2, 1, 0)), (.sipush 4096, (0, 0, 0, 0)), (.aload_n 1, (0, 0, 0, 0)), (.getfield 169, (6, 7, 0, 0)), (.imul, (0, 0, 0, 0)), (.aload_n 1, (0, 0, 0, 0)), (.getfield 124, (6, 8, 0, 0)), (.iadd, (0, 0, 0, 0)), (.invokevirtual 379, (149, 1, 7, 0)), (.aload_n 1, (0, 0, 0, 0)), (.aload_n 0, (0, 0, 0, 0)), (.getfield 22, (9, 1, 0, 0)), (.invokevirtual 382, (121, 1, 6, 0)), (.iconst 1, (0, 0, 0, 0))], (.ireturn, (1, 0, 0, 0)), [])]
/-- 210: TwinVaults.total(I)I -/
def bt_X9_total : List bi_K := [(0, [(.iload_n 1, (0, 0, 0, 0))], (.tableswitch 183 0 23 #[111, 116, 121, 129, 137, 145, 183, 183, 183, 183, 153, 153, 153, 153, 183, 183, 183, 183, 183, 183, 168, 168, 168, 168], (0, 0, 0, 0)), [9, 1, 2, 3, 4, 5, 6, 9, 9, 9, 9, 7, 7, 7, 7, 9, 9, 9, 9, 9, 9, 8, 8, 8, 8]),
  (112, [(.aload_n 0, (0, 0, 0, 0)), (.getfield 188, (9, 8, 0, 0))], (.ireturn, (0, 0, 0, 0)), []),
  (117, [(.aload_n 0, (0, 0, 0, 0)), (.getfield 65, (9, 7, 0, 0))], (.ireturn, (0, 0, 0, 0)), []),
  (122, [(.aload_n 0, (0, 0, 0, 0)), (.getfield 40, (9, 5, 1, 0)), (.getfield 343, (8, 0, 0, 0))], (.ireturn, (0, 0, 0, 0)), []),
  (130, [(.aload_n 0, (0, 0, 0, 0)), (.getfield 47, (9, 6, 1, 0)), (.getfield 346, (0, 1, 0, 0))], (.ireturn, (0, 0, 0, 0)), []),
  (138, [(.aload_n 0, (0, 0, 0, 0)), (.getfield 47, (9, 6, 1, 0)), (.getfield 347, (0, 2, 0, 0))], (.ireturn, (0, 0, 0, 0)), []),
  (146, [(.aload_n 0, (0, 0, 0, 0)), (.getfield 47, (9, 6, 1, 0)), (.getfield 350, (0, 3, 0, 0))], (.ireturn, (0, 0, 0, 0)), []),
  (154, [(.aload_n 0, (0, 0, 0, 0)), (.aload_n 0, (0, 0, 0, 0)), (.getfield 30, (9, 3, 1, 0)), (.iconst 0, (0, 0, 0, 0)), (.aaload, (0, 0, 0, 0)), (.iload_n 1, (0, 0, 0, 0)), (.bipush 10, (0, 0, 0, 0)), (.isub, (0, 0, 0, 0)), (.invokevirtual 353, (211, 2, 9, 0))], (.ireturn, (0, 0, 0, 0)), []),
  (169, [(.aload_n 0, (0, 0, 0, 0)), (.aload_n 0, (0, 0, 0, 0)), (.getfield 30, (9, 3, 1, 0)), (.iconst 1, (0, 0, 0, 0)), (.aaload, (0, 0, 0, 0)), (.iload_n 1, (0, 0, 0, 0)), (.bipush 20, (0, 0, 0, 0)), (.isub, (0, 0, 0, 0)), (.invokevirtual 353, (211, 2, 9, 0))], (.ireturn, (0, 0, 0, 0)), []),
  (184, [(.iconst (-1), (0, 0, 0, 0))], (.ireturn, (0, 0, 0, 0)), [])]
/-- 211: TwinVaults.totalOf(LTwinVaults$Site;I)I -/
def bt_X9_totalOf : List bi_K := [(0, [(.iload_n 2, (0, 0, 0, 0))], (.tableswitch 51 0 2 #[27, 40, 45], (0, 0, 0, 0)), [7, 1, 5, 6]),
  (28, [(.aload_n 1, (0, 0, 0, 0)), (.getfield 99, (4, 1, 2, 0))], (.ifCond .eq 7, (0, 0, 0, 0)), [3, 2]),
  (35, [(.iconst 1, (0, 0, 0, 0))], (.goto 4, (0, 0, 0, 0)), [4]),
  (39, [(.iconst 0, (0, 0, 0, 0))], (.nop, (0, 0, 0, 0)), [4]),
  (40, [], (.ireturn, (0, 0, 0, 0)), []),
  (41, [(.aload_n 1, (0, 0, 0, 0)), (.getfield 110, (4, 2, 0, 0))], (.ireturn, (0, 0, 0, 0)), []),
  (46, [(.aload_n 0, (0, 0, 0, 0)), (.aload_n 1, (0, 0, 0, 0)), (.invokevirtual 357, (167, 1, 9, 0))], (.ireturn, (0, 0, 0, 0)), []),
  (52, [(.aload_n 1, (0, 0, 0, 0)), (.getfield 195, (4, 3, 0, 0))], (.ireturn, (0, 0, 0, 0)), [])]
/-- 212: TwinVaults.up(I)I -/
def bt_X9_up : List bi_K := [(0, [(.iload_n 1, (0, 0, 0, 0))], (.ifCond .lt 8, (0, 0, 0, 0)), [2, 1]),
  (4, [(.iload_n 1, (0, 0, 0, 0)), (.iconst 1, (0, 0, 0, 0))], (.if_icmp .le 6, (0, 0, 0, 0)), [3, 2]),
  (9, [(.bipush (-2), (0, 0, 0, 0))], (.ireturn, (0, 0, 0, 0)), []),
  (12, [(.aload_n 0, (0, 0, 0, 0)), (.getfield 30, (9, 3, 1, 0)), (.iload_n 1, (0, 0, 0, 0)), (.aaload, (0, 0, 0, 0)), (.getfield 99, (4, 1, 2, 0))], (.ifCond .eq 5, (0, 0, 0, 0)), [5, 4]),
  (24, [(.iconst (-1), (0, 0, 0, 0))], (.ireturn, (0, 0, 0, 0)), []),
  (26, [(.aload_n 0, (0, 0, 0, 0)), (.getfield 30, (9, 3, 1, 0)), (.iload_n 1, (0, 0, 0, 0)), (.aaload, (0, 0, 0, 0)), (.iconst 1, (0, 0, 0, 0)), (.putfield 99, (4, 1, 2, 0)), (.iconst 0, (0, 0, 0, 0)), (.istore_n 2, (0, 0, 0, 0)), (.iconst 0, (0, 0, 0, 0)), (.istore_n 3, (0, 0, 0, 0))], (.nop, (0, 0, 0, 0)), [6]),
  (40, [(.iload_n 3, (0, 0, 0, 0)), (.iconst 4, (0, 0, 0, 0))], (.if_icmp .ge 33, (0, 0, 0, 0)), [10, 7]),
  (45, [(.aload_n 0, (0, 0, 0, 0)), (.iconst 4, (0, 0, 0, 0)), (.iload_n 1, (0, 0, 0, 0)), (.imul, (0, 0, 0, 0)), (.iload_n 3, (0, 0, 0, 0)), (.iadd, (0, 0, 0, 0)), (.invokevirtual 76, (205, 1, 9, 0)), (.astore 4, (0, 0, 0, 0)), (.aload 4, (0, 0, 0, 0))], (.ifnull 11, (0, 0, 0, 0)), [9, 8]),
  (61, [(.iload_n 2, (0, 0, 0, 0)), (.aload 4, (0, 0, 0, 0)), (.invokevirtual 201, (123, 0, 6, 0)), (.iadd, (0, 0, 0, 0)), (.istore_n 2, (0, 0, 0, 0))], (.nop, (0, 0, 0, 0)), [9]),
  (69, [(.iinc 3 1, (0, 0, 0, 0))], (.goto (-32), (0, 0, 0, 0)), [6]),
  (75, [(.iload_n 2, (0, 0, 0, 0))], (.ireturn, (0, 0, 0, 0)), [])]
/-- 213: TwinVaults.write(IIII)I -/
def bt_X9_write : List bi_K := [(0, [(.aload_n 0, (0, 0, 0, 0)), (.iload_n 1, (0, 0, 0, 0)), (.invokevirtual 76, (205, 1, 9, 0)), (.astore 5, (0, 0, 0, 0)), (.aload 5, (0, 0, 0, 0))], (.ifnull 16, (0, 0, 0, 0)), [2, 1]),
  (12, [(.aload 5, (0, 0, 0, 0)), (.getfield 68, (6, 2, 1, 0)), (.iload_n 2, (0, 0, 0, 0)), (.iload_n 3, (0, 0, 0, 0)), (.invokevirtual 80, (128, 2, 7, 0))], (.ifCond .ne 6, (0, 0, 0, 0)), [3, 2]),
  (25, [(.bipush (-2), (0, 0, 0, 0))], (.ireturn, (0, 0, 0, 0)), []),
  (28, [(.aload_n 0, (0, 0, 0, 0)), (.aload 5, (0, 0, 0, 0)), (.iload_n 2, (0, 0, 0, 0)), (.iload_n 3, (0, 0, 0, 0)), (.invokestatic 84, (202, 2, 0, 0)), (.iload 4, (0, 0, 0, 0)), (.invokevirtual 87, (214, 3, 9, 0)), (.istore 6, (0, 0, 0, 0)), (.iload 6, (0, 0, 0, 0))], (.ifCond .ne 14, (0, 0, 0, 0)), [5, 4]),
  (48, [(.aload 5, (0, 0, 0, 0)), (.getfield 68, (6, 2, 1, 0)), (.invokevirtual 91, (144, 0, 7, 0))], (.goto 5, (0, 0, 0, 0)), [6]),
  (59, [(.iload 6, (0, 0, 0, 0))], (.nop, (0, 0, 0, 0)), [6]),
  (61, [], (.ireturn, (0, 0, 0, 0)), [])]
/-- 214: TwinVaults.writeOne(LTwinVaults$Store;II)I -/
def bt_X9_writeOne : List bi_K := [(0, [(.aload_n 1, (0, 0, 0, 0)), (.iconst 1, (0, 0, 0, 0)), (.invokestatic 116, (191, 2, 0, 0)), (.istore 4, (0, 0, 0, 0)), (.iload 4, (0, 0, 0, 0))], (.ifCond .eq 6, (0, 0, 0, 0)), [2, 1]),
  (12, [(.iload 4, (0, 0, 0, 0))], (.ireturn, (0, 0, 0, 0)), []),
  (15, [(.aload_n 0, (0, 0, 0, 0)), (.getfield 40, (9, 5, 1, 0)), (.getfield 343, (8, 0, 0, 0)), (.ldc_w 364, (60000, 0, 0, 0))], (.if_icmp .lt 6, (0, 0, 0, 0)), [4, 3]),
  (28, [(.bipush (-5), (0, 0, 0, 0))], (.ireturn, (0, 0, 0, 0)), []),
  (31, [(.aload_n 1, (0, 0, 0, 0)), (.getfield 68, (6, 2, 1, 0)), (.invokevirtual 91, (144, 0, 7, 0)), (.bipush 64, (0, 0, 0, 0))], (.if_icmp .lt 14, (0, 0, 0, 0)), [7, 5]),
  (43, [(.aload_n 0, (0, 0, 0, 0)), (.aload_n 1, (0, 0, 0, 0)), (.invokevirtual 103, (165, 1, 9, 0))], (.ifCond .ne 6, (0, 0, 0, 0)), [7, 6]),
  (51, [(.bipush (-3), (0, 0, 0, 0))], (.ireturn, (0, 0, 0, 0)), []),
  (54, [(.aload_n 0, (0, 0, 0, 0)), (.aload_n 1, (0, 0, 0, 0)), (.getfield 95, (6, 1, 1, 0)), (.invokevirtual 357, (167, 1, 9, 0)), (.iconst 1, (0, 0, 0, 0))], (.if_icmp .ge 6, (0, 0, 0, 0)), [9, 8]),
  (66, [(.bipush (-6), (0, 0, 0, 0))], (.ireturn, (0, 0, 0, 0)), []),
  (69, [(.aload_n 1, (0, 0, 0, 0)), (.getfield 68, (6, 2, 1, 0)), (.iload_n 2, (0, 0, 0, 0)), (.iload_n 3, (0, 0, 0, 0)), (.invokevirtual 365, (145, 2, 7, 0)), (.iconst 0, (0, 0, 0, 0))], (.ireturn, (0, 0, 0, 0)), [])]
/-- 215: TwinVaultsLaw.cell([II)I -/
def bt_L_cell : List bi_K := [(0, [(.iload_n 1, (0, 0, 0, 0)), (.aload_n 0, (0, 0, 0, 0)), (.arraylength, (0, 0, 0, 0))], (.if_icmp .ge 9, (0, 0, 0, 0)), [2, 1]),
  (6, [(.aload_n 0, (0, 0, 0, 0)), (.iload_n 1, (0, 0, 0, 0)), (.iaload, (0, 0, 0, 0))], (.goto 4, (0, 0, 0, 0)), [3]),
  (12, [(.iconst 0, (0, 0, 0, 0))], (.nop, (0, 0, 0, 0)), [3]),
  (13, [], (.ireturn, (0, 0, 0, 0)), [])]
/-- 216: TwinVaultsLaw.differ(LTwinVaults;III[J)I -/
def bt_L_differ : List bi_K := [(0, [(.aload 4, (0, 0, 0, 0)), (.iconst 0, (0, 0, 0, 0)), (.aload_n 0, (0, 0, 0, 0)), (.iload_n 1, (0, 0, 0, 0)), (.iload_n 2, (0, 0, 0, 0)), (.iload_n 3, (0, 0, 0, 0))], (.invokevirtual 28, (162, 3, 9, 5)), [1, 2, 3]),
  (10, [(.i2l, (0, 0, 0, 0)), (.lastore, (0, 0, 0, 0))], (.goto 11, (0, 0, 0, 0)), [4]),
  (17, [(.iconst 1, (0, 0, 0, 0))], (.ireturn, (0, 0, 0, 0)), []),
  (21, [(.iconst 2, (0, 0, 0, 0))], (.ireturn, (0, 0, 0, 0)), []),
  (23, [(.iconst 0, (0, 0, 0, 0))], (.ireturn, (0, 0, 0, 0)), [])]
/-- 217: TwinVaultsLaw.item(LTwinVaults;III[J)I -/
def bt_L_item : List bi_K := [(0, [(.aload 4, (0, 0, 0, 0)), (.iconst 0, (0, 0, 0, 0)), (.aload_n 0, (0, 0, 0, 0)), (.iload_n 1, (0, 0, 0, 0)), (.iload_n 2, (0, 0, 0, 0)), (.iload_n 3, (0, 0, 0, 0))], (.invokevirtual 7, (171, 3, 9, 5)), [1, 2]),
  (10, [(.i2l, (0, 0, 0, 0)), (.lastore, (0, 0, 0, 0))], (.goto 7, (0, 0, 0, 0)), [3]),
  (17, [(.iconst 1, (0, 0, 0, 0))], (.ireturn, (0, 0, 0, 0)), []),
  (19, [(.iconst 0, (0, 0, 0, 0))], (.ireturn, (0, 0, 0, 0)), [])]
/-- 218: TwinVaultsLaw.lost(LTwinVaults;III[J)I -/
def bt_L_lost : List bi_K := [(0, [(.aload 4, (0, 0, 0, 0)), (.iconst 0, (0, 0, 0, 0)), (.aload_n 0, (0, 0, 0, 0)), (.iload_n 1, (0, 0, 0, 0)), (.iload_n 2, (0, 0, 0, 0)), (.iload_n 3, (0, 0, 0, 0))], (.invokevirtual 31, (173, 3, 9, 5)), [1, 2]),
  (10, [(.i2l, (0, 0, 0, 0)), (.lastore, (0, 0, 0, 0))], (.goto 7, (0, 0, 0, 0)), [3]),
  (17, [(.iconst 1, (0, 0, 0, 0))], (.ireturn, (0, 0, 0, 0)), []),
  (19, [(.iconst 0, (0, 0, 0, 0))], (.ireturn, (0, 0, 0, 0)), [])]
/-- 219: TwinVaultsLaw.old(LTwinVaults;IIII[J)I -/
def bt_L_old : List bi_K := [(0, [(.aload 5, (0, 0, 0, 0)), (.iconst 0, (0, 0, 0, 0)), (.aload_n 0, (0, 0, 0, 0)), (.iload_n 1, (0, 0, 0, 0)), (.iload_n 2, (0, 0, 0, 0)), (.iload_n 3, (0, 0, 0, 0)), (.iload 4, (0, 0, 0, 0))], (.invokevirtual 20, (176, 4, 9, 6)), [1, 2, 3]),
  (12, [(.i2l, (0, 0, 0, 0)), (.lastore, (0, 0, 0, 0))], (.goto 11, (0, 0, 0, 0)), [4]),
  (19, [(.iconst 1, (0, 0, 0, 0))], (.ireturn, (0, 0, 0, 0)), []),
  (23, [(.iconst 2, (0, 0, 0, 0))], (.ireturn, (0, 0, 0, 0)), []),
  (25, [(.iconst 0, (0, 0, 0, 0))], (.ireturn, (0, 0, 0, 0)), [])]
/-- 220: TwinVaultsLaw.read(LTwinVaults;III[J)I -/
def bt_L_read : List bi_K := [(0, [(.aload 4, (0, 0, 0, 0)), (.iconst 0, (0, 0, 0, 0)), (.aload_n 0, (0, 0, 0, 0)), (.iload_n 1, (0, 0, 0, 0)), (.iload_n 2, (0, 0, 0, 0)), (.iload_n 3, (0, 0, 0, 0))], (.invokevirtual 15, (189, 3, 9, 5)), [1, 2, 3]),
  (10, [(.i2l, (0, 0, 0, 0)), (.lastore, (0, 0, 0, 0))], (.goto 11, (0, 0, 0, 0)), [4]),
  (17, [(.iconst 1, (0, 0, 0, 0))], (.ireturn, (0, 0, 0, 0)), []),
  (21, [(.iconst 2, (0, 0, 0, 0))], (.ireturn, (0, 0, 0, 0)), []),
  (23, [(.iconst 0, (0, 0, 0, 0))], (.ireturn, (0, 0, 0, 0)), [])]
/-- 221: TwinVaultsLaw.sum(LTwinVaults;II[J)I -/
def bt_L_sum : List bi_K := [(0, [(.aload_n 3, (0, 0, 0, 0)), (.iconst 0, (0, 0, 0, 0)), (.aload_n 0, (0, 0, 0, 0)), (.iload_n 1, (0, 0, 0, 0)), (.iload_n 2, (0, 0, 0, 0))], (.invokevirtual 24, (206, 2, 9, 4)), [1, 2, 3]),
  (8, [(.i2l, (0, 0, 0, 0)), (.lastore, (0, 0, 0, 0))], (.goto 11, (0, 0, 0, 0)), [4]),
  (15, [(.iconst 1, (0, 0, 0, 0))], (.ireturn, (0, 0, 0, 0)), []),
  (19, [(.iconst 2, (0, 0, 0, 0))], (.ireturn, (0, 0, 0, 0)), []),
  (21, [(.iconst 0, (0, 0, 0, 0))], (.ireturn, (0, 0, 0, 0)), [])]
/-- 222: TwinVaultsLaw.law([I)Z -/
def bt_L_law : List bi_K := [(0, [(.new 8, (9, 10, 0, 0)), (.dup, (0, 0, 0, 0)), (.aload_n 0, (0, 0, 0, 0)), (.iconst 0, (0, 0, 0, 0)), (.invokestatic 34, (215, 2, 0, 0)), (.aload_n 0, (0, 0, 0, 0)), (.iconst 1, (0, 0, 0, 0)), (.invokestatic 34, (215, 2, 0, 0)), (.aload_n 0, (0, 0, 0, 0)), (.iconst 2, (0, 0, 0, 0)), (.invokestatic 34, (215, 2, 0, 0)), (.invokespecial 40, (170, 3, 9, 0)), (.astore_n 1, (0, 0, 0, 0)), (.new 43, (12, 39, 0, 0)), (.dup, (0, 0, 0, 0)), (.aload_n 0, (0, 0, 0, 0)), (.iconst 0, (0, 0, 0, 0)), (.invokestatic 34, (215, 2, 0, 0)), (.aload_n 0, (0, 0, 0, 0)), (.iconst 1, (0, 0, 0, 0)), (.invokestatic 34, (215, 2, 0, 0)), (.aload_n 0, (0, 0, 0, 0)), (.iconst 2, (0, 0, 0, 0)), (.invokestatic 34, (215, 2, 0, 0)), (.invokespecial 45, (48, 3, 12, 0)), (.astore_n 2, (0, 0, 0, 0)), (.iconst 1, (0, 0, 0, 0)), (.newarray .long, (0, 0, 0, 0)), (.astore_n 3, (0, 0, 0, 0)), (.iconst 3, (0, 0, 0, 0)), (.istore 4, (0, 0, 0, 0))], (.nop, (0, 0, 0, 0)), [1]),
  (53, [(.iload 4, (0, 0, 0, 0)), (.aload_n 0, (0, 0, 0, 0)), (.arraylength, (0, 0, 0, 0)), (.bipush 6, (0, 0, 0, 0)), (.isub, (0, 0, 0, 0))], (.if_icmp .gt 1270, (0, 0, 0, 0)), [80, 2]),
  (63, [(.aload_n 0, (0, 0, 0, 0)), (.iload 4, (0, 0, 0, 0)), (.iaload, (0, 0, 0, 0)), (.bipush 31, (0, 0, 0, 0)), (.iand, (0, 0, 0, 0))], (.tableswitch 1254 0 25 #[118, 155, 216, 289, 314, 339, 364, 389, 414, 439, 464, 489, 502, 539, 564, 589, 626, 663, 743, 823, 915, 983, 1063, 1100, 1149, 1229], (0, 0, 0, 0)), [79, 3, 5, 7, 9, 11, 13, 15, 17, 19, 21, 23, 25, 27, 29, 31, 33, 35, 37, 43, 49, 55, 61, 67, 69, 71, 77]),
  (188, [(.aload_n 1, (0, 0, 0, 0)), (.aload_n 0, (0, 0, 0, 0)), (.iload 4, (0, 0, 0, 0)), (.iconst 1, (0, 0, 0, 0)), (.iadd, (0, 0, 0, 0)), (.iaload, (0, 0, 0, 0)), (.aload_n 0, (0, 0, 0, 0)), (.iload 4, (0, 0, 0, 0)), (.iconst 2, (0, 0, 0, 0)), (.iadd, (0, 0, 0, 0)), (.iaload, (0, 0, 0, 0)), (.invokevirtual 46, (168, 2, 9, 0)), (.aload_n 2, (0, 0, 0, 0)), (.aload_n 0, (0, 0, 0, 0)), (.iload 4, (0, 0, 0, 0)), (.iconst 1, (0, 0, 0, 0)), (.iadd, (0, 0, 0, 0)), (.iaload, (0, 0, 0, 0)), (.aload_n 0, (0, 0, 0, 0)), (.iload 4, (0, 0, 0, 0)), (.iconst 2, (0, 0, 0, 0)), (.iadd, (0, 0, 0, 0)), (.iaload, (0, 0, 0, 0)), (.invokevirtual 49, (46, 2, 12, 0))], (.if_icmp .eq 1104, (0, 0, 0, 0)), [79, 4]),
  (223, [(.iconst 0, (0, 0, 0, 0))], (.ireturn, (1, 0, 0, 0)), []),
  (225, [(.aload_n 1, (0, 0, 0, 0)), (.aload_n 0, (0, 0, 0, 0)), (.iload 4, (0, 0, 0, 0)), (.iconst 1, (0, 0, 0, 0)), (.iadd, (0, 0, 0, 0)), (.iaload, (0, 0, 0, 0)), (.aload_n 0, (0, 0, 0, 0)), (.iload 4, (0, 0, 0, 0)), (.iconst 2, (0, 0, 0, 0)), (.iadd, (0, 0, 0, 0)), (.iaload, (0, 0, 0, 0)), (.aload_n 0, (0, 0, 0, 0)), (.iload 4, (0, 0, 0, 0)), (.iconst 3, (0, 0, 0, 0)), (.iadd, (0, 0, 0, 0)), (.iaload, (0, 0, 0, 0)), (.aload_n 0, (0, 0, 0, 0)), (.iload 4, (0, 0, 0, 0)), (.iconst 4, (0, 0, 0, 0)), (.iadd, (0, 0, 0, 0)), (.iaload, (0, 0, 0, 0)), (.invokevirtual 50, (213, 4, 9, 0)), (.aload_n 2, (0, 0, 0, 0)), (.aload_n 0, (0, 0, 0, 0)), (.iload 4, (0, 0, 0, 0)), (.iconst 1, (0, 0, 0, 0)), (.iadd, (0, 0, 0, 0)), (.iaload, (0, 0, 0, 0)), (.aload_n 0, (0, 0, 0, 0)), (.iload 4, (0, 0, 0, 0)), (.iconst 2, (0, 0, 0, 0)), (.iadd, (0, 0, 0, 0)), (.iaload, (0, 0, 0, 0)), (.aload_n 0, (0, 0, 0, 0)), (.iload 4, (0, 0, 0, 0)), (.iconst 3, (0, 0, 0, 0)), (.iadd, (0, 0, 0, 0)), (.iaload, (0, 0, 0, 0)), (.aload_n 0, (0, 0, 0, 0)), (.iload 4, (0, 0, 0, 0)), (.iconst 4, (0, 0, 0, 0)), (.iadd, (0, 0, 0, 0)), (.iaload, (0, 0, 0, 0)), (.invokevirtual 53, (90, 4, 12, 0))], (.if_icmp .eq 1043, (0, 0, 0, 0)), [79, 6]),
  (284, [(.iconst 0, (0, 0, 0, 0))], (.ireturn, (1, 0, 0, 0)), []),
  (286, [(.aload_n 1, (0, 0, 0, 0)), (.aload_n 0, (0, 0, 0, 0)), (.iload 4, (0, 0, 0, 0)), (.iconst 1, (0, 0, 0, 0)), (.iadd, (0, 0, 0, 0)), (.iaload, (0, 0, 0, 0)), (.aload_n 0, (0, 0, 0, 0)), (.iload 4, (0, 0, 0, 0)), (.iconst 2, (0, 0, 0, 0)), (.iadd, (0, 0, 0, 0)), (.iaload, (0, 0, 0, 0)), (.aload_n 0, (0, 0, 0, 0)), (.iload 4, (0, 0, 0, 0)), (.iconst 3, (0, 0, 0, 0)), (.iadd, (0, 0, 0, 0)), (.iaload, (0, 0, 0, 0)), (.aload_n 0, (0, 0, 0, 0)), (.iload 4, (0, 0, 0, 0)), (.iconst 4, (0, 0, 0, 0)), (.iadd, (0, 0, 0, 0)), (.iaload, (0, 0, 0, 0)), (.aload_n 0, (0, 0, 0, 0)), (.iload 4, (0, 0, 0, 0)), (.iconst 5, (0, 0, 0, 0)), (.iadd, (0, 0, 0, 0)), (.iaload, (0, 0, 0, 0)), (.invokevirtual 54, (163, 5, 9, 0)), (.aload_n 2, (0, 0, 0, 0)), (.aload_n 0, (0, 0, 0, 0)), (.iload 4, (0, 0, 0, 0)), (.iconst 1, (0, 0, 0, 0)), (.iadd, (0, 0, 0, 0)), (.iaload, (0, 0, 0, 0)), (.aload_n 0, (0, 0, 0, 0)), (.iload 4, (0, 0, 0, 0)), (.iconst 2, (0, 0, 0, 0)), (.iadd, (0, 0, 0, 0)), (.iaload, (0, 0, 0, 0)), (.aload_n 0, (0, 0, 0, 0)), (.iload 4, (0, 0, 0, 0)), (.iconst 3, (0, 0, 0, 0)), (.iadd, (0, 0, 0, 0)), (.iaload, (0, 0, 0, 0)), (.aload_n 0, (0, 0, 0, 0)), (.iload 4, (0, 0, 0, 0)), (.iconst 4, (0, 0, 0, 0)), (.iadd, (0, 0, 0, 0)), (.iaload, (0, 0, 0, 0)), (.aload_n 0, (0, 0, 0, 0)), (.iload 4, (0, 0, 0, 0)), (.iconst 5, (0, 0, 0, 0)), (.iadd, (0, 0, 0, 0)), (.iaload, (0, 0, 0, 0)), (.invokevirtual 58, (35, 5, 12, 0))], (.if_icmp .eq 970, (0, 0, 0, 0)), [79, 8]),
  (357, [(.iconst 0, (0, 0, 0, 0))], (.ireturn, (1, 0, 0, 0)), []),
  (359, [(.aload_n 1, (0, 0, 0, 0)), (.aload_n 0, (0, 0, 0, 0)), (.iload 4, (0, 0, 0, 0)), (.iconst 1, (0, 0, 0, 0)), (.iadd, (0, 0, 0, 0)), (.iaload, (0, 0, 0, 0)), (.invokevirtual 59, (164, 1, 9, 0)), (.aload_n 2, (0, 0, 0, 0)), (.aload_n 0, (0, 0, 0, 0)), (.iload 4, (0, 0, 0, 0)), (.iconst 1, (0, 0, 0, 0)), (.iadd, (0, 0, 0, 0)), (.iaload, (0, 0, 0, 0)), (.invokevirtual 63, (37, 1, 12, 0))], (.if_icmp .eq 945, (0, 0, 0, 0)), [79, 10]),
  (382, [(.iconst 0, (0, 0, 0, 0))], (.ireturn, (1, 0, 0, 0)), []),
  (384, [(.aload_n 1, (0, 0, 0, 0)), (.aload_n 0, (0, 0, 0, 0)), (.iload 4, (0, 0, 0, 0)), (.iconst 1, (0, 0, 0, 0)), (.iadd, (0, 0, 0, 0)), (.iaload, (0, 0, 0, 0)), (.invokevirtual 64, (158, 1, 9, 0)), (.aload_n 2, (0, 0, 0, 0)), (.aload_n 0, (0, 0, 0, 0)), (.iload 4, (0, 0, 0, 0)), (.iconst 1, (0, 0, 0, 0)), (.iadd, (0, 0, 0, 0)), (.iaload, (0, 0, 0, 0)), (.invokevirtual 67, (26, 1, 12, 0))], (.if_icmp .eq 920, (0, 0, 0, 0)), [79, 12]),
  (407, [(.iconst 0, (0, 0, 0, 0))], (.ireturn, (1, 0, 0, 0)), []),
  (409, [(.aload_n 1, (0, 0, 0, 0)), (.aload_n 0, (0, 0, 0, 0)), (.iload 4, (0, 0, 0, 0)), (.iconst 1, (0, 0, 0, 0)), (.iadd, (0, 0, 0, 0)), (.iaload, (0, 0, 0, 0)), (.invokevirtual 68, (201, 1, 9, 0)), (.aload_n 2, (0, 0, 0, 0)), (.aload_n 0, (0, 0, 0, 0)), (.iload 4, (0, 0, 0, 0)), (.iconst 1, (0, 0, 0, 0)), (.iadd, (0, 0, 0, 0)), (.iaload, (0, 0, 0, 0)), (.invokevirtual 71, (76, 1, 12, 0))], (.if_icmp .eq 895, (0, 0, 0, 0)), [79, 14]),
  (432, [(.iconst 0, (0, 0, 0, 0))], (.ireturn, (1, 0, 0, 0)), []),
  (434, [(.aload_n 1, (0, 0, 0, 0)), (.aload_n 0, (0, 0, 0, 0)), (.iload 4, (0, 0, 0, 0)), (.iconst 1, (0, 0, 0, 0)), (.iadd, (0, 0, 0, 0)), (.iaload, (0, 0, 0, 0)), (.invokevirtual 72, (172, 1, 9, 0)), (.aload_n 2, (0, 0, 0, 0)), (.aload_n 0, (0, 0, 0, 0)), (.iload 4, (0, 0, 0, 0)), (.iconst 1, (0, 0, 0, 0)), (.iadd, (0, 0, 0, 0)), (.iaload, (0, 0, 0, 0)), (.invokevirtual 75, (55, 1, 12, 0))], (.if_icmp .eq 870, (0, 0, 0, 0)), [79, 16]),
  (457, [(.iconst 0, (0, 0, 0, 0))], (.ireturn, (1, 0, 0, 0)), []),
  (459, [(.aload_n 1, (0, 0, 0, 0)), (.aload_n 0, (0, 0, 0, 0)), (.iload 4, (0, 0, 0, 0)), (.iconst 1, (0, 0, 0, 0)), (.iadd, (0, 0, 0, 0)), (.iaload, (0, 0, 0, 0)), (.invokevirtual 76, (204, 1, 9, 0)), (.aload_n 2, (0, 0, 0, 0)), (.aload_n 0, (0, 0, 0, 0)), (.iload 4, (0, 0, 0, 0)), (.iconst 1, (0, 0, 0, 0)), (.iadd, (0, 0, 0, 0)), (.iaload, (0, 0, 0, 0)), (.invokevirtual 79, (82, 1, 12, 0))], (.if_icmp .eq 845, (0, 0, 0, 0)), [79, 18]),
  (482, [(.iconst 0, (0, 0, 0, 0))], (.ireturn, (1, 0, 0, 0)), []),
  (484, [(.aload_n 1, (0, 0, 0, 0)), (.aload_n 0, (0, 0, 0, 0)), (.iload 4, (0, 0, 0, 0)), (.iconst 1, (0, 0, 0, 0)), (.iadd, (0, 0, 0, 0)), (.iaload, (0, 0, 0, 0)), (.invokevirtual 80, (166, 1, 9, 0)), (.aload_n 2, (0, 0, 0, 0)), (.aload_n 0, (0, 0, 0, 0)), (.iload 4, (0, 0, 0, 0)), (.iconst 1, (0, 0, 0, 0)), (.iadd, (0, 0, 0, 0)), (.iaload, (0, 0, 0, 0)), (.invokevirtual 83, (40, 1, 12, 0))], (.if_icmp .eq 820, (0, 0, 0, 0)), [79, 20]),
  (507, [(.iconst 0, (0, 0, 0, 0))], (.ireturn, (1, 0, 0, 0)), []),
  (509, [(.aload_n 1, (0, 0, 0, 0)), (.aload_n 0, (0, 0, 0, 0)), (.iload 4, (0, 0, 0, 0)), (.iconst 1, (0, 0, 0, 0)), (.iadd, (0, 0, 0, 0)), (.iaload, (0, 0, 0, 0)), (.invokevirtual 84, (157, 1, 9, 0)), (.aload_n 2, (0, 0, 0, 0)), (.aload_n 0, (0, 0, 0, 0)), (.iload 4, (0, 0, 0, 0)), (.iconst 1, (0, 0, 0, 0)), (.iadd, (0, 0, 0, 0)), (.iaload, (0, 0, 0, 0)), (.invokevirtual 87, (24, 1, 12, 0))], (.if_icmp .eq 795, (0, 0, 0, 0)), [79, 22]),
  (532, [(.iconst 0, (0, 0, 0, 0))], (.ireturn, (1, 0, 0, 0)), []),
  (534, [(.aload_n 1, (0, 0, 0, 0)), (.aload_n 0, (0, 0, 0, 0)), (.iload 4, (0, 0, 0, 0)), (.iconst 1, (0, 0, 0, 0)), (.iadd, (0, 0, 0, 0)), (.iaload, (0, 0, 0, 0)), (.invokevirtual 88, (187, 1, 9, 0)), (.aload_n 2, (0, 0, 0, 0)), (.aload_n 0, (0, 0, 0, 0)), (.iload 4, (0, 0, 0, 0)), (.iconst 1, (0, 0, 0, 0)), (.iadd, (0, 0, 0, 0)), (.iaload, (0, 0, 0, 0)), (.invokevirtual 92, (68, 1, 12, 0))], (.if_icmp .eq 770, (0, 0, 0, 0)), [79, 24]),
  (557, [(.iconst 0, (0, 0, 0, 0))], (.ireturn, (1, 0, 0, 0)), []),
  (559, [(.aload_n 1, (0, 0, 0, 0)), (.invokevirtual 93, (207, 0, 9, 0)), (.aload_n 2, (0, 0, 0, 0)), (.invokevirtual 97, (86, 0, 12, 0))], (.if_icmp .eq 757, (0, 0, 0, 0)), [79, 26]),
  (570, [(.iconst 0, (0, 0, 0, 0))], (.ireturn, (1, 0, 0, 0)), []),
  (572, [(.aload_n 1, (0, 0, 0, 0)), (.aload_n 0, (0, 0, 0, 0)), (.iload 4, (0, 0, 0, 0)), (.iconst 1, (0, 0, 0, 0)), (.iadd, (0, 0, 0, 0)), (.iaload, (0, 0, 0, 0)), (.aload_n 0, (0, 0, 0, 0)), (.iload 4, (0, 0, 0, 0)), (.iconst 2, (0, 0, 0, 0)), (.iadd, (0, 0, 0, 0)), (.iaload, (0, 0, 0, 0)), (.invokevirtual 98, (188, 2, 9, 0)), (.aload_n 2, (0, 0, 0, 0)), (.aload_n 0, (0, 0, 0, 0)), (.iload 4, (0, 0, 0, 0)), (.iconst 1, (0, 0, 0, 0)), (.iadd, (0, 0, 0, 0)), (.iaload, (0, 0, 0, 0)), (.aload_n 0, (0, 0, 0, 0)), (.iload 4, (0, 0, 0, 0)), (.iconst 2, (0, 0, 0, 0)), (.iadd, (0, 0, 0, 0)), (.iaload, (0, 0, 0, 0)), (.invokevirtual 102, (70, 2, 12, 0))], (.if_icmp .eq 720, (0, 0, 0, 0)), [79, 28]),
  (607, [(.iconst 0, (0, 0, 0, 0))], (.ireturn, (1, 0, 0, 0)), []),
  (609, [(.aload_n 1, (0, 0, 0, 0)), (.aload_n 0, (0, 0, 0, 0)), (.iload 4, (0, 0, 0, 0)), (.iconst 1, (0, 0, 0, 0)), (.iadd, (0, 0, 0, 0)), (.iaload, (0, 0, 0, 0)), (.invokevirtual 103, (161, 1, 9, 0)), (.aload_n 2, (0, 0, 0, 0)), (.aload_n 0, (0, 0, 0, 0)), (.iload 4, (0, 0, 0, 0)), (.iconst 1, (0, 0, 0, 0)), (.iadd, (0, 0, 0, 0)), (.iaload, (0, 0, 0, 0)), (.invokevirtual 106, (29, 1, 12, 0))], (.if_icmp .eq 695, (0, 0, 0, 0)), [79, 30]),
  (632, [(.iconst 0, (0, 0, 0, 0))], (.ireturn, (1, 0, 0, 0)), []),
  (634, [(.aload_n 1, (0, 0, 0, 0)), (.aload_n 0, (0, 0, 0, 0)), (.iload 4, (0, 0, 0, 0)), (.iconst 1, (0, 0, 0, 0)), (.iadd, (0, 0, 0, 0)), (.iaload, (0, 0, 0, 0)), (.invokevirtual 107, (212, 1, 9, 0)), (.aload_n 2, (0, 0, 0, 0)), (.aload_n 0, (0, 0, 0, 0)), (.iload 4, (0, 0, 0, 0)), (.iconst 1, (0, 0, 0, 0)), (.iadd, (0, 0, 0, 0)), (.iaload, (0, 0, 0, 0)), (.invokevirtual 110, (89, 1, 12, 0))], (.if_icmp .eq 670, (0, 0, 0, 0)), [79, 32]),
  (657, [(.iconst 0, (0, 0, 0, 0))], (.ireturn, (1, 0, 0, 0)), []),
  (659, [(.aload_n 1, (0, 0, 0, 0)), (.aload_n 0, (0, 0, 0, 0)), (.iload 4, (0, 0, 0, 0)), (.iconst 1, (0, 0, 0, 0)), (.iadd, (0, 0, 0, 0)), (.iaload, (0, 0, 0, 0)), (.aload_n 0, (0, 0, 0, 0)), (.iload 4, (0, 0, 0, 0)), (.iconst 2, (0, 0, 0, 0)), (.iadd, (0, 0, 0, 0)), (.iaload, (0, 0, 0, 0)), (.invokevirtual 111, (186, 2, 9, 0)), (.aload_n 2, (0, 0, 0, 0)), (.aload_n 0, (0, 0, 0, 0)), (.iload 4, (0, 0, 0, 0)), (.iconst 1, (0, 0, 0, 0)), (.iadd, (0, 0, 0, 0)), (.iaload, (0, 0, 0, 0)), (.aload_n 0, (0, 0, 0, 0)), (.iload 4, (0, 0, 0, 0)), (.iconst 2, (0, 0, 0, 0)), (.iadd, (0, 0, 0, 0)), (.iaload, (0, 0, 0, 0)), (.invokevirtual 114, (66, 2, 12, 0))], (.if_icmp .eq 633, (0, 0, 0, 0)), [79, 34]),
  (694, [(.iconst 0, (0, 0, 0, 0))], (.ireturn, (1, 0, 0, 0)), []),
  (696, [(.aload_n 1, (0, 0, 0, 0)), (.aload_n 0, (0, 0, 0, 0)), (.iload 4, (0, 0, 0, 0)), (.iconst 1, (0, 0, 0, 0)), (.iadd, (0, 0, 0, 0)), (.iaload, (0, 0, 0, 0)), (.aload_n 0, (0, 0, 0, 0)), (.iload 4, (0, 0, 0, 0)), (.iconst 2, (0, 0, 0, 0)), (.iadd, (0, 0, 0, 0)), (.iaload, (0, 0, 0, 0)), (.invokevirtual 115, (174, 2, 9, 0)), (.aload_n 2, (0, 0, 0, 0)), (.aload_n 0, (0, 0, 0, 0)), (.iload 4, (0, 0, 0, 0)), (.iconst 1, (0, 0, 0, 0)), (.iadd, (0, 0, 0, 0)), (.iaload, (0, 0, 0, 0)), (.aload_n 0, (0, 0, 0, 0)), (.iload 4, (0, 0, 0, 0)), (.iconst 2, (0, 0, 0, 0)), (.iadd, (0, 0, 0, 0)), (.iaload, (0, 0, 0, 0)), (.invokevirtual 118, (58, 2, 12, 0))], (.if_icmp .eq 596, (0, 0, 0, 0)), [79, 36]),
  (731, [(.iconst 0, (0, 0, 0, 0))], (.ireturn, (1, 0, 0, 0)), []),
  (733, [(.aload_n 1, (0, 0, 0, 0)), (.aload_n 0, (0, 0, 0, 0)), (.iload 4, (0, 0, 0, 0)), (.iconst 1, (0, 0, 0, 0)), (.iadd, (0, 0, 0, 0)), (.iaload, (0, 0, 0, 0)), (.aload_n 0, (0, 0, 0, 0)), (.iload 4, (0, 0, 0, 0)), (.iconst 2, (0, 0, 0, 0)), (.iadd, (0, 0, 0, 0)), (.iaload, (0, 0, 0, 0)), (.aload_n 0, (0, 0, 0, 0)), (.iload 4, (0, 0, 0, 0)), (.iconst 3, (0, 0, 0, 0)), (.iadd, (0, 0, 0, 0)), (.iaload, (0, 0, 0, 0)), (.aload_n 3, (0, 0, 0, 0)), (.invokestatic 119, (217, 5, 0, 0)), (.istore 5, (0, 0, 0, 0)), (.aload_n 2, (0, 0, 0, 0)), (.aload_n 0, (0, 0, 0, 0)), (.iload 4, (0, 0, 0, 0)), (.iconst 1, (0, 0, 0, 0)), (.iadd, (0, 0, 0, 0)), (.iaload, (0, 0, 0, 0)), (.aload_n 0, (0, 0, 0, 0)), (.iload 4, (0, 0, 0, 0)), (.iconst 2, (0, 0, 0, 0)), (.iadd, (0, 0, 0, 0)), (.iaload, (0, 0, 0, 0)), (.aload_n 0, (0, 0, 0, 0)), (.iload 4, (0, 0, 0, 0)), (.iconst 3, (0, 0, 0, 0)), (.iadd, (0, 0, 0, 0)), (.iaload, (0, 0, 0, 0)), (.invokevirtual 122, (52, 3, 12, 0)), (.istore 6, (0, 0, 0, 0)), (.aload_n 2, (0, 0, 0, 0)), (.invokevirtual 123, (85, 0, 12, 0)), (.iload 5, (0, 0, 0, 0))], (.if_icmp .eq 5, (0, 0, 0, 0)), [39, 38]),
  (791, [(.iconst 0, (0, 0, 0, 0))], (.ireturn, (1, 0, 0, 0)), []),
  (793, [(.iload 5, (0, 0, 0, 0))], (.ifCond .ne 15, (0, 0, 0, 0)), [42, 40]),
  (798, [(.aload_n 3, (0, 0, 0, 0)), (.iconst 0, (0, 0, 0, 0)), (.laload, (0, 0, 0, 0)), (.iload 6, (0, 0, 0, 0)), (.i2l, (0, 0, 0, 0)), (.lcmp, (0, 0, 0, 0))], (.ifCond .eq 5, (0, 0, 0, 0)), [42, 41]),
  (808, [(.iconst 0, (0, 0, 0, 0))], (.ireturn, (1, 0, 0, 0)), []),
  (810, [], (.goto 514, (0, 0, 0, 0)), [79]),
  (813, [(.aload_n 1, (0, 0, 0, 0)), (.aload_n 0, (0, 0, 0, 0)), (.iload 4, (0, 0, 0, 0)), (.iconst 1, (0, 0, 0, 0)), (.iadd, (0, 0, 0, 0)), (.iaload, (0, 0, 0, 0)), (.aload_n 0, (0, 0, 0, 0)), (.iload 4, (0, 0, 0, 0)), (.iconst 2, (0, 0, 0, 0)), (.iadd, (0, 0, 0, 0)), (.iaload, (0, 0, 0, 0)), (.aload_n 0, (0, 0, 0, 0)), (.iload 4, (0, 0, 0, 0)), (.iconst 3, (0, 0, 0, 0)), (.iadd, (0, 0, 0, 0)), (.iaload, (0, 0, 0, 0)), (.aload_n 3, (0, 0, 0, 0)), (.invokestatic 126, (220, 5, 0, 0)), (.istore 5, (0, 0, 0, 0)), (.aload_n 2, (0, 0, 0, 0)), (.aload_n 0, (0, 0, 0, 0)), (.iload 4, (0, 0, 0, 0)), (.iconst 1, (0, 0, 0, 0)), (.iadd, (0, 0, 0, 0)), (.iaload, (0, 0, 0, 0)), (.aload_n 0, (0, 0, 0, 0)), (.iload 4, (0, 0, 0, 0)), (.iconst 2, (0, 0, 0, 0)), (.iadd, (0, 0, 0, 0)), (.iaload, (0, 0, 0, 0)), (.aload_n 0, (0, 0, 0, 0)), (.iload 4, (0, 0, 0, 0)), (.iconst 3, (0, 0, 0, 0)), (.iadd, (0, 0, 0, 0)), (.iaload, (0, 0, 0, 0)), (.invokevirtual 128, (71, 3, 12, 0)), (.istore 6, (0, 0, 0, 0)), (.aload_n 2, (0, 0, 0, 0)), (.invokevirtual 123, (85, 0, 12, 0)), (.iload 5, (0, 0, 0, 0))], (.if_icmp .eq 5, (0, 0, 0, 0)), [45, 44]),
  (871, [(.iconst 0, (0, 0, 0, 0))], (.ireturn, (1, 0, 0, 0)), []),
  (873, [(.iload 5, (0, 0, 0, 0))], (.ifCond .ne 15, (0, 0, 0, 0)), [48, 46]),
  (878, [(.aload_n 3, (0, 0, 0, 0)), (.iconst 0, (0, 0, 0, 0)), (.laload, (0, 0, 0, 0)), (.iload 6, (0, 0, 0, 0)), (.i2l, (0, 0, 0, 0)), (.lcmp, (0, 0, 0, 0))], (.ifCond .eq 5, (0, 0, 0, 0)), [48, 47]),
  (888, [(.iconst 0, (0, 0, 0, 0))], (.ireturn, (1, 0, 0, 0)), []),
  (890, [], (.goto 434, (0, 0, 0, 0)), [79]),
  (893, [(.aload_n 1, (0, 0, 0, 0)), (.aload_n 0, (0, 0, 0, 0)), (.iload 4, (0, 0, 0, 0)), (.iconst 1, (0, 0, 0, 0)), (.iadd, (0, 0, 0, 0)), (.iaload, (0, 0, 0, 0)), (.aload_n 0, (0, 0, 0, 0)), (.iload 4, (0, 0, 0, 0)), (.iconst 2, (0, 0, 0, 0)), (.iadd, (0, 0, 0, 0)), (.iaload, (0, 0, 0, 0)), (.aload_n 0, (0, 0, 0, 0)), (.iload 4, (0, 0, 0, 0)), (.iconst 3, (0, 0, 0, 0)), (.iadd, (0, 0, 0, 0)), (.iaload, (0, 0, 0, 0)), (.aload_n 0, (0, 0, 0, 0)), (.iload 4, (0, 0, 0, 0)), (.iconst 4, (0, 0, 0, 0)), (.iadd, (0, 0, 0, 0)), (.iaload, (0, 0, 0, 0)), (.aload_n 3, (0, 0, 0, 0)), (.invokestatic 129, (219, 6, 0, 0)), (.istore 5, (0, 0, 0, 0)), (.aload_n 2, (0, 0, 0, 0)), (.aload_n 0, (0, 0, 0, 0)), (.iload 4, (0, 0, 0, 0)), (.iconst 1, (0, 0, 0, 0)), (.iadd, (0, 0, 0, 0)), (.iaload, (0, 0, 0, 0)), (.aload_n 0, (0, 0, 0, 0)), (.iload 4, (0, 0, 0, 0)), (.iconst 2, (0, 0, 0, 0)), (.iadd, (0, 0, 0, 0)), (.iaload, (0, 0, 0, 0)), (.aload_n 0, (0, 0, 0, 0)), (.iload 4, (0, 0, 0, 0)), (.iconst 3, (0, 0, 0, 0)), (.iadd, (0, 0, 0, 0)), (.iaload, (0, 0, 0, 0)), (.aload_n 0, (0, 0, 0, 0)), (.iload 4, (0, 0, 0, 0)), (.iconst 4, (0, 0, 0, 0)), (.iadd, (0, 0, 0, 0)), (.iaload, (0, 0, 0, 0)), (.invokevirtual 132, (64, 4, 12, 0)), (.istore 6, (0, 0, 0, 0)), (.aload_n 2, (0, 0, 0, 0)), (.invokevirtual 123, (85, 0, 12, 0)), (.iload 5, (0, 0, 0, 0))], (.if_icmp .eq 5, (0, 0, 0, 0)), [51, 50]),
  (963, [(.iconst 0, (0, 0, 0, 0))], (.ireturn, (1, 0, 0, 0)), []),
  (965, [(.iload 5, (0, 0, 0, 0))], (.ifCond .ne 15, (0, 0, 0, 0)), [54, 52]),
  (970, [(.aload_n 3, (0, 0, 0, 0)), (.iconst 0, (0, 0, 0, 0)), (.laload, (0, 0, 0, 0)), (.iload 6, (0, 0, 0, 0)), (.i2l, (0, 0, 0, 0)), (.lcmp, (0, 0, 0, 0))], (.ifCond .eq 5, (0, 0, 0, 0)), [54, 53]),
  (980, [(.iconst 0, (0, 0, 0, 0))], (.ireturn, (1, 0, 0, 0)), []),
  (982, [], (.goto 342, (0, 0, 0, 0)), [79]),
  (985, [(.aload_n 1, (0, 0, 0, 0)), (.aload_n 0, (0, 0, 0, 0)), (.iload 4, (0, 0, 0, 0)), (.iconst 1, (0, 0, 0, 0)), (.iadd, (0, 0, 0, 0)), (.iaload, (0, 0, 0, 0)), (.aload_n 0, (0, 0, 0, 0)), (.iload 4, (0, 0, 0, 0)), (.iconst 2, (0, 0, 0, 0)), (.iadd, (0, 0, 0, 0)), (.iaload, (0, 0, 0, 0)), (.aload_n 3, (0, 0, 0, 0)), (.invokestatic 133, (221, 4, 0, 0)), (.istore 5, (0, 0, 0, 0)), (.aload_n 2, (0, 0, 0, 0)), (.aload_n 0, (0, 0, 0, 0)), (.iload 4, (0, 0, 0, 0)), (.iconst 1, (0, 0, 0, 0)), (.iadd, (0, 0, 0, 0)), (.iaload, (0, 0, 0, 0)), (.aload_n 0, (0, 0, 0, 0)), (.iload 4, (0, 0, 0, 0)), (.iconst 2, (0, 0, 0, 0)), (.iadd, (0, 0, 0, 0)), (.iaload, (0, 0, 0, 0)), (.invokevirtual 136, (83, 2, 12, 0)), (.istore 6, (0, 0, 0, 0)), (.aload_n 2, (0, 0, 0, 0)), (.invokevirtual 123, (85, 0, 12, 0)), (.iload 5, (0, 0, 0, 0))], (.if_icmp .eq 5, (0, 0, 0, 0)), [57, 56]),
  (1031, [(.iconst 0, (0, 0, 0, 0))], (.ireturn, (1, 0, 0, 0)), []),
  (1033, [(.iload 5, (0, 0, 0, 0))], (.ifCond .ne 15, (0, 0, 0, 0)), [60, 58]),
  (1038, [(.aload_n 3, (0, 0, 0, 0)), (.iconst 0, (0, 0, 0, 0)), (.laload, (0, 0, 0, 0)), (.iload 6, (0, 0, 0, 0)), (.i2l, (0, 0, 0, 0)), (.lcmp, (0, 0, 0, 0))], (.ifCond .eq 5, (0, 0, 0, 0)), [60, 59]),
  (1048, [(.iconst 0, (0, 0, 0, 0))], (.ireturn, (1, 0, 0, 0)), []),
  (1050, [], (.goto 274, (0, 0, 0, 0)), [79]),
  (1053, [(.aload_n 1, (0, 0, 0, 0)), (.aload_n 0, (0, 0, 0, 0)), (.iload 4, (0, 0, 0, 0)), (.iconst 1, (0, 0, 0, 0)), (.iadd, (0, 0, 0, 0)), (.iaload, (0, 0, 0, 0)), (.aload_n 0, (0, 0, 0, 0)), (.iload 4, (0, 0, 0, 0)), (.iconst 2, (0, 0, 0, 0)), (.iadd, (0, 0, 0, 0)), (.iaload, (0, 0, 0, 0)), (.aload_n 0, (0, 0, 0, 0)), (.iload 4, (0, 0, 0, 0)), (.iconst 3, (0, 0, 0, 0)), (.iadd, (0, 0, 0, 0)), (.iaload, (0, 0, 0, 0)), (.aload_n 3, (0, 0, 0, 0)), (.invokestatic 137, (216, 5, 0, 0)), (.istore 5, (0, 0, 0, 0)), (.aload_n 2, (0, 0, 0, 0)), (.aload_n 0, (0, 0, 0, 0)), (.iload 4, (0, 0, 0, 0)), (.iconst 1, (0, 0, 0, 0)), (.iadd, (0, 0, 0, 0)), (.iaload, (0, 0, 0, 0)), (.aload_n 0, (0, 0, 0, 0)), (.iload 4, (0, 0, 0, 0)), (.iconst 2, (0, 0, 0, 0)), (.iadd, (0, 0, 0, 0)), (.iaload, (0, 0, 0, 0)), (.aload_n 0, (0, 0, 0, 0)), (.iload 4, (0, 0, 0, 0)), (.iconst 3, (0, 0, 0, 0)), (.iadd, (0, 0, 0, 0)), (.iaload, (0, 0, 0, 0)), (.invokevirtual 139, (32, 3, 12, 0)), (.istore 6, (0, 0, 0, 0)), (.aload_n 2, (0, 0, 0, 0)), (.invokevirtual 123, (85, 0, 12, 0)), (.iload 5, (0, 0, 0, 0))], (.if_icmp .eq 5, (0, 0, 0, 0)), [63, 62]),
  (1111, [(.iconst 0, (0, 0, 0, 0))], (.ireturn, (1, 0, 0, 0)), []),
  (1113, [(.iload 5, (0, 0, 0, 0))], (.ifCond .ne 15, (0, 0, 0, 0)), [66, 64]),
  (1118, [(.aload_n 3, (0, 0, 0, 0)), (.iconst 0, (0, 0, 0, 0)), (.laload, (0, 0, 0, 0)), (.iload 6, (0, 0, 0, 0)), (.i2l, (0, 0, 0, 0)), (.lcmp, (0, 0, 0, 0))], (.ifCond .eq 5, (0, 0, 0, 0)), [66, 65]),
  (1128, [(.iconst 0, (0, 0, 0, 0))], (.ireturn, (1, 0, 0, 0)), []),
  (1130, [], (.goto 194, (0, 0, 0, 0)), [79]),
  (1133, [(.aload_n 1, (0, 0, 0, 0)), (.aload_n 0, (0, 0, 0, 0)), (.iload 4, (0, 0, 0, 0)), (.iconst 1, (0, 0, 0, 0)), (.iadd, (0, 0, 0, 0)), (.iaload, (0, 0, 0, 0)), (.aload_n 0, (0, 0, 0, 0)), (.iload 4, (0, 0, 0, 0)), (.iconst 2, (0, 0, 0, 0)), (.iadd, (0, 0, 0, 0)), (.iaload, (0, 0, 0, 0)), (.invokevirtual 140, (203, 2, 9, 0)), (.aload_n 2, (0, 0, 0, 0)), (.aload_n 0, (0, 0, 0, 0)), (.iload 4, (0, 0, 0, 0)), (.iconst 1, (0, 0, 0, 0)), (.iadd, (0, 0, 0, 0)), (.iaload, (0, 0, 0, 0)), (.aload_n 0, (0, 0, 0, 0)), (.iload 4, (0, 0, 0, 0)), (.iconst 2, (0, 0, 0, 0)), (.iadd, (0, 0, 0, 0)), (.iaload, (0, 0, 0, 0)), (.invokevirtual 143, (81, 2, 12, 0))], (.if_icmp .eq 159, (0, 0, 0, 0)), [79, 68]),
  (1168, [(.iconst 0, (0, 0, 0, 0))], (.ireturn, (1, 0, 0, 0)), []),
  (1170, [(.aload_n 1, (0, 0, 0, 0)), (.aload_n 0, (0, 0, 0, 0)), (.iload 4, (0, 0, 0, 0)), (.iconst 1, (0, 0, 0, 0)), (.iadd, (0, 0, 0, 0)), (.iaload, (0, 0, 0, 0)), (.aload_n 0, (0, 0, 0, 0)), (.iload 4, (0, 0, 0, 0)), (.iconst 2, (0, 0, 0, 0)), (.iadd, (0, 0, 0, 0)), (.iaload, (0, 0, 0, 0)), (.aload_n 0, (0, 0, 0, 0)), (.iload 4, (0, 0, 0, 0)), (.iconst 3, (0, 0, 0, 0)), (.iadd, (0, 0, 0, 0)), (.iaload, (0, 0, 0, 0)), (.invokevirtual 144, (200, 3, 9, 0)), (.aload_n 2, (0, 0, 0, 0)), (.aload_n 0, (0, 0, 0, 0)), (.iload 4, (0, 0, 0, 0)), (.iconst 1, (0, 0, 0, 0)), (.iadd, (0, 0, 0, 0)), (.iaload, (0, 0, 0, 0)), (.aload_n 0, (0, 0, 0, 0)), (.iload 4, (0, 0, 0, 0)), (.iconst 2, (0, 0, 0, 0)), (.iadd, (0, 0, 0, 0)), (.iaload, (0, 0, 0, 0)), (.aload_n 0, (0, 0, 0, 0)), (.iload 4, (0, 0, 0, 0)), (.iconst 3, (0, 0, 0, 0)), (.iadd, (0, 0, 0, 0)), (.iaload, (0, 0, 0, 0)), (.invokevirtual 147, (75, 3, 12, 0))], (.if_icmp .eq 110, (0, 0, 0, 0)), [79, 70]),
  (1217, [(.iconst 0, (0, 0, 0, 0))], (.ireturn, (1, 0, 0, 0)), []),
  (1219, [(.aload_n 1, (0, 0, 0, 0)), (.aload_n 0, (0, 0, 0, 0)), (.iload 4, (0, 0, 0, 0)), (.iconst 1, (0, 0, 0, 0)), (.iadd, (0, 0, 0, 0)), (.iaload, (0, 0, 0, 0)), (.aload_n 0, (0, 0, 0, 0)), (.iload 4, (0, 0, 0, 0)), (.iconst 2, (0, 0, 0, 0)), (.iadd, (0, 0, 0, 0)), (.iaload, (0, 0, 0, 0)), (.aload_n 0, (0, 0, 0, 0)), (.iload 4, (0, 0, 0, 0)), (.iconst 3, (0, 0, 0, 0)), (.iadd, (0, 0, 0, 0)), (.iaload, (0, 0, 0, 0)), (.aload_n 3, (0, 0, 0, 0)), (.invokestatic 148, (218, 5, 0, 0)), (.istore 5, (0, 0, 0, 0)), (.aload_n 2, (0, 0, 0, 0)), (.aload_n 0, (0, 0, 0, 0)), (.iload 4, (0, 0, 0, 0)), (.iconst 1, (0, 0, 0, 0)), (.iadd, (0, 0, 0, 0)), (.iaload, (0, 0, 0, 0)), (.aload_n 0, (0, 0, 0, 0)), (.iload 4, (0, 0, 0, 0)), (.iconst 2, (0, 0, 0, 0)), (.iadd, (0, 0, 0, 0)), (.iaload, (0, 0, 0, 0)), (.aload_n 0, (0, 0, 0, 0)), (.iload 4, (0, 0, 0, 0)), (.iconst 3, (0, 0, 0, 0)), (.iadd, (0, 0, 0, 0)), (.iaload, (0, 0, 0, 0)), (.invokevirtual 150, (57, 3, 12, 0)), (.istore 6, (0, 0, 0, 0)), (.aload_n 2, (0, 0, 0, 0)), (.invokevirtual 123, (85, 0, 12, 0)), (.iload 5, (0, 0, 0, 0))], (.if_icmp .eq 5, (0, 0, 0, 0)), [73, 72]),
  (1277, [(.iconst 0, (0, 0, 0, 0))], (.ireturn, (1, 0, 0, 0)), []),
  (1279, [(.iload 5, (0, 0, 0, 0))], (.ifCond .ne 15, (0, 0, 0, 0)), [76, 74]),
  (1284, [(.aload_n 3, (0, 0, 0, 0)), (.iconst 0, (0, 0, 0, 0)), (.laload, (0, 0, 0, 0)), (.iload 6, (0, 0, 0, 0)), (.i2l, (0, 0, 0, 0)), (.lcmp, (0, 0, 0, 0))], (.ifCond .eq 5, (0, 0, 0, 0)), [76, 75]),
  (1294, [(.iconst 0, (0, 0, 0, 0))], (.ireturn, (1, 0, 0, 0)), []),
  (1296, [], (.goto 28, (0, 0, 0, 0)), [79]),
  (1299, [(.aload_n 1, (0, 0, 0, 0)), (.aload_n 0, (0, 0, 0, 0)), (.iload 4, (0, 0, 0, 0)), (.iconst 1, (0, 0, 0, 0)), (.iadd, (0, 0, 0, 0)), (.iaload, (0, 0, 0, 0)), (.invokevirtual 151, (210, 1, 9, 0)), (.aload_n 2, (0, 0, 0, 0)), (.aload_n 0, (0, 0, 0, 0)), (.iload 4, (0, 0, 0, 0)), (.iconst 1, (0, 0, 0, 0)), (.iadd, (0, 0, 0, 0)), (.iaload, (0, 0, 0, 0)), (.invokevirtual 154, (88, 1, 12, 0))], (.if_icmp .eq 5, (0, 0, 0, 0)), [79, 78]),
  (1322, [(.iconst 0, (0, 0, 0, 0))], (.ireturn, (1, 0, 0, 0)), []),
  (1324, [(.iinc 4 6, (0, 0, 0, 0))], (.goto (-1274), (0, 0, 0, 0)), [1]),
  (1330, [(.iconst 1, (0, 0, 0, 0))], (.ireturn, (1, 0, 0, 0)), [])]
def bt_all : List (List bi_K) := [bt_J9_floorMod_7cf53, bt_J9_max_7cf53, bt_J9_min_7cf53, bt_X0_add, bt_X0_at, bt_X0_drop, bt_X0_init, bt_X10_init, bt_X11_drop, bt_X11_find, bt_X11_hasAll, bt_X11_init, bt_X11_isPinned, bt_X11_latest, bt_X11_latestLine, bt_X11_snaps, bt_X11_stagesNothing, bt_X11_thins, bt_X12_accepted, bt_X12_acknowledged, bt_X12_act, bt_X12_acts, bt_X12_after, bt_X12_against, bt_X12_back, bt_X12_begins, bt_X12_checkpoint, bt_X12_checks, bt_X12_copies, bt_X12_crash, bt_X12_cut, bt_X12_data, bt_X12_differ, bt_X12_different, bt_X12_fails, bt_X12_fill, bt_X12_flies, bt_X12_flush, bt_X12_flushes, bt_X12_follows, bt_X12_force, bt_X12_free, bt_X12_given, bt_X12_goesBack, bt_X12_goesDown, bt_X12_greeted, bt_X12_group, bt_X12_had, bt_X12_init, bt_X12_isPlace, bt_X12_isSite, bt_X12_isTaken, bt_X12_item, bt_X12_know, bt_X12_lacked, bt_X12_leave, bt_X12_lineOf, bt_X12_lost, bt_X12_message, bt_X12_needs, bt_X12_nodes, bt_X12_of, bt_X12_offered, bt_X12_offers, bt_X12_old, bt_X12_other, bt_X12_pass, bt_X12_path, bt_X12_period, bt_X12_piece, bt_X12_power, bt_X12_read, bt_X12_receive, bt_X12_send, bt_X12_sendsOn, bt_X12_snap, bt_X12_snapshot, bt_X12_span, bt_X12_spanOf, bt_X12_staged, bt_X12_stagesJust, bt_X12_state, bt_X12_stay, bt_X12_sum, bt_X12_takes, bt_X12_thrown, bt_X12_tick, bt_X12_ticks, bt_X12_total, bt_X12_up, bt_X12_write, bt_X12_writes, bt_X1_begin, bt_X1_init, bt_X1_mark, bt_X2_init, bt_X2_itemCount, bt_X3_add, bt_X3_begin, bt_X3_init, bt_X3_sink, bt_X3_sort, bt_X4_act, bt_X4_act_, bt_X4_fail, bt_X4_init, bt_X5_add, bt_X5_begin, bt_X5_clear, bt_X5_hasAll, bt_X5_init, bt_X5_isOf, bt_X6_beginEpoch, bt_X6_blocks, bt_X6_forgetOther, bt_X6_hold, bt_X6_init, bt_X6_isPinned, bt_X6_isSource, bt_X6_learnEpoch, bt_X6_sends, bt_X6_thin, bt_X6_waitedEnough, bt_X6_wake, bt_X7_adopt, bt_X7_advance, bt_X7_drop, bt_X7_find, bt_X7_hasPlace, bt_X7_hasSnapshot, bt_X7_init, bt_X7_journal, bt_X7_keepNow, bt_X7_latest, bt_X7_latestLength, bt_X7_latestLine, bt_X7_lengthOf, bt_X7_lengthOfId, bt_X7_lineOf, bt_X7_losePending, bt_X7_nowIsLatest, bt_X7_numberAt, bt_X7_oldNumberAt, bt_X7_open, bt_X7_pending, bt_X7_put, bt_X7_returnTo, bt_X7_rewind, bt_X7_save, bt_X7_shelve, bt_X8_collect, bt_X8_extend, bt_X8_init, bt_X8_nodesBehind, bt_X8_placesBehind, bt_X8_placesInBoth, bt_X8_told, bt_X9_back, bt_X9_checkpoint, bt_X9_checkpointed, bt_X9_commit, bt_X9_crash, bt_X9_differ, bt_X9_fill, bt_X9_flush, bt_X9_flushed, bt_X9_force, bt_X9_freeBlocks, bt_X9_group, bt_X9_handOver, bt_X9_init, bt_X9_item, bt_X9_leave, bt_X9_lost, bt_X9_message, bt_X9_nextEpoch, bt_X9_old, bt_X9_onAccept, bt_X9_onAck, bt_X9_onCommon, bt_X9_onData, bt_X9_onGive, bt_X9_onHave, bt_X9_onHello, bt_X9_onLack, bt_X9_onOffer, bt_X9_pass, bt_X9_period, bt_X9_power, bt_X9_read, bt_X9_receive, bt_X9_refusalOf, bt_X9_send, bt_X9_sendData, bt_X9_sendForward, bt_X9_sendGive, bt_X9_sendHello, bt_X9_sendOffer, bt_X9_sendOn, bt_X9_sendProgress, bt_X9_snap, bt_X9_snapshot, bt_X9_spotOf, bt_X9_state, bt_X9_stay, bt_X9_storeOf, bt_X9_sum, bt_X9_tick, bt_X9_tickOf, bt_X9_tookSnapshot, bt_X9_total, bt_X9_totalOf, bt_X9_up, bt_X9_write, bt_X9_writeOne, bt_L_cell, bt_L_differ, bt_L_item, bt_L_lost, bt_L_old, bt_L_read, bt_L_sum, bt_L_law]
def bt_P : bi_P := fun mi b => (bt_all[mi]?).bind (fun t => t[b]?)
def bt_Ms : List bi_M := [(yJ9_floorMod_7cf53, cJ9_floorMod_7cf53, 3, (some .int), RJ9, 1, 20, []),
  (yJ9_max_7cf53, cJ9_max_7cf53, 2, (some .int), RJ9, 1, 20, []),
  (yJ9_min_7cf53, cJ9_min_7cf53, 2, (some .int), RJ9, 1, 20, []),
  (yX0_add, cX0_add, 2, none, RX0, 1, 20, []),
  (yX0_at, cX0_at, 2, (some (.object "TwinVaults$Message")), RX0, 1, 20, []),
  (yX0_drop, cX0_drop, 3, none, RX0, 1, 20, []),
  (yX0_init, cX0_init, 1, none, RX0, 1, 20, []),
  (yX10_init, cX10_init, 1, none, RX10, 1, 20, []),
  (yX11_drop, cX11_drop, 3, none, RX11, 1, 20, []),
  (yX11_find, cX11_find, 3, (some .int), RX11, 1, 20, []),
  (yX11_hasAll, cX11_hasAll, 1, (some .boolean), RX11, 1, 20, []),
  (yX11_init, cX11_init, 1, none, RX11, 1, 20, []),
  (yX11_isPinned, cX11_isPinned, 2, (some .boolean), RX11, 2, 40, []),
  (yX11_latest, cX11_latest, 1, (some .int), RX11, 1, 20, []),
  (yX11_latestLine, cX11_latestLine, 1, (some .int), RX11, 1, 20, []),
  (yX11_snaps, cX11_snaps, 3, none, RX11, 1, 20, []),
  (yX11_stagesNothing, cX11_stagesNothing, 1, none, RX11, 1, 20, []),
  (yX11_thins, cX11_thins, 3, none, RX11, 3, 61, []),
  (yX12_accepted, cX12_accepted, 3, none, RX12, 4, 91, []),
  (yX12_acknowledged, cX12_acknowledged, 3, none, RX12, 4, 91, []),
  (yX12_act, cX12_act, 2, (some .boolean), RX12, 2, 41, []),
  (yX12_acts, cX12_acts, 5, (some .boolean), RX12, 3, 62, []),
  (yX12_after, cX12_after, 3, (some .int), RX12, 1, 20, []),
  (yX12_against, cX12_against, 4, (some .int), RX12, 1, 20, []),
  (yX12_back, cX12_back, 4, (some .int), RX12, 3, 70, []),
  (yX12_begins, cX12_begins, 3, none, RX12, 2, 43, []),
  (yX12_checkpoint, cX12_checkpoint, 4, (some .int), RX12, 5, 108, []),
  (yX12_checks, cX12_checks, 3, (some .int), RX12, 4, 86, []),
  (yX12_copies, cX12_copies, 2, none, RX12, 4, 91, []),
  (yX12_crash, cX12_crash, 2, (some .boolean), RX12, 2, 41, []),
  (yX12_cut, cX12_cut, 4, (some .int), RX12, 1, 20, []),
  (yX12_data, cX12_data, 3, none, RX12, 5, 111, []),
  (yX12_differ, cX12_differ, 5, (some .int), RX12, 2, 45, []),
  (yX12_different, cX12_different, 6, (some .int), RX12, 1, 20, []),
  (yX12_fails, cX12_fails, 2, (some .int), RX12, 1, 20, []),
  (yX12_fill, cX12_fill, 9, (some .int), RX12, 7, 154, []),
  (yX12_flies, cX12_flies, 2, (some (.object "TwinVaultsModel$Message")), RX12, 1, 20, []),
  (yX12_flush, cX12_flush, 3, (some .int), RX12, 6, 129, []),
  (yX12_flushes, cX12_flushes, 2, (some .boolean), RX12, 5, 108, []),
  (yX12_follows, cX12_follows, 3, (some .boolean), RX12, 3, 62, []),
  (yX12_force, cX12_force, 4, (some .int), RX12, 5, 108, []),
  (yX12_free, cX12_free, 4, (some .int), RX12, 2, 48, []),
  (yX12_given, cX12_given, 3, none, RX12, 4, 83, []),
  (yX12_goesBack, cX12_goesBack, 5, none, RX12, 4, 83, []),
  (yX12_goesDown, cX12_goesDown, 2, none, RX12, 1, 20, []),
  (yX12_greeted, cX12_greeted, 5, none, RX12, 4, 83, []),
  (yX12_group, cX12_group, 5, (some .int), RX12, 2, 40, []),
  (yX12_had, cX12_had, 2, none, RX12, 4, 83, []),
  (yX12_init, cX12_init, 4, none, RX12, 2, 41, []),
  (yX12_isPlace, cX12_isPlace, 4, (some .boolean), RX12, 1, 20, []),
  (yX12_isSite, cX12_isSite, 1, (some .boolean), RX12, 1, 20, []),
  (yX12_isTaken, cX12_isTaken, 4, none, RX12, 1, 20, []),
  (yX12_item, cX12_item, 5, (some .int), RX12, 2, 41, []),
  (yX12_know, cX12_know, 3, none, RX12, 1, 20, []),
  (yX12_lacked, cX12_lacked, 3, none, RX12, 4, 91, []),
  (yX12_leave, cX12_leave, 4, (some .int), RX12, 6, 129, []),
  (yX12_lineOf, cX12_lineOf, 4, (some .int), RX12, 1, 20, []),
  (yX12_lost, cX12_lost, 5, (some .int), RX12, 2, 41, []),
  (yX12_message, cX12_message, 4, (some .int), RX12, 2, 41, []),
  (yX12_needs, cX12_needs, 9, (some .int), RX12, 1, 20, []),
  (yX12_nodes, cX12_nodes, 6, (some .int), RX12, 2, 43, []),
  (yX12_of, cX12_of, 2, (some (.object "TwinVaultsModel$Store")), RX12, 1, 20, []),
  (yX12_offered, cX12_offered, 3, none, RX12, 5, 111, []),
  (yX12_offers, cX12_offers, 2, none, RX12, 3, 70, []),
  (yX12_old, cX12_old, 7, (some .int), RX12, 2, 43, []),
  (yX12_other, cX12_other, 2, (some (.object "TwinVaultsModel$Store")), RX12, 1, 20, []),
  (yX12_pass, cX12_pass, 5, (some .int), RX12, 7, 156, []),
  (yX12_path, cX12_path, 4, (some .int), RX12, 1, 20, []),
  (yX12_period, cX12_period, 2, (some .boolean), RX12, 1, 20, []),
  (yX12_piece, cX12_piece, 3, none, RX12, 1, 20, []),
  (yX12_power, cX12_power, 3, (some .boolean), RX12, 2, 40, []),
  (yX12_read, cX12_read, 5, (some .int), RX12, 2, 43, []),
  (yX12_receive, cX12_receive, 4, none, RX12, 6, 133, []),
  (yX12_send, cX12_send, 9, none, RX12, 2, 42, []),
  (yX12_sendsOn, cX12_sendsOn, 2, none, RX12, 3, 70, []),
  (yX12_snap, cX12_snap, 5, (some .int), RX12, 2, 41, []),
  (yX12_snapshot, cX12_snapshot, 4, (some .int), RX12, 6, 129, []),
  (yX12_span, cX12_span, 5, none, RX12, 1, 20, []),
  (yX12_spanOf, cX12_spanOf, 2, none, RX12, 2, 44, []),
  (yX12_staged, cX12_staged, 6, none, RX12, 4, 86, []),
  (yX12_stagesJust, cX12_stagesJust, 2, (some .boolean), RX12, 1, 20, []),
  (yX12_state, cX12_state, 4, (some .int), RX12, 2, 48, []),
  (yX12_stay, cX12_stay, 4, (some .int), RX12, 3, 62, []),
  (yX12_sum, cX12_sum, 6, (some .int), RX12, 2, 43, []),
  (yX12_takes, cX12_takes, 2, (some .boolean), RX12, 5, 108, []),
  (yX12_thrown, cX12_thrown, 1, (some .int), RX12, 1, 20, []),
  (yX12_tick, cX12_tick, 5, (some .int), RX12, 7, 150, []),
  (yX12_ticks, cX12_ticks, 2, none, RX12, 6, 129, []),
  (yX12_total, cX12_total, 3, (some .int), RX12, 3, 71, []),
  (yX12_up, cX12_up, 5, (some .int), RX12, 2, 40, []),
  (yX12_write, cX12_write, 6, (some .int), RX12, 7, 154, []),
  (yX12_writes, cX12_writes, 6, (some .int), RX12, 6, 129, []),
  (yX1_begin, cX1_begin, 1, none, RX1, 1, 20, []),
  (yX1_init, cX1_init, 2, none, RX1, 1, 20, []),
  (yX1_mark, cX1_mark, 2, (some .int), RX1, 1, 20, []),
  (yX2_init, cX2_init, 5, none, RX2, 1, 20, []),
  (yX2_itemCount, cX2_itemCount, 1, (some .int), RX2, 1, 20, []),
  (yX3_add, cX3_add, 2, none, RX3, 1, 20, []),
  (yX3_begin, cX3_begin, 3, none, RX3, 1, 20, []),
  (yX3_init, cX3_init, 2, none, RX3, 1, 20, []),
  (yX3_sink, cX3_sink, 7, none, RX3, 1, 20, []),
  (yX3_sort, cX3_sort, 4, none, RX3, 2, 46, []),
  (yX4_act, cX4_act, 1, (some .boolean), RX4, 2, 40, []),
  (yX4_act_, cX4_act_, 3, (some .boolean), RX4, 3, 60, []),
  (yX4_fail, cX4_fail, 1, none, RX4, 1, 20, []),
  (yX4_init, cX4_init, 2, none, RX4, 1, 20, []),
  (yX5_add, cX5_add, 2, none, RX5, 1, 20, []),
  (yX5_begin, cX5_begin, 2, none, RX5, 2, 40, []),
  (yX5_clear, cX5_clear, 1, none, RX5, 1, 20, []),
  (yX5_hasAll, cX5_hasAll, 1, (some .boolean), RX5, 1, 20, []),
  (yX5_init, cX5_init, 1, none, RX5, 1, 20, []),
  (yX5_isOf, cX5_isOf, 3, (some .boolean), RX5, 1, 20, []),
  (yX6_beginEpoch, cX6_beginEpoch, 3, none, RX6, 4, 93, []),
  (yX6_blocks, cX6_blocks, 1, (some .int), RX6, 1, 20, []),
  (yX6_forgetOther, cX6_forgetOther, 1, none, RX6, 2, 42, []),
  (yX6_hold, cX6_hold, 3, none, RX6, 1, 20, []),
  (yX6_init, cX6_init, 5, none, RX6, 2, 41, []),
  (yX6_isPinned, cX6_isPinned, 2, (some .boolean), RX6, 2, 40, []),
  (yX6_isSource, cX6_isSource, 1, (some .boolean), RX6, 1, 20, []),
  (yX6_learnEpoch, cX6_learnEpoch, 2, none, RX6, 3, 62, []),
  (yX6_sends, cX6_sends, 3, (some .boolean), RX6, 2, 40, []),
  (yX6_thin, cX6_thin, 4, none, RX6, 3, 70, []),
  (yX6_waitedEnough, cX6_waitedEnough, 1, (some .boolean), RX6, 1, 20, []),
  (yX6_wake, cX6_wake, 1, (some .int), RX6, 3, 67, []),
  (yX7_adopt, cX7_adopt, 4, none, RX7, 2, 45, []),
  (yX7_advance, cX7_advance, 6, none, RX7, 1, 20, []),
  (yX7_drop, cX7_drop, 4, none, RX7, 2, 47, []),
  (yX7_find, cX7_find, 3, (some .int), RX7, 1, 20, []),
  (yX7_hasPlace, cX7_hasPlace, 3, (some .boolean), RX7, 1, 20, []),
  (yX7_hasSnapshot, cX7_hasSnapshot, 2, (some .boolean), RX7, 1, 20, []),
  (yX7_init, cX7_init, 2, none, RX7, 1, 20, []),
  (yX7_journal, cX7_journal, 1, (some .int), RX7, 1, 20, []),
  (yX7_keepNow, cX7_keepNow, 1, none, RX7, 3, 60, []),
  (yX7_latest, cX7_latest, 1, (some .int), RX7, 1, 20, []),
  (yX7_latestLength, cX7_latestLength, 1, (some .int), RX7, 2, 40, []),
  (yX7_latestLine, cX7_latestLine, 1, (some .int), RX7, 1, 20, []),
  (yX7_lengthOf, cX7_lengthOf, 2, (some .int), RX7, 1, 20, []),
  (yX7_lengthOfId, cX7_lengthOfId, 2, (some .int), RX7, 3, 64, []),
  (yX7_lineOf, cX7_lineOf, 3, (some .int), RX7, 2, 42, []),
  (yX7_losePending, cX7_losePending, 3, (some .int), RX7, 2, 45, []),
  (yX7_nowIsLatest, cX7_nowIsLatest, 1, (some .boolean), RX7, 2, 40, []),
  (yX7_numberAt, cX7_numberAt, 2, (some .int), RX7, 1, 20, []),
  (yX7_oldNumberAt, cX7_oldNumberAt, 6, (some .int), RX7, 2, 41, []),
  (yX7_open, cX7_open, 3, none, RX7, 1, 20, []),
  (yX7_pending, cX7_pending, 1, (some .int), RX7, 1, 20, []),
  (yX7_put, cX7_put, 4, none, RX7, 2, 44, []),
  (yX7_returnTo, cX7_returnTo, 4, none, RX7, 2, 45, []),
  (yX7_rewind, cX7_rewind, 3, none, RX7, 1, 20, []),
  (yX7_save, cX7_save, 4, none, RX7, 2, 40, []),
  (yX7_shelve, cX7_shelve, 2, none, RX7, 1, 20, []),
  (yX8_collect, cX8_collect, 6, none, RX8, 3, 69, []),
  (yX8_extend, cX8_extend, 5, (some .int), RX8, 1, 20, []),
  (yX8_init, cX8_init, 2, none, RX8, 2, 41, []),
  (yX8_nodesBehind, cX8_nodesBehind, 9, (some .int), RX8, 2, 41, []),
  (yX8_placesBehind, cX8_placesBehind, 6, (some .int), RX8, 1, 20, []),
  (yX8_placesInBoth, cX8_placesInBoth, 8, (some .int), RX8, 1, 20, []),
  (yX8_told, cX8_told, 3, (some .int), RX8, 1, 20, []),
  (yX9_back, cX9_back, 4, (some .int), RX9, 3, 68, []),
  (yX9_checkpoint, cX9_checkpoint, 4, (some .int), RX9, 5, 104, []),
  (yX9_checkpointed, cX9_checkpointed, 3, (some .boolean), RX9, 4, 82, []),
  (yX9_commit, cX9_commit, 5, none, RX9, 4, 93, []),
  (yX9_crash, cX9_crash, 2, (some .boolean), RX9, 2, 40, []),
  (yX9_differ, cX9_differ, 5, (some .int), RX9, 6, 90, []),
  (yX9_fill, cX9_fill, 10, (some .int), RX9, 7, 151, []),
  (yX9_flush, cX9_flush, 3, (some .int), RX9, 6, 127, []),
  (yX9_flushed, cX9_flushed, 4, (some .boolean), RX9, 5, 104, []),
  (yX9_force, cX9_force, 3, (some .int), RX9, 5, 115, []),
  (yX9_freeBlocks, cX9_freeBlocks, 5, (some .int), RX9, 2, 41, []),
  (yX9_group, cX9_group, 4, (some .int), RX9, 2, 42, []),
  (yX9_handOver, cX9_handOver, 2, none, RX9, 3, 66, []),
  (yX9_init, cX9_init, 5, none, RX9, 3, 65, []),
  (yX9_item, cX9_item, 5, (some .int), RX9, 6, 90, []),
  (yX9_leave, cX9_leave, 4, (some .int), RX9, 6, 125, []),
  (yX9_lost, cX9_lost, 5, (some .int), RX9, 6, 90, []),
  (yX9_message, cX9_message, 4, (some .int), RX9, 2, 41, []),
  (yX9_nextEpoch, cX9_nextEpoch, 2, (some .int), RX9, 2, 42, []),
  (yX9_old, cX9_old, 6, (some .int), RX9, 6, 90, []),
  (yX9_onAccept, cX9_onAccept, 3, none, RX9, 5, 117, []),
  (yX9_onAck, cX9_onAck, 3, none, RX9, 5, 117, []),
  (yX9_onCommon, cX9_onCommon, 4, none, RX9, 4, 94, []),
  (yX9_onData, cX9_onData, 4, none, RX9, 5, 117, []),
  (yX9_onGive, cX9_onGive, 3, none, RX9, 5, 115, []),
  (yX9_onHave, cX9_onHave, 3, none, RX9, 4, 93, []),
  (yX9_onHello, cX9_onHello, 5, none, RX9, 4, 93, []),
  (yX9_onLack, cX9_onLack, 3, none, RX9, 5, 117, []),
  (yX9_onOffer, cX9_onOffer, 4, none, RX9, 5, 117, []),
  (yX9_pass, cX9_pass, 4, (some .int), RX9, 7, 162, []),
  (yX9_period, cX9_period, 2, (some .boolean), RX9, 1, 20, []),
  (yX9_power, cX9_power, 3, (some .boolean), RX9, 1, 20, []),
  (yX9_read, cX9_read, 5, (some .int), RX9, 6, 90, []),
  (yX9_receive, cX9_receive, 3, none, RX9, 6, 140, []),
  (yX9_refusalOf, cX9_refusalOf, 2, (some .int), RX9, 1, 20, []),
  (yX9_send, cX9_send, 4, none, RX9, 2, 44, []),
  (yX9_sendData, cX9_sendData, 9, none, RX9, 2, 44, []),
  (yX9_sendForward, cX9_sendForward, 2, none, RX9, 5, 117, []),
  (yX9_sendGive, cX9_sendGive, 3, none, RX9, 2, 44, []),
  (yX9_sendHello, cX9_sendHello, 5, none, RX9, 2, 44, []),
  (yX9_sendOffer, cX9_sendOffer, 4, none, RX9, 4, 94, []),
  (yX9_sendOn, cX9_sendOn, 4, none, RX9, 4, 94, []),
  (yX9_sendProgress, cX9_sendProgress, 4, none, RX9, 2, 44, []),
  (yX9_snap, cX9_snap, 5, (some .int), RX9, 2, 41, []),
  (yX9_snapshot, cX9_snapshot, 4, (some .int), RX9, 6, 125, []),
  (yX9_spotOf, cX9_spotOf, 2, (some .int), RX9, 1, 20, []),
  (yX9_state, cX9_state, 4, (some .int), RX9, 2, 41, []),
  (yX9_stay, cX9_stay, 4, (some .int), RX9, 3, 60, []),
  (yX9_storeOf, cX9_storeOf, 2, (some (.object "TwinVaults$Store")), RX9, 1, 20, []),
  (yX9_sum, cX9_sum, 7, (some .int), RX9, 6, 90, []),
  (yX9_tick, cX9_tick, 3, (some .int), RX9, 7, 159, []),
  (yX9_tickOf, cX9_tickOf, 2, none, RX9, 6, 138, []),
  (yX9_tookSnapshot, cX9_tookSnapshot, 2, (some .boolean), RX9, 5, 104, []),
  (yX9_total, cX9_total, 2, (some .int), RX9, 4, 87, []),
  (yX9_totalOf, cX9_totalOf, 3, (some .int), RX9, 3, 65, []),
  (yX9_up, cX9_up, 5, (some .int), RX9, 4, 87, []),
  (yX9_write, cX9_write, 7, (some .int), RX9, 7, 151, []),
  (yX9_writeOne, cX9_writeOne, 5, (some .int), RX9, 6, 127, []),
  (yL_cell, cL_cell, 2, (some .int), RL, 1, 20, []),
  (yL_differ, cL_differ, 6, (some .int), RL, 7, 114, [(0, 12, 15, 13), (0, 12, 19, 18)]),
  (yL_item, cL_item, 6, (some .int), RL, 7, 114, [(0, 12, 15, 13)]),
  (yL_lost, cL_lost, 6, (some .int), RL, 7, 114, [(0, 12, 15, 13)]),
  (yL_old, cL_old, 7, (some .int), RL, 7, 115, [(0, 14, 17, 13), (0, 14, 21, 18)]),
  (yL_read, cL_read, 6, (some .int), RL, 7, 114, [(0, 12, 15, 13), (0, 12, 19, 18)]),
  (yL_sum, cL_sum, 5, (some .int), RL, 7, 116, [(0, 10, 13, 13), (0, 10, 17, 18)]),
  (yL_law, cL_law, 7, (some .boolean), RL, 8, 185, [])]
def bt_M : Nat → Option bi_M := fun mi => bt_Ms[mi]?
def bi_kd : bi_K := (0, [], (.nop, (0, 0, 0, 0)), [])
theorem bi_allk {C : bi_K → Prop} {ks : List bi_K} {b : Nat} {k : bi_K} (h : ks[b]? = some k) (f : ∀ b, b < ks.length → C (ks.getD b bi_kd)) : C k := by
  have hl := (List.getElem?_eq_some_iff.mp h).1
  have := f b hl
  rw [List.getD_eq_getElem?_getD, h] at this
  exact this
