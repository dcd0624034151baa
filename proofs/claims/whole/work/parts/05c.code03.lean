/-! the code, 3 -/
/-- TelegraphHouse$Net.goesAhead(LTelegraphHouse$Journey;I)Z -/
def B90 : List (Nat × List EEy) := [
  (0, [(0, .aload_n 0, 1, 0, 0, 0, .null), (1, .iload_n 2, 1, 2, 0, 0, .null), (2, .invokevirtual 59, 3, 0, 69, 2, .ref 7), (5, .astore_n 3, 1, 3, 0, 0, .null), (6, .aload_n 3, 1, 3, 0, 0, .null), (7, .ifnull 11, 3, 18, 0, 0, .null), (10, .aload_n 1, 1, 1, 0, 0, .null), (11, .aload_n 3, 1, 3, 0, 0, .null), (12, .invokevirtual 228, 3, 0, 53, 2, .ref 4), (15, .ifCond .eq 7, 3, 22, 0, 0, .null)]),
  (18, [(18, .iconst 1, 1, 0, 0, 0, .int (nI 1)), (19, .goto 4, 3, 23, 0, 0, .null)]),
  (22, [(22, .iconst 0, 1, 0, 0, 0, .int (nI 0))]),
  (23, [(23, .ireturn, 1, 0, 0, 0, .null)])]
set_option maxRecDepth 100000 in
theorem okB90 : okB 90 B90 = true := by decide +kernel
/-- TelegraphHouse$Net.waitingAt(II)I -/
def B91 : List (Nat × List EEy) := [
  (0, [(0, .iconst 0, 1, 0, 0, 0, .int (nI 0)), (1, .istore_n 3, 1, 3, 0, 0, .null)]),
  (2, [(2, .iload_n 3, 1, 3, 0, 0, .null), (3, .aload_n 0, 1, 0, 0, 0, .null), (4, .getfield 47, 3, 7, 5, 219, .int 0), (7, .if_icmp .ge 43, 3, 50, 0, 0, .null), (10, .aload_n 0, 1, 0, 0, 0, .null), (11, .iload_n 3, 1, 3, 0, 0, .null), (12, .invokevirtual 59, 3, 0, 69, 2, .ref 7), (15, .astore 4, 2, 0, 0, 0, .null), (17, .aload 4, 2, 0, 0, 0, .null), (19, .ifnull 25, 3, 44, 0, 0, .null), (22, .aload 4, 2, 0, 0, 0, .null), (24, .iload_n 1, 1, 1, 0, 0, .null), (25, .invokevirtual 221, 3, 0, 52, 2, .ref 4), (28, .ifCond .eq 16, 3, 44, 0, 0, .null), (31, .aload_n 0, 1, 0, 0, 0, .null), (32, .aload 4, 2, 0, 0, 0, .null), (34, .iload_n 1, 1, 1, 0, 0, .null), (35, .invokevirtual 232, 3, 0, 92, 3, .ref 7), (38, .iload_n 2, 1, 2, 0, 0, .null), (39, .if_icmp .ne 5, 3, 44, 0, 0, .null), (42, .iload_n 3, 1, 3, 0, 0, .null), (43, .ireturn, 1, 0, 0, 0, .null)]),
  (44, [(44, .iinc 3 1, 3, 0, 0, 0, .int (nI 1)), (47, .goto (-45), 3, 2, 0, 0, .null)]),
  (50, [(50, .bipush (-9), 2, 0, 0, 0, .int (-9)), (52, .ireturn, 1, 0, 0, 0, .null)])]
set_option maxRecDepth 100000 in
theorem okB91 : okB 91 B91 = true := by decide +kernel
/-- TelegraphHouse$Net.aheadOf(LTelegraphHouse$Journey;I)I -/
def B92 : List (Nat × List EEy) := [
  (0, [(0, .iconst 0, 1, 0, 0, 0, .int (nI 0)), (1, .istore_n 3, 1, 3, 0, 0, .null), (2, .iconst 0, 1, 0, 0, 0, .int (nI 0)), (3, .istore 4, 2, 0, 0, 0, .null)]),
  (5, [(5, .iload 4, 2, 0, 0, 0, .null), (7, .aload_n 0, 1, 0, 0, 0, .null), (8, .getfield 47, 3, 7, 5, 219, .int 0), (11, .if_icmp .ge 43, 3, 54, 0, 0, .null), (14, .aload_n 0, 1, 0, 0, 0, .null), (15, .iload 4, 2, 0, 0, 0, .null), (17, .invokevirtual 59, 3, 0, 69, 2, .ref 7), (20, .astore 5, 2, 0, 0, 0, .null), (22, .aload 5, 2, 0, 0, 0, .null), (24, .ifnull 24, 3, 48, 0, 0, .null), (27, .aload 5, 2, 0, 0, 0, .null), (29, .iload_n 2, 1, 2, 0, 0, .null), (30, .invokevirtual 221, 3, 0, 52, 2, .ref 4), (33, .ifCond .eq 15, 3, 48, 0, 0, .null), (36, .aload 5, 2, 0, 0, 0, .null), (38, .aload_n 1, 1, 1, 0, 0, .null), (39, .invokevirtual 228, 3, 0, 53, 2, .ref 4), (42, .ifCond .eq 6, 3, 48, 0, 0, .null), (45, .iinc 3 1, 3, 0, 0, 0, .int (nI 1))]),
  (48, [(48, .iinc 4 1, 3, 0, 0, 0, .int (nI 1)), (51, .goto (-46), 3, 5, 0, 0, .null)]),
  (54, [(54, .iload_n 3, 1, 3, 0, 0, .null), (55, .ireturn, 1, 0, 0, 0, .null)])]
set_option maxRecDepth 100000 in
theorem okB92 : okB 92 B92 = true := by decide +kernel
/-- TelegraphHouse$Route.<init>()V -/
def B93 : List (Nat × List EEy) := [
  (0, [(0, .aload_n 0, 1, 0, 0, 0, .null), (1, .invokespecial 3, 3, 14, 200, 0, .null), (4, .aload_n 0, 1, 0, 0, 0, .null), (5, .bipush 8, 2, 0, 0, 0, .int (nI 8)), (7, .newarray .int, 2, 14, 128, 0, .null), (9, .putfield 9, 3, 8, 0, 201, .null), (12, .aload_n 0, 1, 0, 0, 0, .null), (13, .bipush 8, 2, 0, 0, 0, .int (nI 8)), (15, .newarray .int, 2, 14, 128, 0, .null), (17, .putfield 15, 3, 8, 1, 202, .null), (20, .return_, 1, 0, 0, 0, .null)])]
set_option maxRecDepth 100000 in
theorem okB93 : okB 93 B93 = true := by decide +kernel
/-- TelegraphHouse$Route.startAt(I)V -/
def B94 : List (Nat × List EEy) := [
  (0, [(0, .aload_n 0, 1, 0, 0, 0, .null), (1, .getfield 9, 3, 8, 0, 201, .null), (4, .iconst 0, 1, 0, 0, 0, .int (nI 0)), (5, .iload_n 1, 1, 1, 0, 0, .null), (6, .iastore, 1, 0, 0, 0, .null), (7, .aload_n 0, 1, 0, 0, 0, .null), (8, .iconst 0, 1, 0, 0, 0, .int (nI 0)), (9, .putfield 18, 3, 8, 2, 203, .int 0), (12, .return_, 1, 0, 0, 0, .null)])]
set_option maxRecDepth 100000 in
theorem okB94 : okB 94 B94 = true := by decide +kernel
/-- TelegraphHouse$Route.addLeg(II)V -/
def B95 : List (Nat × List EEy) := [
  (0, [(0, .aload_n 0, 1, 0, 0, 0, .null), (1, .getfield 18, 3, 8, 2, 203, .int 0), (4, .iconst 1, 1, 0, 0, 0, .int (nI 1)), (5, .iadd, 1, 0, 0, 0, .null), (6, .bipush 8, 2, 0, 0, 0, .int (nI 8)), (8, .if_icmp .ge 33, 3, 41, 0, 0, .null), (11, .aload_n 0, 1, 0, 0, 0, .null), (12, .getfield 15, 3, 8, 1, 202, .null), (15, .aload_n 0, 1, 0, 0, 0, .null), (16, .getfield 18, 3, 8, 2, 203, .int 0), (19, .iload_n 1, 1, 1, 0, 0, .null), (20, .iastore, 1, 0, 0, 0, .null), (21, .aload_n 0, 1, 0, 0, 0, .null), (22, .dup, 1, 0, 0, 0, .null), (23, .getfield 18, 3, 8, 2, 203, .int 0), (26, .iconst 1, 1, 0, 0, 0, .int (nI 1)), (27, .iadd, 1, 0, 0, 0, .null), (28, .putfield 18, 3, 8, 2, 203, .int 0), (31, .aload_n 0, 1, 0, 0, 0, .null), (32, .getfield 9, 3, 8, 0, 201, .null), (35, .aload_n 0, 1, 0, 0, 0, .null), (36, .getfield 18, 3, 8, 2, 203, .int 0), (39, .iload_n 2, 1, 2, 0, 0, .null), (40, .iastore, 1, 0, 0, 0, .null)]),
  (41, [(41, .return_, 1, 0, 0, 0, .null)])]
set_option maxRecDepth 100000 in
theorem okB95 : okB 95 B95 = true := by decide +kernel
/-- TelegraphHouse$Route.stationAt(I)I -/
def B96 : List (Nat × List EEy) := [
  (0, [(0, .iload_n 1, 1, 1, 0, 0, .null), (1, .iconst 0, 1, 0, 0, 0, .int (nI 0)), (2, .aload_n 0, 1, 0, 0, 0, .null), (3, .getfield 18, 3, 8, 2, 203, .int 0), (6, .invokestatic 22, 3, 4, 153, 3, .ref 11), (9, .ifCond .eq 12, 3, 21, 0, 0, .null), (12, .aload_n 0, 1, 0, 0, 0, .null), (13, .getfield 9, 3, 8, 0, 201, .null), (16, .iload_n 1, 1, 1, 0, 0, .null), (17, .iaload, 1, 0, 0, 0, .null), (18, .goto 5, 3, 23, 0, 0, .null)]),
  (21, [(21, .bipush (-9), 2, 0, 0, 0, .int (-9))]),
  (23, [(23, .ireturn, 1, 0, 0, 0, .null)])]
set_option maxRecDepth 100000 in
theorem okB96 : okB 96 B96 = true := by decide +kernel
/-- TelegraphHouse$Route.lineAfter(I)I -/
def B97 : List (Nat × List EEy) := [
  (0, [(0, .iload_n 1, 1, 1, 0, 0, .null), (1, .iconst 0, 1, 0, 0, 0, .int (nI 0)), (2, .aload_n 0, 1, 0, 0, 0, .null), (3, .getfield 18, 3, 8, 2, 203, .int 0), (6, .iconst 1, 1, 0, 0, 0, .int (nI 1)), (7, .isub, 1, 0, 0, 0, .null), (8, .invokestatic 22, 3, 4, 153, 3, .ref 11), (11, .ifCond .eq 12, 3, 23, 0, 0, .null), (14, .aload_n 0, 1, 0, 0, 0, .null), (15, .getfield 15, 3, 8, 1, 202, .null), (18, .iload_n 1, 1, 1, 0, 0, .null), (19, .iaload, 1, 0, 0, 0, .null), (20, .goto 5, 3, 25, 0, 0, .null)]),
  (23, [(23, .bipush (-9), 2, 0, 0, 0, .int (-9))]),
  (25, [(25, .ireturn, 1, 0, 0, 0, .null)])]
set_option maxRecDepth 100000 in
theorem okB97 : okB 97 B97 = true := by decide +kernel
/-- TelegraphHouse$Route.copyFrom(LTelegraphHouse$Route;)V -/
def B98 : List (Nat × List EEy) := [
  (0, [(0, .aload_n 0, 1, 0, 0, 0, .null), (1, .aload_n 1, 1, 1, 0, 0, .null), (2, .getfield 18, 3, 8, 2, 203, .int 0), (5, .putfield 18, 3, 8, 2, 203, .int 0), (8, .aload_n 1, 1, 1, 0, 0, .null), (9, .getfield 9, 3, 8, 0, 201, .null), (12, .iconst 0, 1, 0, 0, 0, .int (nI 0)), (13, .aload_n 0, 1, 0, 0, 0, .null), (14, .getfield 9, 3, 8, 0, 201, .null), (17, .iconst 0, 1, 0, 0, 0, .int (nI 0)), (18, .bipush 8, 2, 0, 0, 0, .int (nI 8)), (20, .invokestatic 26, 3, 13, 1001, 0, .null), (23, .aload_n 1, 1, 1, 0, 0, .null), (24, .getfield 15, 3, 8, 1, 202, .null), (27, .iconst 0, 1, 0, 0, 0, .int (nI 0)), (28, .aload_n 0, 1, 0, 0, 0, .null), (29, .getfield 15, 3, 8, 1, 202, .null), (32, .iconst 0, 1, 0, 0, 0, .int (nI 0)), (33, .bipush 8, 2, 0, 0, 0, .int (nI 8)), (35, .invokestatic 26, 3, 13, 1001, 0, .null), (38, .return_, 1, 0, 0, 0, .null)])]
set_option maxRecDepth 100000 in
theorem okB98 : okB 98 B98 = true := by decide +kernel
/-- TelegraphHouse$SoundGroups.<init>()V -/
def B99 : List (Nat × List EEy) := [
  (0, [(0, .aload_n 0, 1, 0, 0, 0, .null), (1, .invokespecial 3, 3, 14, 135, 0, .null), (4, .aload_n 0, 1, 0, 0, 0, .null), (5, .sipush 10000, 3, 0, 0, 0, .int (nI 10000)), (8, .newarray .int, 2, 14, 128, 0, .null), (10, .putfield 9, 3, 9, 0, 136, .null), (13, .return_, 1, 0, 0, 0, .null)])]
set_option maxRecDepth 100000 in
theorem okB99 : okB 99 B99 = true := by decide +kernel
/-- TelegraphHouse$SoundGroups.at(I)I -/
def B100 : List (Nat × List EEy) := [
  (0, [(0, .iload_n 1, 1, 1, 0, 0, .null), (1, .ifCond .lt 10, 3, 11, 0, 0, .null), (4, .iload_n 1, 1, 1, 0, 0, .null), (5, .sipush 10000, 3, 0, 0, 0, .int (nI 10000)), (8, .if_icmp .lt 6, 3, 14, 0, 0, .null)]),
  (11, [(11, .bipush (-9), 2, 0, 0, 0, .int (-9)), (13, .ireturn, 1, 0, 0, 0, .null)]),
  (14, [(14, .aload_n 0, 1, 0, 0, 0, .null), (15, .getfield 15, 3, 9, 1, 137, .int 0), (18, .iload_n 1, 1, 1, 0, 0, .null), (19, .if_icmp .gt 59, 3, 78, 0, 0, .null), (22, .aload_n 0, 1, 0, 0, 0, .null), (23, .getfield 19, 3, 9, 2, 138, .int 0), (26, .ldc 22, 2, 0, 551, 0, .int (nI 404248)), (28, .if_icmp .ge 50, 3, 78, 0, 0, .null), (31, .aload_n 0, 1, 0, 0, 0, .null), (32, .getfield 19, 3, 9, 2, 138, .int 0), (35, .invokestatic 23, 3, 1, 101, 1, .ref 9), (38, .istore_n 2, 1, 2, 0, 0, .null), (39, .iload_n 2, 1, 2, 0, 0, .null), (40, .bipush (-9), 2, 0, 0, 0, .int (-9)), (42, .if_icmp .eq 23, 3, 65, 0, 0, .null), (45, .aload_n 0, 1, 0, 0, 0, .null), (46, .getfield 9, 3, 9, 0, 136, .null), (49, .aload_n 0, 1, 0, 0, 0, .null), (50, .getfield 15, 3, 9, 1, 137, .int 0), (53, .iload_n 2, 1, 2, 0, 0, .null), (54, .iastore, 1, 0, 0, 0, .null), (55, .aload_n 0, 1, 0, 0, 0, .null), (56, .dup, 1, 0, 0, 0, .null), (57, .getfield 15, 3, 9, 1, 137, .int 0), (60, .iconst 1, 1, 0, 0, 0, .int (nI 1)), (61, .iadd, 1, 0, 0, 0, .null), (62, .putfield 15, 3, 9, 1, 137, .int 0)]),
  (65, [(65, .aload_n 0, 1, 0, 0, 0, .null), (66, .dup, 1, 0, 0, 0, .null), (67, .getfield 19, 3, 9, 2, 138, .int 0), (70, .iconst 1, 1, 0, 0, 0, .int (nI 1)), (71, .iadd, 1, 0, 0, 0, .null), (72, .putfield 19, 3, 9, 2, 138, .int 0), (75, .goto (-61), 3, 14, 0, 0, .null)]),
  (78, [(78, .aload_n 0, 1, 0, 0, 0, .null), (79, .getfield 9, 3, 9, 0, 136, .null), (82, .iload_n 1, 1, 1, 0, 0, .null), (83, .iaload, 1, 0, 0, 0, .null), (84, .ireturn, 1, 0, 0, 0, .null)])]
set_option maxRecDepth 100000 in
theorem okB100 : okB 100 B100 = true := by decide +kernel
/-- TelegraphHouse$SoundGroups.soundWith(I)I -/
def B101 : List (Nat × List EEy) := [
  (0, [(0, .iload_n 0, 1, 0, 0, 0, .null), (1, .bipush 26, 2, 0, 0, 0, .int (nI 26)), (3, .irem, 1, 0, 0, 0, .null), (4, .istore_n 1, 1, 1, 0, 0, .null), (5, .iload_n 0, 1, 0, 0, 0, .null), (6, .bipush 26, 2, 0, 0, 0, .int (nI 26)), (8, .idiv, 1, 0, 0, 0, .null), (9, .bipush 26, 2, 0, 0, 0, .int (nI 26)), (11, .irem, 1, 0, 0, 0, .null), (12, .istore_n 2, 1, 2, 0, 0, .null), (13, .iload_n 0, 1, 0, 0, 0, .null), (14, .sipush 676, 3, 0, 0, 0, .int (nI 676)), (17, .idiv, 1, 0, 0, 0, .null), (18, .bipush 26, 2, 0, 0, 0, .int (nI 26)), (20, .irem, 1, 0, 0, 0, .null), (21, .istore_n 3, 1, 3, 0, 0, .null), (22, .iload_n 0, 1, 0, 0, 0, .null), (23, .sipush 17576, 3, 0, 0, 0, .int (nI 17576)), (26, .idiv, 1, 0, 0, 0, .null), (27, .istore 4, 2, 0, 0, 0, .null), (29, .iload 4, 2, 0, 0, 0, .null), (31, .iconst 3, 1, 0, 0, 0, .int (nI 3)), (32, .iload_n 3, 1, 3, 0, 0, .null), (33, .imul, 1, 0, 0, 0, .null), (34, .iadd, 1, 0, 0, 0, .null), (35, .bipush 7, 2, 0, 0, 0, .int (nI 7)), (37, .iload_n 2, 1, 2, 0, 0, .null), (38, .imul, 1, 0, 0, 0, .null), (39, .iadd, 1, 0, 0, 0, .null), (40, .bipush 15, 2, 0, 0, 0, .int (nI 15)), (42, .iload_n 1, 1, 1, 0, 0, .null), (43, .imul, 1, 0, 0, 0, .null), (44, .iadd, 1, 0, 0, 0, .null), (45, .bipush 26, 2, 0, 0, 0, .int (nI 26)), (47, .irem, 1, 0, 0, 0, .null), (48, .istore 5, 2, 0, 0, 0, .null), (50, .bipush 26, 2, 0, 0, 0, .int (nI 26)), (52, .iload 5, 2, 0, 0, 0, .null), (54, .isub, 1, 0, 0, 0, .null), (55, .bipush 21, 2, 0, 0, 0, .int (nI 21)), (57, .imul, 1, 0, 0, 0, .null), (58, .bipush 26, 2, 0, 0, 0, .int (nI 26)), (60, .irem, 1, 0, 0, 0, .null), (61, .istore 6, 2, 0, 0, 0, .null), (63, .iload 4, 2, 0, 0, 0, .null), (65, .iload_n 3, 1, 3, 0, 0, .null), (66, .invokestatic 27, 3, 1, 102, 2, .ref 9), (69, .ifCond .ne 28, 3, 97, 0, 0, .null), (72, .iload_n 3, 1, 3, 0, 0, .null), (73, .iload_n 2, 1, 2, 0, 0, .null), (74, .invokestatic 27, 3, 1, 102, 2, .ref 9), (77, .ifCond .ne 20, 3, 97, 0, 0, .null), (80, .iload_n 2, 1, 2, 0, 0, .null), (81, .iload_n 1, 1, 1, 0, 0, .null), (82, .invokestatic 27, 3, 1, 102, 2, .ref 9), (85, .ifCond .ne 12, 3, 97, 0, 0, .null), (88, .iload_n 1, 1, 1, 0, 0, .null), (89, .iload 6, 2, 0, 0, 0, .null), (91, .invokestatic 27, 3, 1, 102, 2, .ref 9), (94, .ifCond .eq 7, 3, 101, 0, 0, .null)]),
  (97, [(97, .iconst 1, 1, 0, 0, 0, .int (nI 1)), (98, .goto 4, 3, 102, 0, 0, .null)]),
  (101, [(101, .iconst 0, 1, 0, 0, 0, .int (nI 0))]),
  (102, [(102, .istore 7, 2, 0, 0, 0, .null), (104, .iload 7, 2, 0, 0, 0, .null), (106, .ifCond .eq 8, 3, 114, 0, 0, .null), (109, .bipush (-9), 2, 0, 0, 0, .int (-9)), (111, .goto 10, 3, 121, 0, 0, .null)]),
  (114, [(114, .iload_n 0, 1, 0, 0, 0, .null), (115, .bipush 26, 2, 0, 0, 0, .int (nI 26)), (117, .imul, 1, 0, 0, 0, .null), (118, .iload 6, 2, 0, 0, 0, .null), (120, .iadd, 1, 0, 0, 0, .null)]),
  (121, [(121, .ireturn, 1, 0, 0, 0, .null)])]
set_option maxRecDepth 100000 in
theorem okB101 : okB 101 B101 = true := by decide +kernel
/-- TelegraphHouse$SoundGroups.clash(II)Z -/
def B102 : List (Nat × List EEy) := [
  (0, [(0, .iload_n 0, 1, 0, 0, 0, .null), (1, .iload_n 1, 1, 1, 0, 0, .null), (2, .isub, 1, 0, 0, 0, .null), (3, .invokestatic 31, 3, 12, 558, 0, .null), (6, .bipush 13, 2, 0, 0, 0, .int (nI 13)), (8, .if_icmp .ne 7, 3, 15, 0, 0, .null), (11, .iconst 1, 1, 0, 0, 0, .int (nI 1)), (12, .goto 4, 3, 16, 0, 0, .null)]),
  (15, [(15, .iconst 0, 1, 0, 0, 0, .int (nI 0))]),
  (16, [(16, .ireturn, 1, 0, 0, 0, .null)])]
set_option maxRecDepth 100000 in
theorem okB102 : okB 102 B102 = true := by decide +kernel
/-- TelegraphHouse$Tape.<init>()V -/
def B103 : List (Nat × List EEy) := [
  (0, [(0, .aload_n 0, 1, 0, 0, 0, .null), (1, .invokespecial 3, 3, 14, 102, 0, .null), (4, .aload_n 0, 1, 0, 0, 0, .null), (5, .sipush 300, 3, 0, 0, 0, .int (nI 300)), (8, .newarray .int, 2, 14, 128, 0, .null), (10, .putfield 9, 3, 10, 0, 103, .null), (13, .aload_n 0, 1, 0, 0, 0, .null), (14, .bipush 20, 2, 0, 0, 0, .int (nI 20)), (16, .newarray .long, 2, 15, 129, 0, .null), (18, .putfield 15, 3, 10, 2, 106, .null), (21, .return_, 1, 0, 0, 0, .null)])]
set_option maxRecDepth 100000 in
theorem okB103 : okB 103 B103 = true := by decide +kernel
/-- TelegraphHouse$Tape.append(J)I -/
def B104 : List (Nat × List EEy) := [
  (0, [(0, .lload_n 1, 1, 1, 0, 0, .null), (1, .invokestatic 19, 3, 1, 113, 1, .ref 10), (4, .istore_n 3, 1, 3, 0, 0, .null), (5, .aload_n 0, 1, 0, 0, 0, .null), (6, .getfield 23, 3, 10, 1, 104, .int 0), (9, .iload_n 3, 1, 3, 0, 0, .null), (10, .iadd, 1, 0, 0, 0, .null), (11, .sipush 300, 3, 0, 0, 0, .int (nI 300)), (14, .if_icmp .le 6, 3, 20, 0, 0, .null), (17, .bipush (-4), 2, 0, 0, 0, .int (-4)), (19, .ireturn, 1, 0, 0, 0, .null)]),
  (20, [(20, .iconst 0, 1, 0, 0, 0, .int (nI 0)), (21, .istore 4, 2, 0, 0, 0, .null)]),
  (23, [(23, .iload 4, 2, 0, 0, 0, .null), (25, .iload_n 3, 1, 3, 0, 0, .null), (26, .if_icmp .ge 27, 3, 53, 0, 0, .null), (29, .aload_n 0, 1, 0, 0, 0, .null), (30, .getfield 9, 3, 10, 0, 103, .null), (33, .aload_n 0, 1, 0, 0, 0, .null), (34, .getfield 23, 3, 10, 1, 104, .int 0), (37, .iload 4, 2, 0, 0, 0, .null), (39, .iadd, 1, 0, 0, 0, .null), (40, .lload_n 1, 1, 1, 0, 0, .null), (41, .iload 4, 2, 0, 0, 0, .null), (43, .invokestatic 27, 3, 1, 114, 2, .ref 10), (46, .iastore, 1, 0, 0, 0, .null), (47, .iinc 4 1, 3, 0, 0, 0, .int (nI 1)), (50, .goto (-27), 3, 23, 0, 0, .null)]),
  (53, [(53, .aload_n 0, 1, 0, 0, 0, .null), (54, .dup, 1, 0, 0, 0, .null), (55, .getfield 23, 3, 10, 1, 104, .int 0), (58, .iload_n 3, 1, 3, 0, 0, .null), (59, .iadd, 1, 0, 0, 0, .null), (60, .putfield 23, 3, 10, 1, 104, .int 0), (63, .aload_n 0, 1, 0, 0, 0, .null), (64, .getfield 23, 3, 10, 1, 104, .int 0), (67, .ireturn, 1, 0, 0, 0, .null)])]
set_option maxRecDepth 100000 in
theorem okB104 : okB 104 B104 = true := by decide +kernel
/-- TelegraphHouse$Tape.shorten(I)I -/
def B105 : List (Nat × List EEy) := [
  (0, [(0, .iload_n 1, 1, 1, 0, 0, .null), (1, .iconst 0, 1, 0, 0, 0, .int (nI 0)), (2, .aload_n 0, 1, 0, 0, 0, .null), (3, .getfield 23, 3, 10, 1, 104, .int 0), (6, .invokestatic 31, 3, 4, 153, 3, .ref 11), (9, .ifCond .ne 6, 3, 15, 0, 0, .null), (12, .bipush (-2), 2, 0, 0, 0, .int (-2)), (14, .ireturn, 1, 0, 0, 0, .null)]),
  (15, [(15, .aload_n 0, 1, 0, 0, 0, .null), (16, .getfield 23, 3, 10, 1, 104, .int 0), (19, .iload_n 1, 1, 1, 0, 0, .null), (20, .isub, 1, 0, 0, 0, .null), (21, .istore_n 2, 1, 2, 0, 0, .null), (22, .aload_n 0, 1, 0, 0, 0, .null), (23, .iload_n 1, 1, 1, 0, 0, .null), (24, .putfield 23, 3, 10, 1, 104, .int 0), (27, .iload_n 2, 1, 2, 0, 0, .null), (28, .ireturn, 1, 0, 0, 0, .null)])]
set_option maxRecDepth 100000 in
theorem okB105 : okB 105 B105 = true := by decide +kernel
/-- TelegraphHouse$Tape.clear()V -/
def B106 : List (Nat × List EEy) := [
  (0, [(0, .aload_n 0, 1, 0, 0, 0, .null), (1, .iconst 0, 1, 0, 0, 0, .int (nI 0)), (2, .putfield 23, 3, 10, 1, 104, .int 0), (5, .return_, 1, 0, 0, 0, .null)])]
set_option maxRecDepth 100000 in
theorem okB106 : okB 106 B106 = true := by decide +kernel
/-- TelegraphHouse$Tape.read()I -/
def B107 : List (Nat × List EEy) := [
  (0, [(0, .aload_n 0, 1, 0, 0, 0, .null), (1, .iconst 0, 1, 0, 0, 0, .int (nI 0)), (2, .putfield 35, 3, 10, 3, 109, .int 0), (5, .aload_n 0, 1, 0, 0, 0, .null), (6, .iconst 0, 1, 0, 0, 0, .int (nI 0)), (7, .putfield 38, 3, 10, 4, 110, .int 0), (10, .iconst 0, 1, 0, 0, 0, .int (nI 0)), (11, .istore_n 1, 1, 1, 0, 0, .null)]),
  (12, [(12, .iload_n 1, 1, 1, 0, 0, .null), (13, .aload_n 0, 1, 0, 0, 0, .null), (14, .getfield 23, 3, 10, 1, 104, .int 0), (17, .if_icmp .ge 47, 3, 64, 0, 0, .null), (20, .aload_n 0, 1, 0, 0, 0, .null), (21, .getfield 9, 3, 10, 0, 103, .null), (24, .iload_n 1, 1, 1, 0, 0, .null), (25, .iaload, 1, 0, 0, 0, .null), (26, .invokestatic 41, 3, 1, 112, 1, .ref 10), (29, .istore_n 2, 1, 2, 0, 0, .null), (30, .iload_n 2, 1, 2, 0, 0, .null), (31, .ifCond .ne 11, 3, 42, 0, 0, .null), (34, .aload_n 0, 1, 0, 0, 0, .null), (35, .iconst 0, 1, 0, 0, 0, .int (nI 0)), (36, .putfield 38, 3, 10, 4, 110, .int 0), (39, .goto 19, 3, 58, 0, 0, .null)]),
  (42, [(42, .aload_n 0, 1, 0, 0, 0, .null), (43, .iload_n 2, 1, 2, 0, 0, .null), (44, .aload_n 0, 1, 0, 0, 0, .null), (45, .getfield 9, 3, 10, 0, 103, .null), (48, .iload_n 1, 1, 1, 0, 0, .null), (49, .iaload, 1, 0, 0, 0, .null), (50, .invokevirtual 45, 3, 0, 109, 3, .ref 10), (53, .ifCond .ne 5, 3, 58, 0, 0, .null), (56, .iload_n 1, 1, 1, 0, 0, .null), (57, .ireturn, 1, 0, 0, 0, .null)]),
  (58, [(58, .iinc 1 1, 3, 0, 0, 0, .int (nI 1)), (61, .goto (-49), 3, 12, 0, 0, .null)]),
  (64, [(64, .aload_n 0, 1, 0, 0, 0, .null), (65, .getfield 35, 3, 10, 3, 109, .int 0), (68, .ifCond .ne 10, 3, 78, 0, 0, .null), (71, .aload_n 0, 1, 0, 0, 0, .null), (72, .getfield 23, 3, 10, 1, 104, .int 0), (75, .goto 4, 3, 79, 0, 0, .null)]),
  (78, [(78, .iconst (-1), 1, 0, 0, 0, .int (-1))]),
  (79, [(79, .ireturn, 1, 0, 0, 0, .null)])]
set_option maxRecDepth 100000 in
theorem okB107 : okB 107 B107 = true := by decide +kernel
/-- TelegraphHouse$Tape.hasNumber()Z -/
def B108 : List (Nat × List EEy) := [
  (0, [(0, .iconst 0, 1, 0, 0, 0, .int (nI 0)), (1, .istore_n 1, 1, 1, 0, 0, .null)]),
  (2, [(2, .iload_n 1, 1, 1, 0, 0, .null), (3, .aload_n 0, 1, 0, 0, 0, .null), (4, .getfield 35, 3, 10, 3, 109, .int 0), (7, .if_icmp .ge 23, 3, 30, 0, 0, .null), (10, .aload_n 0, 1, 0, 0, 0, .null), (11, .getfield 15, 3, 10, 2, 106, .null), (14, .iload_n 1, 1, 1, 0, 0, .null), (15, .laload, 1, 0, 0, 0, .null), (16, .invokestatic 49, 3, 4, 154, 1, .ref 11), (19, .ifCond .eq 5, 3, 24, 0, 0, .null), (22, .iconst 1, 1, 0, 0, 0, .int (nI 1)), (23, .ireturn, 1, 0, 0, 0, .null)]),
  (24, [(24, .iinc 1 1, 3, 0, 0, 0, .int (nI 1)), (27, .goto (-25), 3, 2, 0, 0, .null)]),
  (30, [(30, .iconst 0, 1, 0, 0, 0, .int (nI 0)), (31, .ireturn, 1, 0, 0, 0, .null)])]
set_option maxRecDepth 100000 in
theorem okB108 : okB 108 B108 = true := by decide +kernel
/-- TelegraphHouse$Tape.takes(II)Z -/
def B109 : List (Nat × List EEy) := [
  (0, [(0, .iload_n 1, 1, 1, 0, 0, .null), (1, .iconst 3, 1, 0, 0, 0, .int (nI 3)), (2, .if_icmp .ne 5, 3, 7, 0, 0, .null), (5, .iconst 0, 1, 0, 0, 0, .int (nI 0)), (6, .ireturn, 1, 0, 0, 0, .null)]),
  (7, [(7, .aload_n 0, 1, 0, 0, 0, .null), (8, .getfield 38, 3, 10, 4, 110, .int 0), (11, .ifCond .eq 32, 3, 43, 0, 0, .null), (14, .iload_n 1, 1, 1, 0, 0, .null), (15, .aload_n 0, 1, 0, 0, 0, .null), (16, .getfield 38, 3, 10, 4, 110, .int 0), (19, .if_icmp .ne 22, 3, 41, 0, 0, .null), (22, .aload_n 0, 1, 0, 0, 0, .null), (23, .invokevirtual 53, 3, 0, 110, 1, .ref 10), (26, .ifCond .eq 15, 3, 41, 0, 0, .null), (29, .aload_n 0, 1, 0, 0, 0, .null), (30, .iload_n 2, 1, 2, 0, 0, .null), (31, .invokevirtual 57, 3, 0, 111, 2, .ref 10), (34, .ifCond .eq 7, 3, 41, 0, 0, .null), (37, .iconst 1, 1, 0, 0, 0, .int (nI 1)), (38, .goto 4, 3, 42, 0, 0, .null)]),
  (41, [(41, .iconst 0, 1, 0, 0, 0, .int (nI 0))]),
  (42, [(42, .ireturn, 1, 0, 0, 0, .null)]),
  (43, [(43, .aload_n 0, 1, 0, 0, 0, .null), (44, .getfield 35, 3, 10, 3, 109, .int 0), (47, .bipush 20, 2, 0, 0, 0, .int (nI 20)), (49, .if_icmp .lt 5, 3, 54, 0, 0, .null), (52, .iconst 0, 1, 0, 0, 0, .int (nI 0)), (53, .ireturn, 1, 0, 0, 0, .null)]),
  (54, [(54, .aload_n 0, 1, 0, 0, 0, .null), (55, .dup, 1, 0, 0, 0, .null), (56, .getfield 35, 3, 10, 3, 109, .int 0), (59, .iconst 1, 1, 0, 0, 0, .int (nI 1)), (60, .iadd, 1, 0, 0, 0, .null), (61, .putfield 35, 3, 10, 3, 109, .int 0), (64, .aload_n 0, 1, 0, 0, 0, .null), (65, .iload_n 1, 1, 1, 0, 0, .null), (66, .putfield 38, 3, 10, 4, 110, .int 0), (69, .aload_n 0, 1, 0, 0, 0, .null), (70, .iconst 0, 1, 0, 0, 0, .int (nI 0)), (71, .putfield 61, 3, 10, 5, 111, .int 0), (74, .aload_n 0, 1, 0, 0, 0, .null), (75, .lconst 0, 1, 0, 0, 0, .long (lN 0)), (76, .putfield 64, 3, 10, 6, 112, .long 0), (79, .aload_n 0, 1, 0, 0, 0, .null), (80, .iload_n 2, 1, 2, 0, 0, .null), (81, .invokevirtual 57, 3, 0, 111, 2, .ref 10), (84, .ireturn, 1, 0, 0, 0, .null)])]
set_option maxRecDepth 100000 in
theorem okB109 : okB 109 B109 = true := by decide +kernel
/-- TelegraphHouse$Tape.mayGrow()Z -/
def B110 : List (Nat × List EEy) := [
  (0, [(0, .aload_n 0, 1, 0, 0, 0, .null), (1, .getfield 38, 3, 10, 4, 110, .int 0), (4, .iconst 1, 1, 0, 0, 0, .int (nI 1)), (5, .if_icmp .ne 18, 3, 23, 0, 0, .null), (8, .aload_n 0, 1, 0, 0, 0, .null), (9, .getfield 61, 3, 10, 5, 111, .int 0), (12, .bipush 12, 2, 0, 0, 0, .int (nI 12)), (14, .if_icmp .ge 7, 3, 21, 0, 0, .null), (17, .iconst 1, 1, 0, 0, 0, .int (nI 1)), (18, .goto 4, 3, 22, 0, 0, .null)]),
  (21, [(21, .iconst 0, 1, 0, 0, 0, .int (nI 0))]),
  (22, [(22, .ireturn, 1, 0, 0, 0, .null)]),
  (23, [(23, .aload_n 0, 1, 0, 0, 0, .null), (24, .getfield 61, 3, 10, 5, 111, .int 0), (27, .bipush 9, 2, 0, 0, 0, .int (nI 9)), (29, .if_icmp .ge 16, 3, 45, 0, 0, .null), (32, .aload_n 0, 1, 0, 0, 0, .null), (33, .getfield 64, 3, 10, 6, 112, .long 0), (36, .lconst 0, 1, 0, 0, 0, .long (lN 0)), (37, .lcmp, 1, 0, 0, 0, .null), (38, .ifCond .eq 7, 3, 45, 0, 0, .null), (41, .iconst 1, 1, 0, 0, 0, .int (nI 1)), (42, .goto 4, 3, 46, 0, 0, .null)]),
  (45, [(45, .iconst 0, 1, 0, 0, 0, .int (nI 0))]),
  (46, [(46, .ireturn, 1, 0, 0, 0, .null)])]
set_option maxRecDepth 100000 in
theorem okB110 : okB 110 B110 = true := by decide +kernel
/-- TelegraphHouse$Tape.grow(I)Z -/
def B111 : List (Nat × List EEy) := [
  (0, [(0, .aload_n 0, 1, 0, 0, 0, .null), (1, .dup, 1, 0, 0, 0, .null), (2, .getfield 61, 3, 10, 5, 111, .int 0), (5, .iconst 1, 1, 0, 0, 0, .int (nI 1)), (6, .iadd, 1, 0, 0, 0, .null), (7, .putfield 61, 3, 10, 5, 111, .int 0), (10, .aload_n 0, 1, 0, 0, 0, .null), (11, .getfield 35, 3, 10, 3, 109, .int 0), (14, .iconst 1, 1, 0, 0, 0, .int (nI 1)), (15, .isub, 1, 0, 0, 0, .null), (16, .istore_n 2, 1, 2, 0, 0, .null), (17, .iload_n 2, 1, 2, 0, 0, .null), (18, .ifCond .ge 5, 3, 23, 0, 0, .null), (21, .iconst 0, 1, 0, 0, 0, .int (nI 0)), (22, .ireturn, 1, 0, 0, 0, .null)]),
  (23, [(23, .aload_n 0, 1, 0, 0, 0, .null), (24, .getfield 38, 3, 10, 4, 110, .int 0), (27, .iconst 1, 1, 0, 0, 0, .int (nI 1)), (28, .if_icmp .ne 31, 3, 59, 0, 0, .null), (31, .aload_n 0, 1, 0, 0, 0, .null), (32, .aload_n 0, 1, 0, 0, 0, .null), (33, .getfield 64, 3, 10, 6, 112, .long 0), (36, .iload_n 1, 1, 1, 0, 0, .null), (37, .bipush 97, 2, 0, 0, 0, .int (nI 97)), (39, .isub, 1, 0, 0, 0, .null), (40, .invokestatic 68, 3, 4, 157, 2, .ref 11), (43, .putfield 64, 3, 10, 6, 112, .long 0), (46, .aload_n 0, 1, 0, 0, 0, .null), (47, .getfield 15, 3, 10, 2, 106, .null), (50, .iload_n 2, 1, 2, 0, 0, .null), (51, .aload_n 0, 1, 0, 0, 0, .null), (52, .getfield 64, 3, 10, 6, 112, .long 0), (55, .lastore, 1, 0, 0, 0, .null), (56, .goto 34, 3, 90, 0, 0, .null)]),
  (59, [(59, .aload_n 0, 1, 0, 0, 0, .null), (60, .aload_n 0, 1, 0, 0, 0, .null), (61, .getfield 64, 3, 10, 6, 112, .long 0), (64, .ldc2_w 72, 3, 0, 330, 0, .long (lN 10)), (67, .lmul, 1, 0, 0, 0, .null), (68, .iload_n 1, 1, 1, 0, 0, .null), (69, .bipush 48, 2, 0, 0, 0, .int (nI 48)), (71, .isub, 1, 0, 0, 0, .null), (72, .i2l, 1, 0, 0, 0, .null), (73, .ladd, 1, 0, 0, 0, .null), (74, .putfield 64, 3, 10, 6, 112, .long 0), (77, .aload_n 0, 1, 0, 0, 0, .null), (78, .getfield 15, 3, 10, 2, 106, .null), (81, .iload_n 2, 1, 2, 0, 0, .null), (82, .aload_n 0, 1, 0, 0, 0, .null), (83, .getfield 64, 3, 10, 6, 112, .long 0), (86, .invokestatic 74, 3, 4, 155, 1, .ref 11), (89, .lastore, 1, 0, 0, 0, .null)]),
  (90, [(90, .iconst 1, 1, 0, 0, 0, .int (nI 1)), (91, .ireturn, 1, 0, 0, 0, .null)])]
set_option maxRecDepth 100000 in
theorem okB111 : okB 111 B111 = true := by decide +kernel
/-- TelegraphHouse$Tape.sortOf(I)I -/
def B112 : List (Nat × List EEy) := [
  (0, [(0, .iload_n 0, 1, 0, 0, 0, .null), (1, .bipush 32, 2, 0, 0, 0, .int (nI 32)), (3, .if_icmp .ne 5, 3, 8, 0, 0, .null), (6, .iconst 0, 1, 0, 0, 0, .int (nI 0)), (7, .ireturn, 1, 0, 0, 0, .null)]),
  (8, [(8, .iload_n 0, 1, 0, 0, 0, .null), (9, .bipush 97, 2, 0, 0, 0, .int (nI 97)), (11, .if_icmp .lt 11, 3, 22, 0, 0, .null), (14, .iload_n 0, 1, 0, 0, 0, .null), (15, .bipush 122, 2, 0, 0, 0, .int (nI 122)), (17, .if_icmp .gt 5, 3, 22, 0, 0, .null), (20, .iconst 1, 1, 0, 0, 0, .int (nI 1)), (21, .ireturn, 1, 0, 0, 0, .null)]),
  (22, [(22, .iload_n 0, 1, 0, 0, 0, .null), (23, .bipush 48, 2, 0, 0, 0, .int (nI 48)), (25, .if_icmp .lt 13, 3, 38, 0, 0, .null), (28, .iload_n 0, 1, 0, 0, 0, .null), (29, .bipush 57, 2, 0, 0, 0, .int (nI 57)), (31, .if_icmp .gt 7, 3, 38, 0, 0, .null), (34, .iconst 2, 1, 0, 0, 0, .int (nI 2)), (35, .goto 4, 3, 39, 0, 0, .null)]),
  (38, [(38, .iconst 3, 1, 0, 0, 0, .int (nI 3))]),
  (39, [(39, .ireturn, 1, 0, 0, 0, .null)])]
set_option maxRecDepth 100000 in
theorem okB112 : okB 112 B112 = true := by decide +kernel
/-- TelegraphHouse$Tape.bytesAheadOfZero(J)I -/
def B113 : List (Nat × List EEy) := [
  (0, [(0, .iconst 0, 1, 0, 0, 0, .int (nI 0)), (1, .istore_n 2, 1, 2, 0, 0, .null)]),
  (2, [(2, .iload_n 2, 1, 2, 0, 0, .null), (3, .bipush 8, 2, 0, 0, 0, .int (nI 8)), (5, .if_icmp .ge 17, 3, 22, 0, 0, .null), (8, .lload_n 0, 1, 0, 0, 0, .null), (9, .iload_n 2, 1, 2, 0, 0, .null), (10, .invokestatic 27, 3, 1, 114, 2, .ref 10), (13, .ifCond .eq 9, 3, 22, 0, 0, .null), (16, .iinc 2 1, 3, 0, 0, 0, .int (nI 1)), (19, .goto (-17), 3, 2, 0, 0, .null)]),
  (22, [(22, .iload_n 2, 1, 2, 0, 0, .null), (23, .ireturn, 1, 0, 0, 0, .null)])]
set_option maxRecDepth 100000 in
theorem okB113 : okB 113 B113 = true := by decide +kernel
/-- TelegraphHouse$Tape.byteOf(JI)I -/
def B114 : List (Nat × List EEy) := [
  (0, [(0, .lload_n 0, 1, 0, 0, 0, .null), (1, .bipush 8, 2, 0, 0, 0, .int (nI 8)), (3, .iload_n 2, 1, 2, 0, 0, .null), (4, .imul, 1, 0, 0, 0, .null), (5, .lushr, 1, 0, 0, 0, .null), (6, .ldc2_w 78, 3, 0, 292, 0, .long (lN 255)), (9, .land, 1, 0, 0, 0, .null), (10, .l2i, 1, 0, 0, 0, .null), (11, .ireturn, 1, 0, 0, 0, .null)])]
set_option maxRecDepth 100000 in
theorem okB114 : okB 114 B114 = true := by decide +kernel
/-- TelegraphHouse.<init>()V -/
def B115 : List (Nat × List EEy) := [
  (0, [(0, .aload_n 0, 1, 0, 0, 0, .null), (1, .invokespecial 3, 3, 14, 94, 0, .null), (4, .aload_n 0, 1, 0, 0, 0, .null), (5, .new 9, 3, 10, 7, 0, .null), (8, .dup, 1, 0, 0, 0, .null), (9, .invokespecial 11, 3, 25, 103, 1, .ref 10), (12, .putfield 12, 3, 11, 0, 250, .null), (15, .aload_n 0, 1, 0, 0, 0, .null), (16, .new 16, 3, 9, 3, 0, .null), (19, .dup, 1, 0, 0, 0, .null), (20, .invokespecial 18, 3, 25, 99, 1, .ref 9), (23, .putfield 19, 3, 11, 1, 251, .null), (26, .aload_n 0, 1, 0, 0, 0, .null), (27, .iconst 3, 1, 0, 0, 0, .int (nI 3)), (28, .anewarray 23, 3, 17, 146, 0, .null), (31, .putfield 25, 3, 11, 2, 252, .null), (34, .aload_n 0, 1, 0, 0, 0, .null), (35, .bipush 30, 2, 0, 0, 0, .int (nI 30)), (37, .anewarray 29, 3, 20, 148, 0, .null), (40, .putfield 31, 3, 11, 4, 254, .null), (43, .aload_n 0, 1, 0, 0, 0, .null), (44, .new 35, 3, 1, 4, 0, .null), (47, .dup, 1, 0, 0, 0, .null), (48, .invokespecial 37, 3, 25, 10, 1, .ref 1), (51, .putfield 38, 3, 11, 6, 256, .null), (54, .aload_n 0, 1, 0, 0, 0, .null), (55, .new 42, 3, 2, 3, 0, .null), (58, .dup, 1, 0, 0, 0, .null), (59, .invokespecial 44, 3, 5, 16, 1, .ref 2), (62, .putfield 45, 3, 11, 7, 257, .null), (65, .aload_n 0, 1, 0, 0, 0, .null), (66, .new 49, 3, 7, 11, 0, .null), (69, .dup, 1, 0, 0, 0, .null), (70, .invokespecial 51, 3, 25, 61, 1, .ref 7), (73, .putfield 52, 3, 11, 8, 258, .null), (76, .return_, 1, 0, 0, 0, .null)])]
set_option maxRecDepth 100000 in
theorem okB115 : okB 115 B115 = true := by decide +kernel
/-- TelegraphHouse.feed(J)I -/
def B116 : List (Nat × List EEy) := [
  (0, [(0, .aload_n 0, 1, 0, 0, 0, .null), (1, .getfield 12, 3, 11, 0, 250, .null), (4, .lload_n 1, 1, 1, 0, 0, .null), (5, .invokevirtual 56, 3, 0, 104, 2, .ref 10), (8, .ireturn, 1, 0, 0, 0, .null)])]
set_option maxRecDepth 100000 in
theorem okB116 : okB 116 B116 = true := by decide +kernel
/-- TelegraphHouse.cut(I)I -/
def B117 : List (Nat × List EEy) := [
  (0, [(0, .aload_n 0, 1, 0, 0, 0, .null), (1, .getfield 12, 3, 11, 0, 250, .null), (4, .iload_n 1, 1, 1, 0, 0, .null), (5, .invokevirtual 60, 3, 0, 105, 2, .ref 10), (8, .ireturn, 1, 0, 0, 0, .null)])]
set_option maxRecDepth 100000 in
theorem okB117 : okB 117 B117 = true := by decide +kernel
/-- TelegraphHouse.message()I -/
def B118 : List (Nat × List EEy) := [
  (0, [(0, .aload_n 0, 1, 0, 0, 0, .null), (1, .getfield 64, 3, 11, 5, 255, .int 0), (4, .bipush 30, 2, 0, 0, 0, .int (nI 30)), (6, .if_icmp .lt 6, 3, 12, 0, 0, .null), (9, .bipush (-4), 2, 0, 0, 0, .int (-4)), (11, .ireturn, 1, 0, 0, 0, .null)]),
  (12, [(12, .aload_n 0, 1, 0, 0, 0, .null), (13, .getfield 12, 3, 11, 0, 250, .null), (16, .invokevirtual 68, 3, 0, 107, 1, .ref 10), (19, .istore_n 1, 1, 1, 0, 0, .null), (20, .iload_n 1, 1, 1, 0, 0, .null), (21, .iconst (-1), 1, 0, 0, 0, .int (-1)), (22, .if_icmp .eq 8, 3, 30, 0, 0, .null), (25, .bipush (-100), 2, 0, 0, 0, .int (-100)), (27, .iload_n 1, 1, 1, 0, 0, .null), (28, .isub, 1, 0, 0, 0, .null), (29, .ireturn, 1, 0, 0, 0, .null)]),
  (30, [(30, .aload_n 0, 1, 0, 0, 0, .null), (31, .getfield 31, 3, 11, 4, 254, .null), (34, .aload_n 0, 1, 0, 0, 0, .null), (35, .getfield 64, 3, 11, 5, 255, .int 0), (38, .new 29, 3, 6, 3, 0, .null), (41, .dup, 1, 0, 0, 0, .null), (42, .aload_n 0, 1, 0, 0, 0, .null), (43, .getfield 12, 3, 11, 0, 250, .null), (46, .getfield 72, 3, 10, 2, 107, .null), (49, .aload_n 0, 1, 0, 0, 0, .null), (50, .getfield 12, 3, 11, 0, 250, .null), (53, .getfield 76, 3, 10, 3, 108, .int 0), (56, .invokespecial 79, 3, 22, 59, 3, .ref 6), (59, .aastore, 1, 0, 0, 0, .null), (60, .aload_n 0, 1, 0, 0, 0, .null), (61, .getfield 52, 3, 11, 8, 258, .null), (64, .invokevirtual 82, 3, 20, 64, 1, .ref 7), (67, .aload_n 0, 1, 0, 0, 0, .null), (68, .getfield 12, 3, 11, 0, 250, .null), (71, .invokevirtual 85, 3, 0, 106, 1, .ref 10), (74, .aload_n 0, 1, 0, 0, 0, .null), (75, .dup, 1, 0, 0, 0, .null), (76, .getfield 64, 3, 11, 5, 255, .int 0), (79, .iconst 1, 1, 0, 0, 0, .int (nI 1)), (80, .iadd, 1, 0, 0, 0, .null), (81, .putfield 64, 3, 11, 5, 255, .int 0), (84, .aload_n 0, 1, 0, 0, 0, .null), (85, .getfield 64, 3, 11, 5, 255, .int 0), (88, .iconst 1, 1, 0, 0, 0, .int (nI 1)), (89, .isub, 1, 0, 0, 0, .null), (90, .ireturn, 1, 0, 0, 0, .null)])]
set_option maxRecDepth 100000 in
theorem okB118 : okB 118 B118 = true := by decide +kernel
/-- TelegraphHouse.book(II)I -/
def B119 : List (Nat × List EEy) := [
  (0, [(0, .iload_n 1, 1, 1, 0, 0, .null), (1, .iconst 0, 1, 0, 0, 0, .int (nI 0)), (2, .sipush 5000, 3, 0, 0, 0, .int (nI 5000)), (5, .invokestatic 88, 3, 1, 153, 3, .ref 11), (8, .ifCond .eq 13, 3, 21, 0, 0, .null), (11, .iload_n 2, 1, 2, 0, 0, .null), (12, .iconst 1, 1, 0, 0, 0, .int (nI 1)), (13, .bipush 9, 2, 0, 0, 0, .int (nI 9)), (15, .invokestatic 88, 3, 1, 153, 3, .ref 11), (18, .ifCond .ne 6, 3, 24, 0, 0, .null)]),
  (21, [(21, .bipush (-2), 2, 0, 0, 0, .int (-2)), (23, .ireturn, 1, 0, 0, 0, .null)]),
  (24, [(24, .aload_n 0, 1, 0, 0, 0, .null), (25, .getfield 92, 3, 11, 3, 253, .int 0), (28, .iconst 3, 1, 0, 0, 0, .int (nI 3)), (29, .if_icmp .lt 6, 3, 35, 0, 0, .null), (32, .bipush (-4), 2, 0, 0, 0, .int (-4)), (34, .ireturn, 1, 0, 0, 0, .null)]),
  (35, [(35, .aload_n 0, 1, 0, 0, 0, .null), (36, .getfield 25, 3, 11, 2, 252, .null), (39, .aload_n 0, 1, 0, 0, 0, .null), (40, .getfield 92, 3, 11, 3, 253, .int 0), (43, .new 23, 3, 0, 7, 0, .null), (46, .dup, 1, 0, 0, 0, .null), (47, .iload_n 1, 1, 1, 0, 0, .null), (48, .iload_n 2, 1, 2, 0, 0, .null), (49, .invokespecial 95, 3, 22, 0, 3, .ref 0), (52, .aastore, 1, 0, 0, 0, .null), (53, .aload_n 0, 1, 0, 0, 0, .null), (54, .dup, 1, 0, 0, 0, .null), (55, .getfield 92, 3, 11, 3, 253, .int 0), (58, .iconst 1, 1, 0, 0, 0, .int (nI 1)), (59, .iadd, 1, 0, 0, 0, .null), (60, .putfield 92, 3, 11, 3, 253, .int 0), (63, .aload_n 0, 1, 0, 0, 0, .null), (64, .getfield 92, 3, 11, 3, 253, .int 0), (67, .iconst 1, 1, 0, 0, 0, .int (nI 1)), (68, .isub, 1, 0, 0, 0, .null), (69, .ireturn, 1, 0, 0, 0, .null)])]
set_option maxRecDepth 100000 in
theorem okB119 : okB 119 B119 = true := by decide +kernel
/-- TelegraphHouse.phrase(I)I -/
def B120 : List (Nat × List EEy) := [
  (0, [(0, .aload_n 0, 1, 0, 0, 0, .null), (1, .iload_n 1, 1, 1, 0, 0, .null), (2, .invokevirtual 98, 3, 0, 151, 2, .ref 11), (5, .astore_n 2, 1, 2, 0, 0, .null), (6, .aload_n 2, 1, 2, 0, 0, .null), (7, .ifnonnull 5, 3, 12, 0, 0, .null), (10, .iconst (-1), 1, 0, 0, 0, .int (-1)), (11, .ireturn, 1, 0, 0, 0, .null)]),
  (12, [(12, .aload_n 0, 1, 0, 0, 0, .null), (13, .getfield 12, 3, 11, 0, 250, .null), (16, .invokevirtual 68, 3, 0, 107, 1, .ref 10), (19, .istore_n 3, 1, 3, 0, 0, .null), (20, .iload_n 3, 1, 3, 0, 0, .null), (21, .iconst (-1), 1, 0, 0, 0, .int (-1)), (22, .if_icmp .eq 8, 3, 30, 0, 0, .null), (25, .bipush (-100), 2, 0, 0, 0, .int (-100)), (27, .iload_n 3, 1, 3, 0, 0, .null), (28, .isub, 1, 0, 0, 0, .null), (29, .ireturn, 1, 0, 0, 0, .null)]),
  (30, [(30, .aload_n 0, 1, 0, 0, 0, .null), (31, .getfield 12, 3, 11, 0, 250, .null), (34, .getfield 76, 3, 10, 3, 108, .int 0), (37, .iconst 4, 1, 0, 0, 0, .int (nI 4)), (38, .if_icmp .gt 13, 3, 51, 0, 0, .null), (41, .aload_n 0, 1, 0, 0, 0, .null), (42, .getfield 12, 3, 11, 0, 250, .null), (45, .invokevirtual 102, 3, 0, 108, 1, .ref 10), (48, .ifCond .eq 6, 3, 54, 0, 0, .null)]),
  (51, [(51, .bipush (-2), 2, 0, 0, 0, .int (-2)), (53, .ireturn, 1, 0, 0, 0, .null)]),
  (54, [(54, .aload_n 2, 1, 2, 0, 0, .null), (55, .getfield 106, 3, 0, 6, 491, .float 0), (58, .ifCond .ne 24, 3, 82, 0, 0, .null), (61, .aload_n 2, 1, 2, 0, 0, .null), (62, .aload_n 0, 1, 0, 0, 0, .null), (63, .getfield 12, 3, 11, 0, 250, .null), (66, .getfield 72, 3, 10, 2, 107, .null), (69, .aload_n 0, 1, 0, 0, 0, .null), (70, .getfield 12, 3, 11, 0, 250, .null), (73, .getfield 76, 3, 10, 3, 108, .int 0), (76, .invokevirtual 110, 3, 0, 4, 3, .ref 0), (79, .ifCond .eq 6, 3, 85, 0, 0, .null)]),
  (82, [(82, .bipush (-3), 2, 0, 0, 0, .int (-3)), (84, .ireturn, 1, 0, 0, 0, .null)]),
  (85, [(85, .aload_n 2, 1, 2, 0, 0, .null), (86, .getfield 114, 3, 0, 5, 490, .int 0), (89, .bipush 30, 2, 0, 0, 0, .int (nI 30)), (91, .if_icmp .lt 6, 3, 97, 0, 0, .null), (94, .bipush (-4), 2, 0, 0, 0, .int (-4)), (96, .ireturn, 1, 0, 0, 0, .null)]),
  (97, [(97, .aload_n 2, 1, 2, 0, 0, .null), (98, .aload_n 0, 1, 0, 0, 0, .null), (99, .getfield 12, 3, 11, 0, 250, .null), (102, .getfield 72, 3, 10, 2, 107, .null), (105, .aload_n 0, 1, 0, 0, 0, .null), (106, .getfield 12, 3, 11, 0, 250, .null), (109, .getfield 76, 3, 10, 3, 108, .int 0), (112, .invokevirtual 117, 3, 0, 3, 3, .ref 0), (115, .aload_n 0, 1, 0, 0, 0, .null), (116, .getfield 12, 3, 11, 0, 250, .null), (119, .invokevirtual 85, 3, 0, 106, 1, .ref 10), (122, .aload_n 2, 1, 2, 0, 0, .null), (123, .getfield 114, 3, 0, 5, 490, .int 0), (126, .ireturn, 1, 0, 0, 0, .null)])]
set_option maxRecDepth 100000 in
theorem okB120 : okB 120 B120 = true := by decide +kernel
/-- TelegraphHouse.close(I)I -/
def B121 : List (Nat × List EEy) := [
  (0, [(0, .aload_n 0, 1, 0, 0, 0, .null), (1, .iload_n 1, 1, 1, 0, 0, .null), (2, .invokevirtual 98, 3, 0, 151, 2, .ref 11), (5, .astore_n 2, 1, 2, 0, 0, .null), (6, .aload_n 2, 1, 2, 0, 0, .null), (7, .ifnonnull 5, 3, 12, 0, 0, .null), (10, .iconst (-1), 1, 0, 0, 0, .int (-1)), (11, .ireturn, 1, 0, 0, 0, .null)]),
  (12, [(12, .aload_n 2, 1, 2, 0, 0, .null), (13, .getfield 106, 3, 0, 6, 491, .float 0), (16, .ifCond .eq 6, 3, 22, 0, 0, .null), (19, .bipush (-3), 2, 0, 0, 0, .int (-3)), (21, .ireturn, 1, 0, 0, 0, .null)]),
  (22, [(22, .aload_n 2, 1, 2, 0, 0, .null), (23, .aload_n 0, 1, 0, 0, 0, .null), (24, .getfield 19, 3, 11, 1, 251, .null), (27, .invokevirtual 120, 3, 0, 6, 2, .ref 0), (30, .aload_n 2, 1, 2, 0, 0, .null), (31, .getfield 114, 3, 0, 5, 490, .int 0), (34, .ireturn, 1, 0, 0, 0, .null)])]
set_option maxRecDepth 100000 in
theorem okB121 : okB 121 B121 = true := by decide +kernel
/-- TelegraphHouse.groupOf(II)I -/
def B122 : List (Nat × List EEy) := [
  (0, [(0, .aload_n 0, 1, 0, 0, 0, .null), (1, .iload_n 1, 1, 1, 0, 0, .null), (2, .invokevirtual 98, 3, 0, 151, 2, .ref 11), (5, .astore_n 3, 1, 3, 0, 0, .null), (6, .aload_n 3, 1, 3, 0, 0, .null), (7, .ifnull 11, 3, 18, 0, 0, .null), (10, .aload_n 3, 1, 3, 0, 0, .null), (11, .iload_n 2, 1, 2, 0, 0, .null), (12, .invokevirtual 124, 3, 0, 1, 2, .ref 0), (15, .ifCond .ne 5, 3, 20, 0, 0, .null)]),
  (18, [(18, .iconst (-1), 1, 0, 0, 0, .int (-1)), (19, .ireturn, 1, 0, 0, 0, .null)]),
  (20, [(20, .aload_n 3, 1, 3, 0, 0, .null), (21, .getfield 106, 3, 0, 6, 491, .float 0), (24, .ifCond .eq 12, 3, 36, 0, 0, .null), (27, .aload_n 3, 1, 3, 0, 0, .null), (28, .getfield 128, 3, 0, 4, 487, .null), (31, .iload_n 2, 1, 2, 0, 0, .null), (32, .iaload, 1, 0, 0, 0, .null), (33, .goto 5, 3, 38, 0, 0, .null)]),
  (36, [(36, .bipush (-3), 2, 0, 0, 0, .int (-3))]),
  (38, [(38, .ireturn, 1, 0, 0, 0, .null)])]
set_option maxRecDepth 100000 in
theorem okB122 : okB 122 B122 = true := by decide +kernel
/-- TelegraphHouse.sound(I)I -/
def B123 : List (Nat × List EEy) := [
  (0, [(0, .iload_n 1, 1, 1, 0, 0, .null), (1, .iconst 0, 1, 0, 0, 0, .int (nI 0)), (2, .sipush 9999, 3, 0, 0, 0, .int (nI 9999)), (5, .invokestatic 88, 3, 1, 153, 3, .ref 11), (8, .ifCond .eq 14, 3, 22, 0, 0, .null), (11, .aload_n 0, 1, 0, 0, 0, .null), (12, .getfield 19, 3, 11, 1, 251, .null), (15, .iload_n 1, 1, 1, 0, 0, .null), (16, .invokevirtual 132, 3, 0, 100, 2, .ref 9), (19, .goto 5, 3, 24, 0, 0, .null)]),
  (22, [(22, .bipush (-2), 2, 0, 0, 0, .int (-2))]),
  (24, [(24, .ireturn, 1, 0, 0, 0, .null)])]
set_option maxRecDepth 100000 in
theorem okB123 : okB 123 B123 = true := by decide +kernel
/-- TelegraphHouse.distance(I)I -/
def B124 : List (Nat × List EEy) := [
  (0, [(0, .aload_n 0, 1, 0, 0, 0, .null), (1, .iload_n 1, 1, 1, 0, 0, .null), (2, .invokevirtual 98, 3, 0, 151, 2, .ref 11), (5, .astore_n 2, 1, 2, 0, 0, .null), (6, .aload_n 2, 1, 2, 0, 0, .null), (7, .ifnonnull 5, 3, 12, 0, 0, .null), (10, .iconst (-1), 1, 0, 0, 0, .int (-1)), (11, .ireturn, 1, 0, 0, 0, .null)]),
  (12, [(12, .aload_n 2, 1, 2, 0, 0, .null), (13, .getfield 106, 3, 0, 6, 491, .float 0), (16, .ifCond .eq 10, 3, 26, 0, 0, .null), (19, .aload_n 2, 1, 2, 0, 0, .null), (20, .invokevirtual 135, 3, 0, 8, 1, .ref 0), (23, .goto 5, 3, 28, 0, 0, .null)]),
  (26, [(26, .bipush (-3), 2, 0, 0, 0, .int (-3))]),
  (28, [(28, .ireturn, 1, 0, 0, 0, .null)])]
set_option maxRecDepth 100000 in
theorem okB124 : okB 124 B124 = true := by decide +kernel
