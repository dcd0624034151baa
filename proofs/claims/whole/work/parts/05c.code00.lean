/-! the code, 0 -/
/-- TelegraphHouse$Book.<init>(II)V -/
def B0 : List (Nat × List EEy) := [
  (0, [(0, .aload_n 0, 1, 0, 0, 0, .null), (1, .invokespecial 3, 3, 14, 478, 0, .null), (4, .aload_n 0, 1, 0, 0, 0, .null), (5, .bipush 120, 2, 0, 0, 0, .int (nI 120)), (7, .newarray .long, 2, 15, 129, 0, .null), (9, .putfield 9, 3, 0, 2, 481, .null), (12, .aload_n 0, 1, 0, 0, 0, .null), (13, .bipush 30, 2, 0, 0, 0, .int (nI 30)), (15, .newarray .int, 2, 14, 128, 0, .null), (17, .putfield 15, 3, 0, 3, 482, .null), (20, .aload_n 0, 1, 0, 0, 0, .null), (21, .bipush 30, 2, 0, 0, 0, .int (nI 30)), (23, .newarray .int, 2, 14, 128, 0, .null), (25, .putfield 19, 3, 0, 4, 485, .null), (28, .aload_n 0, 1, 0, 0, 0, .null), (29, .iload_n 1, 1, 1, 0, 0, .null), (30, .putfield 22, 3, 0, 0, 479, .int 0), (33, .aload_n 0, 1, 0, 0, 0, .null), (34, .iload_n 2, 1, 2, 0, 0, .null), (35, .putfield 26, 3, 0, 1, 480, .int 0), (38, .return_, 1, 0, 0, 0, .null)])]
set_option maxRecDepth 100000 in
theorem okB0 : okB 0 B0 = true := by decide +kernel
/-- TelegraphHouse$Book.hasPhrase(I)Z -/
def B1 : List (Nat × List EEy) := [
  (0, [(0, .iload_n 1, 1, 1, 0, 0, .null), (1, .iconst 0, 1, 0, 0, 0, .int (nI 0)), (2, .aload_n 0, 1, 0, 0, 0, .null), (3, .getfield 29, 3, 0, 5, 488, .int 0), (6, .iconst 1, 1, 0, 0, 0, .int (nI 1)), (7, .isub, 1, 0, 0, 0, .null), (8, .invokestatic 32, 3, 4, 153, 3, .ref 11), (11, .ireturn, 1, 0, 0, 0, .null)])]
set_option maxRecDepth 100000 in
theorem okB1 : okB 1 B1 = true := by decide +kernel
/-- TelegraphHouse$Book.wordOf(II)J -/
def B2 : List (Nat × List EEy) := [
  (0, [(0, .aload_n 0, 1, 0, 0, 0, .null), (1, .getfield 9, 3, 0, 2, 481, .null), (4, .iload_n 1, 1, 1, 0, 0, .null), (5, .iconst 4, 1, 0, 0, 0, .int (nI 4)), (6, .imul, 1, 0, 0, 0, .null), (7, .iload_n 2, 1, 2, 0, 0, .null), (8, .iadd, 1, 0, 0, 0, .null), (9, .laload, 1, 0, 0, 0, .null), (10, .lreturn, 1, 0, 0, 0, .null)])]
set_option maxRecDepth 100000 in
theorem okB2 : okB 2 B2 = true := by decide +kernel
/-- TelegraphHouse$Book.addPhrase([JI)V -/
def B3 : List (Nat × List EEy) := [
  (0, [(0, .aload_n 0, 1, 0, 0, 0, .null), (1, .getfield 29, 3, 0, 5, 488, .int 0), (4, .bipush 30, 2, 0, 0, 0, .int (nI 30)), (6, .if_icmp .ge 14, 3, 20, 0, 0, .null), (9, .iload_n 2, 1, 2, 0, 0, .null), (10, .iconst 4, 1, 0, 0, 0, .int (nI 4)), (11, .if_icmp .gt 9, 3, 20, 0, 0, .null), (14, .iload_n 2, 1, 2, 0, 0, .null), (15, .aload_n 1, 1, 1, 0, 0, .null), (16, .arraylength, 1, 0, 0, 0, .null), (17, .if_icmp .le 4, 3, 21, 0, 0, .null)]),
  (20, [(20, .return_, 1, 0, 0, 0, .null)]),
  (21, [(21, .iconst 0, 1, 0, 0, 0, .int (nI 0)), (22, .istore_n 3, 1, 3, 0, 0, .null)]),
  (23, [(23, .iload_n 3, 1, 3, 0, 0, .null), (24, .iload_n 2, 1, 2, 0, 0, .null), (25, .if_icmp .ge 25, 3, 50, 0, 0, .null), (28, .aload_n 0, 1, 0, 0, 0, .null), (29, .getfield 9, 3, 0, 2, 481, .null), (32, .aload_n 0, 1, 0, 0, 0, .null), (33, .getfield 29, 3, 0, 5, 488, .int 0), (36, .iconst 4, 1, 0, 0, 0, .int (nI 4)), (37, .imul, 1, 0, 0, 0, .null), (38, .iload_n 3, 1, 3, 0, 0, .null), (39, .iadd, 1, 0, 0, 0, .null), (40, .aload_n 1, 1, 1, 0, 0, .null), (41, .iload_n 3, 1, 3, 0, 0, .null), (42, .laload, 1, 0, 0, 0, .null), (43, .lastore, 1, 0, 0, 0, .null), (44, .iinc 3 1, 3, 0, 0, 0, .int (nI 1)), (47, .goto (-24), 3, 23, 0, 0, .null)]),
  (50, [(50, .aload_n 0, 1, 0, 0, 0, .null), (51, .getfield 15, 3, 0, 3, 482, .null), (54, .aload_n 0, 1, 0, 0, 0, .null), (55, .getfield 29, 3, 0, 5, 488, .int 0), (58, .iload_n 2, 1, 2, 0, 0, .null), (59, .iastore, 1, 0, 0, 0, .null), (60, .aload_n 0, 1, 0, 0, 0, .null), (61, .dup, 1, 0, 0, 0, .null), (62, .getfield 29, 3, 0, 5, 488, .int 0), (65, .iconst 1, 1, 0, 0, 0, .int (nI 1)), (66, .iadd, 1, 0, 0, 0, .null), (67, .putfield 29, 3, 0, 5, 488, .int 0), (70, .return_, 1, 0, 0, 0, .null)])]
set_option maxRecDepth 100000 in
theorem okB3 : okB 3 B3 = true := by decide +kernel
/-- TelegraphHouse$Book.holds([JI)Z -/
def B4 : List (Nat × List EEy) := [
  (0, [(0, .iconst 0, 1, 0, 0, 0, .int (nI 0)), (1, .istore_n 3, 1, 3, 0, 0, .null)]),
  (2, [(2, .iload_n 3, 1, 3, 0, 0, .null), (3, .aload_n 0, 1, 0, 0, 0, .null), (4, .getfield 29, 3, 0, 5, 488, .int 0), (7, .if_icmp .ge 32, 3, 39, 0, 0, .null), (10, .aload_n 0, 1, 0, 0, 0, .null), (11, .getfield 15, 3, 0, 3, 482, .null), (14, .iload_n 3, 1, 3, 0, 0, .null), (15, .iaload, 1, 0, 0, 0, .null), (16, .iload_n 2, 1, 2, 0, 0, .null), (17, .if_icmp .ne 16, 3, 33, 0, 0, .null), (20, .aload_n 0, 1, 0, 0, 0, .null), (21, .iload_n 3, 1, 3, 0, 0, .null), (22, .aload_n 1, 1, 1, 0, 0, .null), (23, .iload_n 2, 1, 2, 0, 0, .null), (24, .iconst 0, 1, 0, 0, 0, .int (nI 0)), (25, .invokevirtual 36, 3, 0, 5, 5, .ref 0), (28, .ifCond .eq 5, 3, 33, 0, 0, .null), (31, .iconst 1, 1, 0, 0, 0, .int (nI 1)), (32, .ireturn, 1, 0, 0, 0, .null)]),
  (33, [(33, .iinc 3 1, 3, 0, 0, 0, .int (nI 1)), (36, .goto (-34), 3, 2, 0, 0, .null)]),
  (39, [(39, .iconst 0, 1, 0, 0, 0, .int (nI 0)), (40, .ireturn, 1, 0, 0, 0, .null)])]
set_option maxRecDepth 100000 in
theorem okB4 : okB 4 B4 = true := by decide +kernel
/-- TelegraphHouse$Book.standsAt(I[JII)Z -/
def B5 : List (Nat × List EEy) := [
  (0, [(0, .aload_n 0, 1, 0, 0, 0, .null), (1, .getfield 15, 3, 0, 3, 482, .null), (4, .iload_n 1, 1, 1, 0, 0, .null), (5, .iaload, 1, 0, 0, 0, .null), (6, .istore 5, 2, 0, 0, 0, .null), (8, .iload 4, 2, 0, 0, 0, .null), (10, .ifCond .lt 18, 3, 28, 0, 0, .null), (13, .iload 4, 2, 0, 0, 0, .null), (15, .iload 5, 2, 0, 0, 0, .null), (17, .iadd, 1, 0, 0, 0, .null), (18, .iload_n 3, 1, 3, 0, 0, .null), (19, .if_icmp .gt 9, 3, 28, 0, 0, .null), (22, .iload_n 3, 1, 3, 0, 0, .null), (23, .aload_n 2, 1, 2, 0, 0, .null), (24, .arraylength, 1, 0, 0, 0, .null), (25, .if_icmp .le 5, 3, 30, 0, 0, .null)]),
  (28, [(28, .iconst 0, 1, 0, 0, 0, .int (nI 0)), (29, .ireturn, 1, 0, 0, 0, .null)]),
  (30, [(30, .iconst 0, 1, 0, 0, 0, .int (nI 0)), (31, .istore 6, 2, 0, 0, 0, .null)]),
  (33, [(33, .iload 6, 2, 0, 0, 0, .null), (35, .iload 5, 2, 0, 0, 0, .null), (37, .if_icmp .ge 29, 3, 66, 0, 0, .null), (40, .aload_n 2, 1, 2, 0, 0, .null), (41, .iload 4, 2, 0, 0, 0, .null), (43, .iload 6, 2, 0, 0, 0, .null), (45, .iadd, 1, 0, 0, 0, .null), (46, .laload, 1, 0, 0, 0, .null), (47, .aload_n 0, 1, 0, 0, 0, .null), (48, .iload_n 1, 1, 1, 0, 0, .null), (49, .iload 6, 2, 0, 0, 0, .null), (51, .invokevirtual 40, 3, 0, 2, 3, .ref 0), (54, .lcmp, 1, 0, 0, 0, .null), (55, .ifCond .eq 5, 3, 60, 0, 0, .null), (58, .iconst 0, 1, 0, 0, 0, .int (nI 0)), (59, .ireturn, 1, 0, 0, 0, .null)]),
  (60, [(60, .iinc 6 1, 3, 0, 0, 0, .int (nI 1)), (63, .goto (-30), 3, 33, 0, 0, .null)]),
  (66, [(66, .iconst 1, 1, 0, 0, 0, .int (nI 1)), (67, .ireturn, 1, 0, 0, 0, .null)])]
set_option maxRecDepth 100000 in
theorem okB5 : okB 5 B5 = true := by decide +kernel
/-- TelegraphHouse$Book.seal(LTelegraphHouse$SoundGroups;)V -/
def B6 : List (Nat × List EEy) := [
  (0, [(0, .iconst 0, 1, 0, 0, 0, .int (nI 0)), (1, .istore_n 2, 1, 2, 0, 0, .null)]),
  (2, [(2, .iload_n 2, 1, 2, 0, 0, .null), (3, .aload_n 0, 1, 0, 0, 0, .null), (4, .getfield 29, 3, 0, 5, 488, .int 0), (7, .if_icmp .ge 30, 3, 37, 0, 0, .null), (10, .aload_n 0, 1, 0, 0, 0, .null), (11, .getfield 19, 3, 0, 4, 485, .null), (14, .iload_n 2, 1, 2, 0, 0, .null), (15, .aload_n 1, 1, 1, 0, 0, .null), (16, .aload_n 0, 1, 0, 0, 0, .null), (17, .getfield 22, 3, 0, 0, 479, .int 0), (20, .iload_n 2, 1, 2, 0, 0, .null), (21, .aload_n 0, 1, 0, 0, 0, .null), (22, .getfield 26, 3, 0, 1, 480, .int 0), (25, .imul, 1, 0, 0, 0, .null), (26, .iadd, 1, 0, 0, 0, .null), (27, .invokevirtual 44, 3, 0, 100, 2, .ref 9), (30, .iastore, 1, 0, 0, 0, .null), (31, .iinc 2 1, 3, 0, 0, 0, .int (nI 1)), (34, .goto (-32), 3, 2, 0, 0, .null)]),
  (37, [(37, .aload_n 0, 1, 0, 0, 0, .null), (38, .iconst 1, 1, 0, 0, 0, .int (nI 1)), (39, .putfield 50, 3, 0, 6, 492, .float 0), (42, .return_, 1, 0, 0, 0, .null)])]
set_option maxRecDepth 100000 in
theorem okB6 : okB 6 B6 = true := by decide +kernel
/-- TelegraphHouse$Book.phraseWithGroup(I)I -/
def B7 : List (Nat × List EEy) := [
  (0, [(0, .iconst 0, 1, 0, 0, 0, .int (nI 0)), (1, .istore_n 2, 1, 2, 0, 0, .null)]),
  (2, [(2, .iload_n 2, 1, 2, 0, 0, .null), (3, .aload_n 0, 1, 0, 0, 0, .null), (4, .getfield 29, 3, 0, 5, 488, .int 0), (7, .if_icmp .ge 21, 3, 28, 0, 0, .null), (10, .aload_n 0, 1, 0, 0, 0, .null), (11, .getfield 19, 3, 0, 4, 485, .null), (14, .iload_n 2, 1, 2, 0, 0, .null), (15, .iaload, 1, 0, 0, 0, .null), (16, .iload_n 1, 1, 1, 0, 0, .null), (17, .if_icmp .ne 5, 3, 22, 0, 0, .null), (20, .iload_n 2, 1, 2, 0, 0, .null), (21, .ireturn, 1, 0, 0, 0, .null)]),
  (22, [(22, .iinc 2 1, 3, 0, 0, 0, .int (nI 1)), (25, .goto (-23), 3, 2, 0, 0, .null)]),
  (28, [(28, .bipush (-9), 2, 0, 0, 0, .int (-9)), (30, .ireturn, 1, 0, 0, 0, .null)])]
set_option maxRecDepth 100000 in
theorem okB7 : okB 7 B7 = true := by decide +kernel
/-- TelegraphHouse$Book.leastDistance()I -/
def B8 : List (Nat × List EEy) := [
  (0, [(0, .aload_n 0, 1, 0, 0, 0, .null), (1, .getfield 29, 3, 0, 5, 488, .int 0), (4, .iconst 2, 1, 0, 0, 0, .int (nI 2)), (5, .if_icmp .ge 6, 3, 11, 0, 0, .null), (8, .bipush (-9), 2, 0, 0, 0, .int (-9)), (10, .ireturn, 1, 0, 0, 0, .null)]),
  (11, [(11, .iconst 5, 1, 0, 0, 0, .int (nI 5)), (12, .istore_n 1, 1, 1, 0, 0, .null), (13, .iconst 1, 1, 0, 0, 0, .int (nI 1)), (14, .istore_n 2, 1, 2, 0, 0, .null)]),
  (15, [(15, .iload_n 2, 1, 2, 0, 0, .null), (16, .aload_n 0, 1, 0, 0, 0, .null), (17, .getfield 29, 3, 0, 5, 488, .int 0), (20, .if_icmp .ge 42, 3, 62, 0, 0, .null), (23, .iconst 0, 1, 0, 0, 0, .int (nI 0)), (24, .istore_n 3, 1, 3, 0, 0, .null)]),
  (25, [(25, .iload_n 3, 1, 3, 0, 0, .null), (26, .iload_n 2, 1, 2, 0, 0, .null), (27, .if_icmp .ge 29, 3, 56, 0, 0, .null), (30, .iload_n 1, 1, 1, 0, 0, .null), (31, .aload_n 0, 1, 0, 0, 0, .null), (32, .getfield 19, 3, 0, 4, 485, .null), (35, .iload_n 2, 1, 2, 0, 0, .null), (36, .iaload, 1, 0, 0, 0, .null), (37, .aload_n 0, 1, 0, 0, 0, .null), (38, .getfield 19, 3, 0, 4, 485, .null), (41, .iload_n 3, 1, 3, 0, 0, .null), (42, .iaload, 1, 0, 0, 0, .null), (43, .invokestatic 54, 3, 1, 9, 2, .ref 0), (46, .invokestatic 58, 3, 10, 586, 0, .null), (49, .istore_n 1, 1, 1, 0, 0, .null), (50, .iinc 3 1, 3, 0, 0, 0, .int (nI 1)), (53, .goto (-28), 3, 25, 0, 0, .null)]),
  (56, [(56, .iinc 2 1, 3, 0, 0, 0, .int (nI 1)), (59, .goto (-44), 3, 15, 0, 0, .null)]),
  (62, [(62, .iload_n 1, 1, 1, 0, 0, .null), (63, .ireturn, 1, 0, 0, 0, .null)])]
set_option maxRecDepth 100000 in
theorem okB8 : okB 8 B8 = true := by decide +kernel
/-- TelegraphHouse$Book.unlikePlaces(II)I -/
def B9 : List (Nat × List EEy) := [
  (0, [(0, .iconst 0, 1, 0, 0, 0, .int (nI 0)), (1, .istore_n 2, 1, 2, 0, 0, .null), (2, .iload_n 0, 1, 0, 0, 0, .null), (3, .istore_n 3, 1, 3, 0, 0, .null), (4, .iload_n 1, 1, 1, 0, 0, .null), (5, .istore 4, 2, 0, 0, 0, .null), (7, .iconst 0, 1, 0, 0, 0, .int (nI 0)), (8, .istore 5, 2, 0, 0, 0, .null)]),
  (10, [(10, .iload 5, 2, 0, 0, 0, .null), (12, .iconst 5, 1, 0, 0, 0, .int (nI 5)), (13, .if_icmp .ge 36, 3, 49, 0, 0, .null), (16, .iload_n 3, 1, 3, 0, 0, .null), (17, .bipush 26, 2, 0, 0, 0, .int (nI 26)), (19, .irem, 1, 0, 0, 0, .null), (20, .iload 4, 2, 0, 0, 0, .null), (22, .bipush 26, 2, 0, 0, 0, .int (nI 26)), (24, .irem, 1, 0, 0, 0, .null), (25, .if_icmp .eq 6, 3, 31, 0, 0, .null), (28, .iinc 2 1, 3, 0, 0, 0, .int (nI 1))]),
  (31, [(31, .iload_n 3, 1, 3, 0, 0, .null), (32, .bipush 26, 2, 0, 0, 0, .int (nI 26)), (34, .idiv, 1, 0, 0, 0, .null), (35, .istore_n 3, 1, 3, 0, 0, .null), (36, .iload 4, 2, 0, 0, 0, .null), (38, .bipush 26, 2, 0, 0, 0, .int (nI 26)), (40, .idiv, 1, 0, 0, 0, .null), (41, .istore 4, 2, 0, 0, 0, .null), (43, .iinc 5 1, 3, 0, 0, 0, .int (nI 1)), (46, .goto (-36), 3, 10, 0, 0, .null)]),
  (49, [(49, .iload_n 2, 1, 2, 0, 0, .null), (50, .ireturn, 1, 0, 0, 0, .null)])]
set_option maxRecDepth 100000 in
theorem okB9 : okB 9 B9 = true := by decide +kernel
/-- TelegraphHouse$Condenser.<init>()V -/
def B10 : List (Nat × List EEy) := [
  (0, [(0, .aload_n 0, 1, 0, 0, 0, .null), (1, .invokespecial 3, 3, 14, 155, 0, .null), (4, .aload_n 0, 1, 0, 0, 0, .null), (5, .bipush 21, 2, 0, 0, 0, .int (nI 21)), (7, .newarray .int, 2, 14, 128, 0, .null), (9, .putfield 9, 3, 1, 0, 156, .null), (12, .aload_n 0, 1, 0, 0, 0, .null), (13, .bipush 21, 2, 0, 0, 0, .int (nI 21)), (15, .newarray .int, 2, 14, 128, 0, .null), (17, .putfield 15, 3, 1, 1, 157, .null), (20, .aload_n 0, 1, 0, 0, 0, .null), (21, .bipush 21, 2, 0, 0, 0, .int (nI 21)), (23, .newarray .int, 2, 14, 128, 0, .null), (25, .putfield 18, 3, 1, 2, 158, .null), (28, .aload_n 0, 1, 0, 0, 0, .null), (29, .bipush 21, 2, 0, 0, 0, .int (nI 21)), (31, .newarray .int, 2, 14, 128, 0, .null), (33, .putfield 21, 3, 1, 3, 159, .null), (36, .return_, 1, 0, 0, 0, .null)])]
set_option maxRecDepth 100000 in
theorem okB10 : okB 10 B10 = true := by decide +kernel
/-- TelegraphHouse$Condenser.weigh(LTelegraphHouse$Message;LTelegraphHouse$Book;)I -/
def B11 : List (Nat × List EEy) := [
  (0, [(0, .aload_n 1, 1, 1, 0, 0, .null), (1, .getfield 24, 3, 6, 1, 399, .int 0), (4, .istore_n 3, 1, 3, 0, 0, .null), (5, .aload_n 0, 1, 0, 0, 0, .null), (6, .getfield 9, 3, 1, 0, 156, .null), (9, .iload_n 3, 1, 3, 0, 0, .null), (10, .iconst 0, 1, 0, 0, 0, .int (nI 0)), (11, .iastore, 1, 0, 0, 0, .null), (12, .aload_n 0, 1, 0, 0, 0, .null), (13, .getfield 15, 3, 1, 1, 157, .null), (16, .iload_n 3, 1, 3, 0, 0, .null), (17, .iconst 0, 1, 0, 0, 0, .int (nI 0)), (18, .iastore, 1, 0, 0, 0, .null), (19, .iload_n 3, 1, 3, 0, 0, .null), (20, .iconst 1, 1, 0, 0, 0, .int (nI 1)), (21, .isub, 1, 0, 0, 0, .null), (22, .istore 4, 2, 0, 0, 0, .null)]),
  (24, [(24, .iload 4, 2, 0, 0, 0, .null), (26, .ifCond .lt 94, 3, 120, 0, 0, .null), (29, .aload_n 0, 1, 0, 0, 0, .null), (30, .iload 4, 2, 0, 0, 0, .null), (32, .iconst 1, 1, 0, 0, 0, .int (nI 1)), (33, .bipush (-9), 2, 0, 0, 0, .int (-9)), (35, .aload_n 1, 1, 1, 0, 0, .null), (36, .getfield 30, 3, 6, 0, 396, .null), (39, .iload 4, 2, 0, 0, 0, .null), (41, .laload, 1, 0, 0, 0, .null), (42, .invokestatic 34, 3, 4, 161, 1, .ref 11), (45, .invokevirtual 38, 3, 0, 12, 5, .ref 1), (48, .iconst 0, 1, 0, 0, 0, .int (nI 0)), (49, .istore 5, 2, 0, 0, 0, .null)]),
  (51, [(51, .iload 5, 2, 0, 0, 0, .null), (53, .aload_n 2, 1, 2, 0, 0, .null), (54, .getfield 42, 3, 0, 5, 489, .int 0), (57, .if_icmp .ge 57, 3, 114, 0, 0, .null), (60, .aload_n 2, 1, 2, 0, 0, .null), (61, .iload 5, 2, 0, 0, 0, .null), (63, .aload_n 1, 1, 1, 0, 0, .null), (64, .getfield 30, 3, 6, 0, 396, .null), (67, .iload_n 3, 1, 3, 0, 0, .null), (68, .iload 4, 2, 0, 0, 0, .null), (70, .invokevirtual 47, 3, 0, 5, 5, .ref 0), (73, .ifCond .eq 35, 3, 108, 0, 0, .null), (76, .aload_n 0, 1, 0, 0, 0, .null), (77, .iload 4, 2, 0, 0, 0, .null), (79, .aload_n 2, 1, 2, 0, 0, .null), (80, .getfield 51, 3, 0, 3, 483, .null), (83, .iload 5, 2, 0, 0, 0, .null), (85, .iaload, 1, 0, 0, 0, .null), (86, .invokevirtual 54, 3, 0, 13, 3, .ref 1), (89, .ifCond .eq 19, 3, 108, 0, 0, .null), (92, .aload_n 0, 1, 0, 0, 0, .null), (93, .iload 4, 2, 0, 0, 0, .null), (95, .aload_n 2, 1, 2, 0, 0, .null), (96, .getfield 51, 3, 0, 3, 483, .null), (99, .iload 5, 2, 0, 0, 0, .null), (101, .iaload, 1, 0, 0, 0, .null), (102, .iload 5, 2, 0, 0, 0, .null), (104, .iconst 1, 1, 0, 0, 0, .int (nI 1)), (105, .invokevirtual 38, 3, 0, 12, 5, .ref 1)]),
  (108, [(108, .iinc 5 1, 3, 0, 0, 0, .int (nI 1)), (111, .goto (-60), 3, 51, 0, 0, .null)]),
  (114, [(114, .iinc 4 (-1), 3, 0, 0, 0, .int (-1)), (117, .goto (-93), 3, 24, 0, 0, .null)]),
  (120, [(120, .aload_n 0, 1, 0, 0, 0, .null), (121, .getfield 9, 3, 1, 0, 156, .null), (124, .iconst 0, 1, 0, 0, 0, .int (nI 0)), (125, .iaload, 1, 0, 0, 0, .null), (126, .ireturn, 1, 0, 0, 0, .null)])]
set_option maxRecDepth 100000 in
theorem okB11 : okB 11 B11 = true := by decide +kernel
/-- TelegraphHouse$Condenser.take(IIII)V -/
def B12 : List (Nat × List EEy) := [
  (0, [(0, .aload_n 0, 1, 0, 0, 0, .null), (1, .getfield 9, 3, 1, 0, 156, .null), (4, .iload_n 1, 1, 1, 0, 0, .null), (5, .iload 4, 2, 0, 0, 0, .null), (7, .aload_n 0, 1, 0, 0, 0, .null), (8, .getfield 9, 3, 1, 0, 156, .null), (11, .iload_n 1, 1, 1, 0, 0, .null), (12, .iload_n 2, 1, 2, 0, 0, .null), (13, .iadd, 1, 0, 0, 0, .null), (14, .iaload, 1, 0, 0, 0, .null), (15, .iadd, 1, 0, 0, 0, .null), (16, .iastore, 1, 0, 0, 0, .null), (17, .aload_n 0, 1, 0, 0, 0, .null), (18, .getfield 15, 3, 1, 1, 157, .null), (21, .iload_n 1, 1, 1, 0, 0, .null), (22, .iconst 1, 1, 0, 0, 0, .int (nI 1)), (23, .aload_n 0, 1, 0, 0, 0, .null), (24, .getfield 15, 3, 1, 1, 157, .null), (27, .iload_n 1, 1, 1, 0, 0, .null), (28, .iload_n 2, 1, 2, 0, 0, .null), (29, .iadd, 1, 0, 0, 0, .null), (30, .iaload, 1, 0, 0, 0, .null), (31, .iadd, 1, 0, 0, 0, .null), (32, .iastore, 1, 0, 0, 0, .null), (33, .aload_n 0, 1, 0, 0, 0, .null), (34, .getfield 18, 3, 1, 2, 158, .null), (37, .iload_n 1, 1, 1, 0, 0, .null), (38, .iload_n 2, 1, 2, 0, 0, .null), (39, .iastore, 1, 0, 0, 0, .null), (40, .aload_n 0, 1, 0, 0, 0, .null), (41, .getfield 21, 3, 1, 3, 159, .null), (44, .iload_n 1, 1, 1, 0, 0, .null), (45, .iload_n 3, 1, 3, 0, 0, .null), (46, .iastore, 1, 0, 0, 0, .null), (47, .return_, 1, 0, 0, 0, .null)])]
set_option maxRecDepth 100000 in
theorem okB12 : okB 12 B12 = true := by decide +kernel
/-- TelegraphHouse$Condenser.isBetter(II)Z -/
def B13 : List (Nat × List EEy) := [
  (0, [(0, .iconst 1, 1, 0, 0, 0, .int (nI 1)), (1, .aload_n 0, 1, 0, 0, 0, .null), (2, .getfield 9, 3, 1, 0, 156, .null), (5, .iload_n 1, 1, 1, 0, 0, .null), (6, .iload_n 2, 1, 2, 0, 0, .null), (7, .iadd, 1, 0, 0, 0, .null), (8, .iaload, 1, 0, 0, 0, .null), (9, .iadd, 1, 0, 0, 0, .null), (10, .istore_n 3, 1, 3, 0, 0, .null), (11, .iload_n 3, 1, 3, 0, 0, .null), (12, .aload_n 0, 1, 0, 0, 0, .null), (13, .getfield 9, 3, 1, 0, 156, .null), (16, .iload_n 1, 1, 1, 0, 0, .null), (17, .iaload, 1, 0, 0, 0, .null), (18, .if_icmp .eq 19, 3, 37, 0, 0, .null), (21, .iload_n 3, 1, 3, 0, 0, .null), (22, .aload_n 0, 1, 0, 0, 0, .null), (23, .getfield 9, 3, 1, 0, 156, .null), (26, .iload_n 1, 1, 1, 0, 0, .null), (27, .iaload, 1, 0, 0, 0, .null), (28, .if_icmp .ge 7, 3, 35, 0, 0, .null), (31, .iconst 1, 1, 0, 0, 0, .int (nI 1)), (32, .goto 4, 3, 36, 0, 0, .null)]),
  (35, [(35, .iconst 0, 1, 0, 0, 0, .int (nI 0))]),
  (36, [(36, .ireturn, 1, 0, 0, 0, .null)]),
  (37, [(37, .iconst 1, 1, 0, 0, 0, .int (nI 1)), (38, .aload_n 0, 1, 0, 0, 0, .null), (39, .getfield 15, 3, 1, 1, 157, .null), (42, .iload_n 1, 1, 1, 0, 0, .null), (43, .iload_n 2, 1, 2, 0, 0, .null), (44, .iadd, 1, 0, 0, 0, .null), (45, .iaload, 1, 0, 0, 0, .null), (46, .iadd, 1, 0, 0, 0, .null), (47, .istore 4, 2, 0, 0, 0, .null), (49, .iload 4, 2, 0, 0, 0, .null), (51, .aload_n 0, 1, 0, 0, 0, .null), (52, .getfield 15, 3, 1, 1, 157, .null), (55, .iload_n 1, 1, 1, 0, 0, .null), (56, .iaload, 1, 0, 0, 0, .null), (57, .if_icmp .eq 20, 3, 77, 0, 0, .null), (60, .iload 4, 2, 0, 0, 0, .null), (62, .aload_n 0, 1, 0, 0, 0, .null), (63, .getfield 15, 3, 1, 1, 157, .null), (66, .iload_n 1, 1, 1, 0, 0, .null), (67, .iaload, 1, 0, 0, 0, .null), (68, .if_icmp .ge 7, 3, 75, 0, 0, .null), (71, .iconst 1, 1, 0, 0, 0, .int (nI 1)), (72, .goto 4, 3, 76, 0, 0, .null)]),
  (75, [(75, .iconst 0, 1, 0, 0, 0, .int (nI 0))]),
  (76, [(76, .ireturn, 1, 0, 0, 0, .null)]),
  (77, [(77, .iload_n 2, 1, 2, 0, 0, .null), (78, .aload_n 0, 1, 0, 0, 0, .null), (79, .getfield 18, 3, 1, 2, 158, .null), (82, .iload_n 1, 1, 1, 0, 0, .null), (83, .iaload, 1, 0, 0, 0, .null), (84, .if_icmp .lt 7, 3, 91, 0, 0, .null), (87, .iconst 1, 1, 0, 0, 0, .int (nI 1)), (88, .goto 4, 3, 92, 0, 0, .null)]),
  (91, [(91, .iconst 0, 1, 0, 0, 0, .int (nI 0))]),
  (92, [(92, .ireturn, 1, 0, 0, 0, .null)])]
set_option maxRecDepth 100000 in
theorem okB13 : okB 13 B13 = true := by decide +kernel
/-- TelegraphHouse$Condenser.write(LTelegraphHouse$Message;LTelegraphHouse$Book;I)V -/
def B14 : List (Nat × List EEy) := [
  (0, [(0, .aload_n 1, 1, 1, 0, 0, .null), (1, .getfield 58, 3, 6, 2, 404, .null), (4, .iload_n 3, 1, 3, 0, 0, .null), (5, .invokevirtual 62, 3, 0, 28, 2, .ref 3), (8, .iconst 0, 1, 0, 0, 0, .int (nI 0)), (9, .istore 4, 2, 0, 0, 0, .null), (11, .iconst 0, 1, 0, 0, 0, .int (nI 0)), (12, .istore 5, 2, 0, 0, 0, .null)]),
  (14, [(14, .iload 5, 2, 0, 0, 0, .null), (16, .bipush 20, 2, 0, 0, 0, .int (nI 20)), (18, .if_icmp .ge 96, 3, 114, 0, 0, .null), (21, .iload 4, 2, 0, 0, 0, .null), (23, .aload_n 1, 1, 1, 0, 0, .null), (24, .getfield 24, 3, 6, 1, 399, .int 0), (27, .if_icmp .ge 87, 3, 114, 0, 0, .null), (30, .aload_n 0, 1, 0, 0, 0, .null), (31, .getfield 21, 3, 1, 3, 159, .null), (34, .iload 4, 2, 0, 0, 0, .null), (36, .iaload, 1, 0, 0, 0, .null), (37, .istore 6, 2, 0, 0, 0, .null), (39, .aload_n 2, 1, 2, 0, 0, .null), (40, .iload 6, 2, 0, 0, 0, .null), (42, .invokevirtual 68, 3, 0, 1, 2, .ref 0), (45, .ifCond .eq 37, 3, 82, 0, 0, .null), (48, .aload_n 1, 1, 1, 0, 0, .null), (49, .getfield 58, 3, 6, 2, 404, .null), (52, .iconst 0, 1, 0, 0, 0, .int (nI 0)), (53, .aload_n 0, 1, 0, 0, 0, .null), (54, .getfield 18, 3, 1, 2, 158, .null), (57, .iload 4, 2, 0, 0, 0, .null), (59, .iaload, 1, 0, 0, 0, .null), (60, .iload 6, 2, 0, 0, 0, .null), (62, .invokevirtual 72, 3, 0, 34, 4, .ref 3), (65, .aload_n 1, 1, 1, 0, 0, .null), (66, .getfield 58, 3, 6, 2, 404, .null), (69, .aload_n 2, 1, 2, 0, 0, .null), (70, .getfield 76, 3, 0, 4, 486, .null), (73, .iload 6, 2, 0, 0, 0, .null), (75, .iaload, 1, 0, 0, 0, .null), (76, .invokevirtual 77, 3, 0, 35, 2, .ref 3), (79, .goto 17, 3, 96, 0, 0, .null)]),
  (82, [(82, .aload_n 1, 1, 1, 0, 0, .null), (83, .getfield 58, 3, 6, 2, 404, .null), (86, .aload_n 1, 1, 1, 0, 0, .null), (87, .getfield 30, 3, 6, 0, 396, .null), (90, .iload 4, 2, 0, 0, 0, .null), (92, .laload, 1, 0, 0, 0, .null), (93, .invokestatic 80, 3, 1, 15, 2, .ref 1)]),
  (96, [(96, .iload 4, 2, 0, 0, 0, .null), (98, .aload_n 0, 1, 0, 0, 0, .null), (99, .getfield 18, 3, 1, 2, 158, .null), (102, .iload 4, 2, 0, 0, 0, .null), (104, .iaload, 1, 0, 0, 0, .null), (105, .iadd, 1, 0, 0, 0, .null), (106, .istore 4, 2, 0, 0, 0, .null), (108, .iinc 5 1, 3, 0, 0, 0, .int (nI 1)), (111, .goto (-97), 3, 14, 0, 0, .null)]),
  (114, [(114, .return_, 1, 0, 0, 0, .null)])]
set_option maxRecDepth 100000 in
theorem okB14 : okB 14 B14 = true := by decide +kernel
/-- TelegraphHouse$Condenser.writeToken(LTelegraphHouse$Form;J)V -/
def B15 : List (Nat × List EEy) := [
  (0, [(0, .lload_n 1, 1, 1, 0, 0, .null), (1, .invokestatic 84, 3, 4, 154, 1, .ref 11), (4, .ifCond .eq 22, 3, 26, 0, 0, .null), (7, .aload_n 0, 1, 0, 0, 0, .null), (8, .iconst 2, 1, 0, 0, 0, .int (nI 2)), (9, .iconst 1, 1, 0, 0, 0, .int (nI 1)), (10, .bipush (-9), 2, 0, 0, 0, .int (-9)), (12, .invokevirtual 72, 3, 0, 34, 4, .ref 3), (15, .aload_n 0, 1, 0, 0, 0, .null), (16, .lload_n 1, 1, 1, 0, 0, .null), (17, .invokestatic 88, 3, 4, 156, 1, .ref 11), (20, .invokevirtual 91, 3, 0, 36, 2, .ref 3), (23, .goto 16, 3, 39, 0, 0, .null)]),
  (26, [(26, .aload_n 0, 1, 0, 0, 0, .null), (27, .iconst 1, 1, 0, 0, 0, .int (nI 1)), (28, .iconst 1, 1, 0, 0, 0, .int (nI 1)), (29, .bipush (-9), 2, 0, 0, 0, .int (-9)), (31, .invokevirtual 72, 3, 0, 34, 4, .ref 3), (34, .aload_n 0, 1, 0, 0, 0, .null), (35, .lload_n 1, 1, 1, 0, 0, .null), (36, .invokevirtual 94, 3, 0, 38, 2, .ref 3)]),
  (39, [(39, .return_, 1, 0, 0, 0, .null)])]
set_option maxRecDepth 100000 in
theorem okB15 : okB 15 B15 = true := by decide +kernel
/-- TelegraphHouse$Expander.<init>()V -/
def B16 : List (Nat × List EEy) := [
  (0, [(0, .aload_n 0, 1, 0, 0, 0, .null), (1, .invokespecial 3, 3, 14, 174, 0, .null), (4, .return_, 1, 0, 0, 0, .null)])]
set_option maxRecDepth 100000 in
theorem okB16 : okB 16 B16 = true := by decide +kernel
/-- TelegraphHouse$Expander.compare(LTelegraphHouse$Message;LTelegraphHouse$Book;)I -/
def B17 : List (Nat × List EEy) := [
  (0, [(0, .aload_n 0, 1, 0, 0, 0, .null), (1, .iconst 0, 1, 0, 0, 0, .int (nI 0)), (2, .putfield 9, 3, 2, 0, 175, .int 0), (5, .aload_n 0, 1, 0, 0, 0, .null), (6, .iconst 0, 1, 0, 0, 0, .int (nI 0)), (7, .putfield 15, 3, 2, 1, 176, .int 0), (10, .aload_n 0, 1, 0, 0, 0, .null), (11, .iconst 1, 1, 0, 0, 0, .int (nI 1)), (12, .putfield 18, 3, 2, 2, 177, .float 0), (15, .iconst 0, 1, 0, 0, 0, .int (nI 0)), (16, .istore_n 3, 1, 3, 0, 0, .null)]),
  (17, [(17, .iload_n 3, 1, 3, 0, 0, .null), (18, .bipush 80, 2, 0, 0, 0, .int (nI 80)), (20, .if_icmp .ge 34, 3, 54, 0, 0, .null), (23, .aload_n 0, 1, 0, 0, 0, .null), (24, .getfield 9, 3, 2, 0, 175, .int 0), (27, .aload_n 1, 1, 1, 0, 0, .null), (28, .getfield 22, 3, 6, 2, 403, .null), (31, .getfield 28, 3, 3, 1, 349, .int 0), (34, .if_icmp .ge 20, 3, 54, 0, 0, .null), (37, .aload_n 0, 1, 0, 0, 0, .null), (38, .aload_n 1, 1, 1, 0, 0, .null), (39, .aload_n 2, 1, 2, 0, 0, .null), (40, .invokevirtual 33, 3, 0, 18, 3, .ref 2), (43, .ifCond .ne 5, 3, 48, 0, 0, .null), (46, .iconst 2, 1, 0, 0, 0, .int (nI 2)), (47, .ireturn, 1, 0, 0, 0, .null)]),
  (48, [(48, .iinc 3 1, 3, 0, 0, 0, .int (nI 1)), (51, .goto (-34), 3, 17, 0, 0, .null)]),
  (54, [(54, .aload_n 0, 1, 0, 0, 0, .null), (55, .getfield 18, 3, 2, 2, 177, .float 0), (58, .ifCond .eq 18, 3, 76, 0, 0, .null), (61, .aload_n 0, 1, 0, 0, 0, .null), (62, .getfield 15, 3, 2, 1, 176, .int 0), (65, .aload_n 1, 1, 1, 0, 0, .null), (66, .getfield 37, 3, 6, 1, 400, .int 0), (69, .if_icmp .ne 7, 3, 76, 0, 0, .null), (72, .iconst 1, 1, 0, 0, 0, .int (nI 1)), (73, .goto 4, 3, 77, 0, 0, .null)]),
  (76, [(76, .iconst 0, 1, 0, 0, 0, .int (nI 0))]),
  (77, [(77, .ireturn, 1, 0, 0, 0, .null)])]
set_option maxRecDepth 100000 in
theorem okB17 : okB 17 B17 = true := by decide +kernel
/-- TelegraphHouse$Expander.readNext(LTelegraphHouse$Message;LTelegraphHouse$Book;)Z -/
def B18 : List (Nat × List EEy) := [
  (0, [(0, .aload_n 1, 1, 1, 0, 0, .null), (1, .getfield 22, 3, 6, 2, 403, .null), (4, .aload_n 0, 1, 0, 0, 0, .null), (5, .getfield 9, 3, 2, 0, 175, .int 0), (8, .iconst 0, 1, 0, 0, 0, .int (nI 0)), (9, .invokevirtual 40, 3, 0, 31, 3, .ref 3), (12, .tableswitch 46 23 25 #[40, 34, 28], 28, 0, 0, 0, .null)]),
  (40, [(40, .aload_n 0, 1, 0, 0, 0, .null), (41, .aload_n 1, 1, 1, 0, 0, .null), (42, .invokevirtual 44, 3, 0, 21, 2, .ref 2), (45, .ireturn, 1, 0, 0, 0, .null)]),
  (46, [(46, .aload_n 0, 1, 0, 0, 0, .null), (47, .aload_n 1, 1, 1, 0, 0, .null), (48, .invokevirtual 48, 3, 0, 22, 2, .ref 2), (51, .ireturn, 1, 0, 0, 0, .null)]),
  (52, [(52, .aload_n 0, 1, 0, 0, 0, .null), (53, .aload_n 1, 1, 1, 0, 0, .null), (54, .invokevirtual 51, 3, 0, 24, 2, .ref 2), (57, .ireturn, 1, 0, 0, 0, .null)]),
  (58, [(58, .aload_n 0, 1, 0, 0, 0, .null), (59, .aload_n 1, 1, 1, 0, 0, .null), (60, .aload_n 2, 1, 2, 0, 0, .null), (61, .invokevirtual 54, 3, 0, 20, 3, .ref 2), (64, .ireturn, 1, 0, 0, 0, .null)])]
set_option maxRecDepth 100000 in
theorem okB18 : okB 18 B18 = true := by decide +kernel
/-- TelegraphHouse$Expander.tell(LTelegraphHouse$Message;J)V -/
def B19 : List (Nat × List EEy) := [
  (0, [(0, .aload_n 0, 1, 0, 0, 0, .null), (1, .getfield 15, 3, 2, 1, 176, .int 0), (4, .aload_n 1, 1, 1, 0, 0, .null), (5, .getfield 37, 3, 6, 1, 400, .int 0), (8, .if_icmp .ge 17, 3, 25, 0, 0, .null), (11, .aload_n 1, 1, 1, 0, 0, .null), (12, .getfield 57, 3, 6, 0, 397, .null), (15, .aload_n 0, 1, 0, 0, 0, .null), (16, .getfield 15, 3, 2, 1, 176, .int 0), (19, .laload, 1, 0, 0, 0, .null), (20, .lload_n 2, 1, 2, 0, 0, .null), (21, .lcmp, 1, 0, 0, 0, .null), (22, .ifCond .eq 11, 3, 33, 0, 0, .null)]),
  (25, [(25, .aload_n 0, 1, 0, 0, 0, .null), (26, .iconst 0, 1, 0, 0, 0, .int (nI 0)), (27, .putfield 18, 3, 2, 2, 177, .float 0), (30, .goto 13, 3, 43, 0, 0, .null)]),
  (33, [(33, .aload_n 0, 1, 0, 0, 0, .null), (34, .dup, 1, 0, 0, 0, .null), (35, .getfield 15, 3, 2, 1, 176, .int 0), (38, .iconst 1, 1, 0, 0, 0, .int (nI 1)), (39, .iadd, 1, 0, 0, 0, .null), (40, .putfield 15, 3, 2, 1, 176, .int 0)]),
  (43, [(43, .return_, 1, 0, 0, 0, .null)])]
set_option maxRecDepth 100000 in
theorem okB19 : okB 19 B19 = true := by decide +kernel
/-- TelegraphHouse$Expander.readPhrase(LTelegraphHouse$Message;LTelegraphHouse$Book;)Z -/
def B20 : List (Nat × List EEy) := [
  (0, [(0, .aload_n 2, 1, 2, 0, 0, .null), (1, .aload_n 1, 1, 1, 0, 0, .null), (2, .getfield 22, 3, 6, 2, 403, .null), (5, .aload_n 0, 1, 0, 0, 0, .null), (6, .getfield 9, 3, 2, 0, 175, .int 0), (9, .invokevirtual 61, 3, 0, 33, 2, .ref 3), (12, .invokevirtual 65, 3, 0, 7, 2, .ref 0), (15, .istore_n 3, 1, 3, 0, 0, .null), (16, .aload_n 2, 1, 2, 0, 0, .null), (17, .iload_n 3, 1, 3, 0, 0, .null), (18, .invokevirtual 70, 3, 0, 1, 2, .ref 0), (21, .ifCond .ne 5, 3, 26, 0, 0, .null), (24, .iconst 0, 1, 0, 0, 0, .int (nI 0)), (25, .ireturn, 1, 0, 0, 0, .null)]),
  (26, [(26, .iconst 0, 1, 0, 0, 0, .int (nI 0)), (27, .istore 4, 2, 0, 0, 0, .null)]),
  (29, [(29, .iload 4, 2, 0, 0, 0, .null), (31, .aload_n 2, 1, 2, 0, 0, .null), (32, .getfield 74, 3, 0, 3, 484, .null), (35, .iload_n 3, 1, 3, 0, 0, .null), (36, .iaload, 1, 0, 0, 0, .null), (37, .if_icmp .ge 21, 3, 58, 0, 0, .null), (40, .aload_n 0, 1, 0, 0, 0, .null), (41, .aload_n 1, 1, 1, 0, 0, .null), (42, .aload_n 2, 1, 2, 0, 0, .null), (43, .iload_n 3, 1, 3, 0, 0, .null), (44, .iload 4, 2, 0, 0, 0, .null), (46, .invokevirtual 78, 3, 0, 2, 3, .ref 0), (49, .invokevirtual 82, 3, 0, 19, 3, .ref 2), (52, .iinc 4 1, 3, 0, 0, 0, .int (nI 1)), (55, .goto (-26), 3, 29, 0, 0, .null)]),
  (58, [(58, .aload_n 0, 1, 0, 0, 0, .null), (59, .dup, 1, 0, 0, 0, .null), (60, .getfield 9, 3, 2, 0, 175, .int 0), (63, .iconst 1, 1, 0, 0, 0, .int (nI 1)), (64, .iadd, 1, 0, 0, 0, .null), (65, .putfield 9, 3, 2, 0, 175, .int 0), (68, .iconst 1, 1, 0, 0, 0, .int (nI 1)), (69, .ireturn, 1, 0, 0, 0, .null)])]
set_option maxRecDepth 100000 in
theorem okB20 : okB 20 B20 = true := by decide +kernel
/-- TelegraphHouse$Expander.readShortNumber(LTelegraphHouse$Message;)Z -/
def B21 : List (Nat × List EEy) := [
  (0, [(0, .aload_n 1, 1, 1, 0, 0, .null), (1, .getfield 22, 3, 6, 2, 403, .null), (4, .aload_n 0, 1, 0, 0, 0, .null), (5, .getfield 9, 3, 2, 0, 175, .int 0), (8, .invokestatic 86, 3, 1, 23, 2, .ref 2), (11, .istore_n 2, 1, 2, 0, 0, .null), (12, .iload_n 2, 1, 2, 0, 0, .null), (13, .bipush (-9), 2, 0, 0, 0, .int (-9)), (15, .if_icmp .ne 5, 3, 20, 0, 0, .null), (18, .iconst 0, 1, 0, 0, 0, .int (nI 0)), (19, .ireturn, 1, 0, 0, 0, .null)]),
  (20, [(20, .aload_n 0, 1, 0, 0, 0, .null), (21, .aload_n 1, 1, 1, 0, 0, .null), (22, .iload_n 2, 1, 2, 0, 0, .null), (23, .i2l, 1, 0, 0, 0, .null), (24, .invokestatic 90, 3, 4, 155, 1, .ref 11), (27, .invokevirtual 82, 3, 0, 19, 3, .ref 2), (30, .aload_n 0, 1, 0, 0, 0, .null), (31, .dup, 1, 0, 0, 0, .null), (32, .getfield 9, 3, 2, 0, 175, .int 0), (35, .iconst 1, 1, 0, 0, 0, .int (nI 1)), (36, .iadd, 1, 0, 0, 0, .null), (37, .putfield 9, 3, 2, 0, 175, .int 0), (40, .iconst 1, 1, 0, 0, 0, .int (nI 1)), (41, .ireturn, 1, 0, 0, 0, .null)])]
set_option maxRecDepth 100000 in
theorem okB21 : okB 21 B21 = true := by decide +kernel
/-- TelegraphHouse$Expander.readLongNumber(LTelegraphHouse$Message;)Z -/
def B22 : List (Nat × List EEy) := [
  (0, [(0, .aload_n 1, 1, 1, 0, 0, .null), (1, .getfield 22, 3, 6, 2, 403, .null), (4, .aload_n 0, 1, 0, 0, 0, .null), (5, .getfield 9, 3, 2, 0, 175, .int 0), (8, .iconst 1, 1, 0, 0, 0, .int (nI 1)), (9, .iadd, 1, 0, 0, 0, .null), (10, .invokevirtual 94, 3, 0, 29, 2, .ref 3), (13, .ifCond .eq 22, 3, 35, 0, 0, .null), (16, .aload_n 1, 1, 1, 0, 0, .null), (17, .getfield 22, 3, 6, 2, 403, .null), (20, .aload_n 0, 1, 0, 0, 0, .null), (21, .getfield 9, 3, 2, 0, 175, .int 0), (24, .iconst 1, 1, 0, 0, 0, .int (nI 1)), (25, .iadd, 1, 0, 0, 0, .null), (26, .iconst 0, 1, 0, 0, 0, .int (nI 0)), (27, .invokevirtual 40, 3, 0, 31, 3, .ref 3), (30, .bipush 25, 2, 0, 0, 0, .int (nI 25)), (32, .if_icmp .eq 5, 3, 37, 0, 0, .null)]),
  (35, [(35, .iconst 0, 1, 0, 0, 0, .int (nI 0)), (36, .ireturn, 1, 0, 0, 0, .null)]),
  (37, [(37, .aload_n 1, 1, 1, 0, 0, .null), (38, .getfield 22, 3, 6, 2, 403, .null), (41, .aload_n 0, 1, 0, 0, 0, .null), (42, .getfield 9, 3, 2, 0, 175, .int 0), (45, .invokestatic 86, 3, 1, 23, 2, .ref 2), (48, .i2l, 1, 0, 0, 0, .null), (49, .lstore_n 2, 1, 2, 0, 0, .null), (50, .aload_n 1, 1, 1, 0, 0, .null), (51, .getfield 22, 3, 6, 2, 403, .null), (54, .aload_n 0, 1, 0, 0, 0, .null), (55, .getfield 9, 3, 2, 0, 175, .int 0), (58, .iconst 1, 1, 0, 0, 0, .int (nI 1)), (59, .iadd, 1, 0, 0, 0, .null), (60, .invokestatic 86, 3, 1, 23, 2, .ref 2), (63, .i2l, 1, 0, 0, 0, .null), (64, .lstore 4, 2, 0, 0, 0, .null), (66, .lload_n 2, 1, 2, 0, 0, .null), (67, .lconst 0, 1, 0, 0, 0, .long (lN 0)), (68, .lcmp, 1, 0, 0, 0, .null), (69, .ifCond .le 10, 3, 79, 0, 0, .null), (72, .lload 4, 2, 0, 0, 0, .null), (74, .lconst 0, 1, 0, 0, 0, .long (lN 0)), (75, .lcmp, 1, 0, 0, 0, .null), (76, .ifCond .ge 5, 3, 81, 0, 0, .null)]),
  (79, [(79, .iconst 0, 1, 0, 0, 0, .int (nI 0)), (80, .ireturn, 1, 0, 0, 0, .null)]),
  (81, [(81, .lload_n 2, 1, 2, 0, 0, .null), (82, .ldc2_w 97, 3, 0, 740, 0, .long (lN 331776)), (85, .lmul, 1, 0, 0, 0, .null), (86, .lload 4, 2, 0, 0, 0, .null), (88, .ladd, 1, 0, 0, 0, .null), (89, .lstore 6, 2, 0, 0, 0, .null), (91, .lload 6, 2, 0, 0, 0, .null), (93, .ldc2_w 99, 3, 0, 741, 0, .long (lN 999999999)), (96, .lcmp, 1, 0, 0, 0, .null), (97, .ifCond .le 5, 3, 102, 0, 0, .null), (100, .iconst 0, 1, 0, 0, 0, .int (nI 0)), (101, .ireturn, 1, 0, 0, 0, .null)]),
  (102, [(102, .aload_n 0, 1, 0, 0, 0, .null), (103, .aload_n 1, 1, 1, 0, 0, .null), (104, .lload 6, 2, 0, 0, 0, .null), (106, .invokestatic 90, 3, 4, 155, 1, .ref 11), (109, .invokevirtual 82, 3, 0, 19, 3, .ref 2), (112, .aload_n 0, 1, 0, 0, 0, .null), (113, .dup, 1, 0, 0, 0, .null), (114, .getfield 9, 3, 2, 0, 175, .int 0), (117, .iconst 2, 1, 0, 0, 0, .int (nI 2)), (118, .iadd, 1, 0, 0, 0, .null), (119, .putfield 9, 3, 2, 0, 175, .int 0), (122, .iconst 1, 1, 0, 0, 0, .int (nI 1)), (123, .ireturn, 1, 0, 0, 0, .null)])]
set_option maxRecDepth 100000 in
theorem okB22 : okB 22 B22 = true := by decide +kernel
/-- TelegraphHouse$Expander.digitsOf(LTelegraphHouse$Form;I)I -/
def B23 : List (Nat × List EEy) := [
  (0, [(0, .iconst 0, 1, 0, 0, 0, .int (nI 0)), (1, .istore_n 2, 1, 2, 0, 0, .null), (2, .iconst 1, 1, 0, 0, 0, .int (nI 1)), (3, .istore_n 3, 1, 3, 0, 0, .null)]),
  (4, [(4, .iload_n 3, 1, 3, 0, 0, .null), (5, .iconst 5, 1, 0, 0, 0, .int (nI 5)), (6, .if_icmp .ge 35, 3, 41, 0, 0, .null), (9, .aload_n 0, 1, 0, 0, 0, .null), (10, .iload_n 1, 1, 1, 0, 0, .null), (11, .iload_n 3, 1, 3, 0, 0, .null), (12, .invokevirtual 40, 3, 0, 31, 3, .ref 3), (15, .istore 4, 2, 0, 0, 0, .null), (17, .iload 4, 2, 0, 0, 0, .null), (19, .bipush 24, 2, 0, 0, 0, .int (nI 24)), (21, .if_icmp .lt 6, 3, 27, 0, 0, .null), (24, .bipush (-9), 2, 0, 0, 0, .int (-9)), (26, .ireturn, 1, 0, 0, 0, .null)]),
  (27, [(27, .iload_n 2, 1, 2, 0, 0, .null), (28, .bipush 24, 2, 0, 0, 0, .int (nI 24)), (30, .imul, 1, 0, 0, 0, .null), (31, .iload 4, 2, 0, 0, 0, .null), (33, .iadd, 1, 0, 0, 0, .null), (34, .istore_n 2, 1, 2, 0, 0, .null), (35, .iinc 3 1, 3, 0, 0, 0, .int (nI 1)), (38, .goto (-34), 3, 4, 0, 0, .null)]),
  (41, [(41, .iload_n 2, 1, 2, 0, 0, .null), (42, .ireturn, 1, 0, 0, 0, .null)])]
set_option maxRecDepth 100000 in
theorem okB23 : okB 23 B23 = true := by decide +kernel
/-- TelegraphHouse$Expander.readSpelled(LTelegraphHouse$Message;)Z -/
def B24 : List (Nat × List EEy) := [
  (0, [(0, .aload_n 1, 1, 1, 0, 0, .null), (1, .getfield 22, 3, 6, 2, 403, .null), (4, .aload_n 0, 1, 0, 0, 0, .null), (5, .getfield 9, 3, 2, 0, 175, .int 0), (8, .iconst 1, 1, 0, 0, 0, .int (nI 1)), (9, .invokevirtual 40, 3, 0, 31, 3, .ref 3), (12, .istore_n 2, 1, 2, 0, 0, .null), (13, .aload_n 0, 1, 0, 0, 0, .null), (14, .getfield 9, 3, 2, 0, 175, .int 0), (17, .iload_n 2, 1, 2, 0, 0, .null), (18, .iconst 4, 1, 0, 0, 0, .int (nI 4)), (19, .idiv, 1, 0, 0, 0, .null), (20, .iadd, 1, 0, 0, 0, .null), (21, .istore_n 3, 1, 3, 0, 0, .null), (22, .iload_n 2, 1, 2, 0, 0, .null), (23, .iconst 1, 1, 0, 0, 0, .int (nI 1)), (24, .bipush 12, 2, 0, 0, 0, .int (nI 12)), (26, .invokestatic 101, 3, 4, 153, 3, .ref 11), (29, .ifCond .eq 14, 3, 43, 0, 0, .null), (32, .aload_n 1, 1, 1, 0, 0, .null), (33, .getfield 22, 3, 6, 2, 403, .null), (36, .iload_n 3, 1, 3, 0, 0, .null), (37, .invokevirtual 94, 3, 0, 29, 2, .ref 3), (40, .ifCond .ne 5, 3, 45, 0, 0, .null)]),
  (43, [(43, .iconst 0, 1, 0, 0, 0, .int (nI 0)), (44, .ireturn, 1, 0, 0, 0, .null)]),
  (45, [(45, .lconst 0, 1, 0, 0, 0, .long (lN 0)), (46, .lstore 4, 2, 0, 0, 0, .null), (48, .iconst 0, 1, 0, 0, 0, .int (nI 0)), (49, .istore 6, 2, 0, 0, 0, .null)]),
  (51, [(51, .iload 6, 2, 0, 0, 0, .null), (53, .iload_n 2, 1, 2, 0, 0, .null), (54, .iconst 4, 1, 0, 0, 0, .int (nI 4)), (55, .idiv, 1, 0, 0, 0, .null), (56, .if_icmp .gt 60, 3, 116, 0, 0, .null), (59, .aload_n 1, 1, 1, 0, 0, .null), (60, .getfield 22, 3, 6, 2, 403, .null), (63, .aload_n 0, 1, 0, 0, 0, .null), (64, .getfield 9, 3, 2, 0, 175, .int 0), (67, .iload 6, 2, 0, 0, 0, .null), (69, .iadd, 1, 0, 0, 0, .null), (70, .iconst 0, 1, 0, 0, 0, .int (nI 0)), (71, .invokevirtual 40, 3, 0, 31, 3, .ref 3), (74, .bipush 23, 2, 0, 0, 0, .int (nI 23)), (76, .if_icmp .ne 17, 3, 93, 0, 0, .null), (79, .aload_n 0, 1, 0, 0, 0, .null), (80, .aload_n 1, 1, 1, 0, 0, .null), (81, .getfield 22, 3, 6, 2, 403, .null), (84, .iload 6, 2, 0, 0, 0, .null), (86, .iload_n 2, 1, 2, 0, 0, .null), (87, .invokevirtual 105, 3, 0, 25, 4, .ref 2), (90, .ifCond .ne 5, 3, 95, 0, 0, .null)]),
  (93, [(93, .iconst 0, 1, 0, 0, 0, .int (nI 0)), (94, .ireturn, 1, 0, 0, 0, .null)]),
  (95, [(95, .aload_n 0, 1, 0, 0, 0, .null), (96, .lload 4, 2, 0, 0, 0, .null), (98, .aload_n 1, 1, 1, 0, 0, .null), (99, .getfield 22, 3, 6, 2, 403, .null), (102, .iload 6, 2, 0, 0, 0, .null), (104, .iload_n 2, 1, 2, 0, 0, .null), (105, .invokevirtual 109, 3, 0, 26, 5, .ref 2), (108, .lstore 4, 2, 0, 0, 0, .null), (110, .iinc 6 1, 3, 0, 0, 0, .int (nI 1)), (113, .goto (-62), 3, 51, 0, 0, .null)]),
  (116, [(116, .aload_n 0, 1, 0, 0, 0, .null), (117, .aload_n 1, 1, 1, 0, 0, .null), (118, .lload 4, 2, 0, 0, 0, .null), (120, .invokevirtual 82, 3, 0, 19, 3, .ref 2), (123, .aload_n 0, 1, 0, 0, 0, .null), (124, .iload_n 3, 1, 3, 0, 0, .null), (125, .iconst 1, 1, 0, 0, 0, .int (nI 1)), (126, .iadd, 1, 0, 0, 0, .null), (127, .putfield 9, 3, 2, 0, 175, .int 0), (130, .iconst 1, 1, 0, 0, 0, .int (nI 1)), (131, .ireturn, 1, 0, 0, 0, .null)])]
set_option maxRecDepth 100000 in
theorem okB24 : okB 24 B24 = true := by decide +kernel
/-- TelegraphHouse$Expander.isPadded(LTelegraphHouse$Form;II)Z -/
def B25 : List (Nat × List EEy) := [
  (0, [(0, .iconst 1, 1, 0, 0, 0, .int (nI 1)), (1, .istore 4, 2, 0, 0, 0, .null)]),
  (3, [(3, .iload 4, 2, 0, 0, 0, .null), (5, .iconst 5, 1, 0, 0, 0, .int (nI 5)), (6, .if_icmp .ge 36, 3, 42, 0, 0, .null), (9, .iload_n 2, 1, 2, 0, 0, .null), (10, .iload 4, 2, 0, 0, 0, .null), (12, .invokestatic 113, 3, 1, 39, 2, .ref 3), (15, .iload_n 3, 1, 3, 0, 0, .null), (16, .if_icmp .lt 20, 3, 36, 0, 0, .null), (19, .aload_n 1, 1, 1, 0, 0, .null), (20, .aload_n 0, 1, 0, 0, 0, .null), (21, .getfield 9, 3, 2, 0, 175, .int 0), (24, .iload_n 2, 1, 2, 0, 0, .null), (25, .iadd, 1, 0, 0, 0, .null), (26, .iload 4, 2, 0, 0, 0, .null), (28, .invokevirtual 40, 3, 0, 31, 3, .ref 3), (31, .ifCond .eq 5, 3, 36, 0, 0, .null), (34, .iconst 0, 1, 0, 0, 0, .int (nI 0)), (35, .ireturn, 1, 0, 0, 0, .null)]),
  (36, [(36, .iinc 4 1, 3, 0, 0, 0, .int (nI 1)), (39, .goto (-36), 3, 3, 0, 0, .null)]),
  (42, [(42, .iconst 1, 1, 0, 0, 0, .int (nI 1)), (43, .ireturn, 1, 0, 0, 0, .null)])]
set_option maxRecDepth 100000 in
theorem okB25 : okB 25 B25 = true := by decide +kernel
