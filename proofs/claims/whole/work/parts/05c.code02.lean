/-! the code, 2 -/
/-- TelegraphHouse$Message.chargedCount()I -/
def B60 : List (Nat × List EEy) := [
  (0, [(0, .aload_n 0, 1, 0, 0, 0, .null), (1, .getfield 18, 3, 6, 2, 402, .null), (4, .getfield 32, 3, 3, 1, 347, .int 0), (7, .ifCond .le 11, 3, 18, 0, 0, .null), (10, .aload_n 0, 1, 0, 0, 0, .null), (11, .getfield 18, 3, 6, 2, 402, .null), (14, .getfield 32, 3, 3, 1, 347, .int 0), (17, .ireturn, 1, 0, 0, 0, .null)]),
  (18, [(18, .iconst 0, 1, 0, 0, 0, .int (nI 0)), (19, .istore_n 1, 1, 1, 0, 0, .null), (20, .iconst 0, 1, 0, 0, 0, .int (nI 0)), (21, .istore_n 2, 1, 2, 0, 0, .null)]),
  (22, [(22, .iload_n 2, 1, 2, 0, 0, .null), (23, .aload_n 0, 1, 0, 0, 0, .null), (24, .getfield 28, 3, 6, 1, 398, .int 0), (27, .if_icmp .ge 21, 3, 48, 0, 0, .null), (30, .iload_n 1, 1, 1, 0, 0, .null), (31, .aload_n 0, 1, 0, 0, 0, .null), (32, .getfield 9, 3, 6, 0, 395, .null), (35, .iload_n 2, 1, 2, 0, 0, .null), (36, .laload, 1, 0, 0, 0, .null), (37, .invokestatic 35, 3, 4, 162, 1, .ref 11), (40, .iadd, 1, 0, 0, 0, .null), (41, .istore_n 1, 1, 1, 0, 0, .null), (42, .iinc 2 1, 3, 0, 0, 0, .int (nI 1)), (45, .goto (-23), 3, 22, 0, 0, .null)]),
  (48, [(48, .iload_n 1, 1, 1, 0, 0, .null), (49, .ireturn, 1, 0, 0, 0, .null)])]
set_option maxRecDepth 100000 in
theorem okB60 : okB 60 B60 = true := by decide +kernel
/-- TelegraphHouse$Net.<init>()V -/
def B61 : List (Nat × List EEy) := [
  (0, [(0, .aload_n 0, 1, 0, 0, 0, .null), (1, .invokespecial 3, 3, 14, 190, 0, .null), (4, .aload_n 0, 1, 0, 0, 0, .null), (5, .bipush 32, 2, 0, 0, 0, .int (nI 32)), (7, .newarray .int, 2, 14, 128, 0, .null), (9, .putfield 11, 3, 7, 1, 214, .null), (12, .aload_n 0, 1, 0, 0, 0, .null), (13, .bipush 12, 2, 0, 0, 0, .int (nI 12)), (15, .anewarray 15, 3, 19, 191, 0, .null), (18, .putfield 17, 3, 7, 2, 215, .null), (21, .aload_n 0, 1, 0, 0, 0, .null), (22, .bipush 30, 2, 0, 0, 0, .int (nI 30)), (24, .anewarray 21, 3, 18, 193, 0, .null), (27, .putfield 23, 3, 7, 4, 218, .null), (30, .aload_n 0, 1, 0, 0, 0, .null), (31, .bipush 8, 2, 0, 0, 0, .int (nI 8)), (33, .newarray .int, 2, 14, 128, 0, .null), (35, .putfield 27, 3, 7, 6, 220, .null), (38, .aload_n 0, 1, 0, 0, 0, .null), (39, .new 30, 3, 8, 3, 0, .null), (42, .dup, 1, 0, 0, 0, .null), (43, .invokespecial 32, 3, 25, 93, 1, .ref 8), (46, .putfield 33, 3, 7, 7, 221, .null), (49, .return_, 1, 0, 0, 0, .null)])]
set_option maxRecDepth 100000 in
theorem okB61 : okB 61 B61 = true := by decide +kernel
/-- TelegraphHouse$Net.addStation()I -/
def B62 : List (Nat × List EEy) := [
  (0, [(0, .aload_n 0, 1, 0, 0, 0, .null), (1, .getfield 37, 3, 7, 0, 212, .int 0), (4, .bipush 8, 2, 0, 0, 0, .int (nI 8)), (6, .if_icmp .lt 6, 3, 12, 0, 0, .null), (9, .bipush (-4), 2, 0, 0, 0, .int (-4)), (11, .ireturn, 1, 0, 0, 0, .null)]),
  (12, [(12, .aload_n 0, 1, 0, 0, 0, .null), (13, .dup, 1, 0, 0, 0, .null), (14, .getfield 37, 3, 7, 0, 212, .int 0), (17, .iconst 1, 1, 0, 0, 0, .int (nI 1)), (18, .iadd, 1, 0, 0, 0, .null), (19, .putfield 37, 3, 7, 0, 212, .int 0), (22, .aload_n 0, 1, 0, 0, 0, .null), (23, .getfield 37, 3, 7, 0, 212, .int 0), (26, .iconst 1, 1, 0, 0, 0, .int (nI 1)), (27, .isub, 1, 0, 0, 0, .null), (28, .ireturn, 1, 0, 0, 0, .null)])]
set_option maxRecDepth 100000 in
theorem okB62 : okB 62 B62 = true := by decide +kernel
/-- TelegraphHouse$Net.addLine(IIIII)I -/
def B63 : List (Nat × List EEy) := [
  (0, [(0, .aload_n 0, 1, 0, 0, 0, .null), (1, .getfield 41, 3, 7, 3, 216, .int 0), (4, .bipush 12, 2, 0, 0, 0, .int (nI 12)), (6, .if_icmp .lt 6, 3, 12, 0, 0, .null), (9, .bipush (-4), 2, 0, 0, 0, .int (-4)), (11, .ireturn, 1, 0, 0, 0, .null)]),
  (12, [(12, .aload_n 0, 1, 0, 0, 0, .null), (13, .getfield 17, 3, 7, 2, 215, .null), (16, .aload_n 0, 1, 0, 0, 0, .null), (17, .getfield 41, 3, 7, 3, 216, .int 0), (20, .new 15, 3, 5, 9, 0, .null), (23, .dup, 1, 0, 0, 0, .null), (24, .iload_n 1, 1, 1, 0, 0, .null), (25, .iload_n 2, 1, 2, 0, 0, .null), (26, .iload_n 3, 1, 3, 0, 0, .null), (27, .iload 4, 2, 0, 0, 0, .null), (29, .iload 5, 2, 0, 0, 0, .null), (31, .invokespecial 44, 3, 22, 54, 6, .ref 5), (34, .aastore, 1, 0, 0, 0, .null), (35, .aload_n 0, 1, 0, 0, 0, .null), (36, .dup, 1, 0, 0, 0, .null), (37, .getfield 41, 3, 7, 3, 216, .int 0), (40, .iconst 1, 1, 0, 0, 0, .int (nI 1)), (41, .iadd, 1, 0, 0, 0, .null), (42, .putfield 41, 3, 7, 3, 216, .int 0), (45, .aload_n 0, 1, 0, 0, 0, .null), (46, .getfield 41, 3, 7, 3, 216, .int 0), (49, .iconst 1, 1, 0, 0, 0, .int (nI 1)), (50, .isub, 1, 0, 0, 0, .null), (51, .ireturn, 1, 0, 0, 0, .null)])]
set_option maxRecDepth 100000 in
theorem okB63 : okB 63 B63 = true := by decide +kernel
/-- TelegraphHouse$Net.addJourney()V -/
def B64 : List (Nat × List EEy) := [
  (0, [(0, .aload_n 0, 1, 0, 0, 0, .null), (1, .getfield 47, 3, 7, 5, 219, .int 0), (4, .bipush 30, 2, 0, 0, 0, .int (nI 30)), (6, .if_icmp .ge 29, 3, 35, 0, 0, .null), (9, .aload_n 0, 1, 0, 0, 0, .null), (10, .getfield 23, 3, 7, 4, 218, .null), (13, .aload_n 0, 1, 0, 0, 0, .null), (14, .getfield 47, 3, 7, 5, 219, .int 0), (17, .new 21, 3, 4, 10, 0, .null), (20, .dup, 1, 0, 0, 0, .null), (21, .invokespecial 50, 3, 25, 51, 1, .ref 4), (24, .aastore, 1, 0, 0, 0, .null), (25, .aload_n 0, 1, 0, 0, 0, .null), (26, .dup, 1, 0, 0, 0, .null), (27, .getfield 47, 3, 7, 5, 219, .int 0), (30, .iconst 1, 1, 0, 0, 0, .int (nI 1)), (31, .iadd, 1, 0, 0, 0, .null), (32, .putfield 47, 3, 7, 5, 219, .int 0)]),
  (35, [(35, .return_, 1, 0, 0, 0, .null)])]
set_option maxRecDepth 100000 in
theorem okB64 : okB 64 B64 = true := by decide +kernel
/-- TelegraphHouse$Net.hasStation(I)Z -/
def B65 : List (Nat × List EEy) := [
  (0, [(0, .iload_n 1, 1, 1, 0, 0, .null), (1, .ifCond .lt 15, 3, 16, 0, 0, .null), (4, .iload_n 1, 1, 1, 0, 0, .null), (5, .aload_n 0, 1, 0, 0, 0, .null), (6, .getfield 37, 3, 7, 0, 212, .int 0), (9, .if_icmp .ge 7, 3, 16, 0, 0, .null), (12, .iconst 1, 1, 0, 0, 0, .int (nI 1)), (13, .goto 4, 3, 17, 0, 0, .null)]),
  (16, [(16, .iconst 0, 1, 0, 0, 0, .int (nI 0))]),
  (17, [(17, .ireturn, 1, 0, 0, 0, .null)])]
set_option maxRecDepth 100000 in
theorem okB65 : okB 65 B65 = true := by decide +kernel
/-- TelegraphHouse$Net.noted(II)I -/
def B66 : List (Nat × List EEy) := [
  (0, [(0, .aload_n 0, 1, 0, 0, 0, .null), (1, .iload_n 1, 1, 1, 0, 0, .null), (2, .invokevirtual 51, 3, 0, 65, 2, .ref 7), (5, .ifCond .ne 5, 3, 10, 0, 0, .null), (8, .iconst (-1), 1, 0, 0, 0, .int (-1)), (9, .ireturn, 1, 0, 0, 0, .null)]),
  (10, [(10, .iload_n 2, 1, 2, 0, 0, .null), (11, .iconst 0, 1, 0, 0, 0, .int (nI 0)), (12, .iconst 3, 1, 0, 0, 0, .int (nI 3)), (13, .invokestatic 55, 3, 4, 153, 3, .ref 11), (16, .ifCond .eq 16, 3, 32, 0, 0, .null), (19, .aload_n 0, 1, 0, 0, 0, .null), (20, .getfield 11, 3, 7, 1, 214, .null), (23, .iload_n 1, 1, 1, 0, 0, .null), (24, .iconst 4, 1, 0, 0, 0, .int (nI 4)), (25, .imul, 1, 0, 0, 0, .null), (26, .iload_n 2, 1, 2, 0, 0, .null), (27, .iadd, 1, 0, 0, 0, .null), (28, .iaload, 1, 0, 0, 0, .null), (29, .goto 5, 3, 34, 0, 0, .null)]),
  (32, [(32, .bipush (-2), 2, 0, 0, 0, .int (-2))]),
  (34, [(34, .ireturn, 1, 0, 0, 0, .null)])]
set_option maxRecDepth 100000 in
theorem okB66 : okB 66 B66 = true := by decide +kernel
/-- TelegraphHouse$Net.note(III)V -/
def B67 : List (Nat × List EEy) := [
  (0, [(0, .aload_n 0, 1, 0, 0, 0, .null), (1, .iload_n 1, 1, 1, 0, 0, .null), (2, .invokevirtual 51, 3, 0, 65, 2, .ref 7), (5, .ifCond .eq 26, 3, 31, 0, 0, .null), (8, .iload_n 2, 1, 2, 0, 0, .null), (9, .iconst 0, 1, 0, 0, 0, .int (nI 0)), (10, .iconst 3, 1, 0, 0, 0, .int (nI 3)), (11, .invokestatic 55, 3, 4, 153, 3, .ref 11), (14, .ifCond .eq 17, 3, 31, 0, 0, .null), (17, .aload_n 0, 1, 0, 0, 0, .null), (18, .getfield 11, 3, 7, 1, 214, .null), (21, .iload_n 1, 1, 1, 0, 0, .null), (22, .iconst 4, 1, 0, 0, 0, .int (nI 4)), (23, .imul, 1, 0, 0, 0, .null), (24, .iload_n 2, 1, 2, 0, 0, .null), (25, .iadd, 1, 0, 0, 0, .null), (26, .dup2, 1, 0, 0, 0, .null), (27, .iaload, 1, 0, 0, 0, .null), (28, .iload_n 3, 1, 3, 0, 0, .null), (29, .iadd, 1, 0, 0, 0, .null), (30, .iastore, 1, 0, 0, 0, .null)]),
  (31, [(31, .return_, 1, 0, 0, 0, .null)])]
set_option maxRecDepth 100000 in
theorem okB67 : okB 67 B67 = true := by decide +kernel
/-- TelegraphHouse$Net.lineAt(I)LTelegraphHouse$Line; -/
def B68 : List (Nat × List EEy) := [
  (0, [(0, .iload_n 1, 1, 1, 0, 0, .null), (1, .iconst 0, 1, 0, 0, 0, .int (nI 0)), (2, .aload_n 0, 1, 0, 0, 0, .null), (3, .getfield 41, 3, 7, 3, 216, .int 0), (6, .iconst 1, 1, 0, 0, 0, .int (nI 1)), (7, .isub, 1, 0, 0, 0, .null), (8, .invokestatic 55, 3, 4, 153, 3, .ref 11), (11, .ifCond .eq 12, 3, 23, 0, 0, .null), (14, .aload_n 0, 1, 0, 0, 0, .null), (15, .getfield 17, 3, 7, 2, 215, .null), (18, .iload_n 1, 1, 1, 0, 0, .null), (19, .aaload, 1, 0, 0, 0, .null), (20, .goto 4, 3, 24, 0, 0, .null)]),
  (23, [(23, .aconst_null, 1, 0, 0, 0, .null)]),
  (24, [(24, .areturn, 1, 0, 0, 0, .null)])]
set_option maxRecDepth 100000 in
theorem okB68 : okB 68 B68 = true := by decide +kernel
/-- TelegraphHouse$Net.journeyAt(I)LTelegraphHouse$Journey; -/
def B69 : List (Nat × List EEy) := [
  (0, [(0, .iload_n 1, 1, 1, 0, 0, .null), (1, .iconst 0, 1, 0, 0, 0, .int (nI 0)), (2, .aload_n 0, 1, 0, 0, 0, .null), (3, .getfield 47, 3, 7, 5, 219, .int 0), (6, .iconst 1, 1, 0, 0, 0, .int (nI 1)), (7, .isub, 1, 0, 0, 0, .null), (8, .invokestatic 55, 3, 4, 153, 3, .ref 11), (11, .ifCond .eq 12, 3, 23, 0, 0, .null), (14, .aload_n 0, 1, 0, 0, 0, .null), (15, .getfield 23, 3, 7, 4, 218, .null), (18, .iload_n 1, 1, 1, 0, 0, .null), (19, .aaload, 1, 0, 0, 0, .null), (20, .goto 4, 3, 24, 0, 0, .null)]),
  (23, [(23, .aconst_null, 1, 0, 0, 0, .null)]),
  (24, [(24, .areturn, 1, 0, 0, 0, .null)])]
set_option maxRecDepth 100000 in
theorem okB69 : okB 69 B69 = true := by decide +kernel
/-- TelegraphHouse$Net.wasSent(I)Z -/
def B70 : List (Nat × List EEy) := [
  (0, [(0, .aload_n 0, 1, 0, 0, 0, .null), (1, .iload_n 1, 1, 1, 0, 0, .null), (2, .invokevirtual 59, 3, 0, 69, 2, .ref 7), (5, .astore_n 2, 1, 2, 0, 0, .null), (6, .aload_n 2, 1, 2, 0, 0, .null), (7, .ifnull 14, 3, 21, 0, 0, .null), (10, .aload_n 2, 1, 2, 0, 0, .null), (11, .getfield 63, 3, 4, 2, 428, .int 0), (14, .ifCond .eq 7, 3, 21, 0, 0, .null), (17, .iconst 1, 1, 0, 0, 0, .int (nI 1)), (18, .goto 4, 3, 22, 0, 0, .null)]),
  (21, [(21, .iconst 0, 1, 0, 0, 0, .int (nI 0))]),
  (22, [(22, .ireturn, 1, 0, 0, 0, .null)])]
set_option maxRecDepth 100000 in
theorem okB70 : okB 70 B70 = true := by decide +kernel
/-- TelegraphHouse$Net.inState(I)I -/
def B71 : List (Nat × List EEy) := [
  (0, [(0, .iconst 0, 1, 0, 0, 0, .int (nI 0)), (1, .istore_n 2, 1, 2, 0, 0, .null), (2, .iconst 0, 1, 0, 0, 0, .int (nI 0)), (3, .istore_n 3, 1, 3, 0, 0, .null)]),
  (4, [(4, .iload_n 3, 1, 3, 0, 0, .null), (5, .aload_n 0, 1, 0, 0, 0, .null), (6, .getfield 47, 3, 7, 5, 219, .int 0), (9, .if_icmp .ge 33, 3, 42, 0, 0, .null), (12, .aload_n 0, 1, 0, 0, 0, .null), (13, .iload_n 3, 1, 3, 0, 0, .null), (14, .invokevirtual 59, 3, 0, 69, 2, .ref 7), (17, .astore 4, 2, 0, 0, 0, .null), (19, .aload 4, 2, 0, 0, 0, .null), (21, .ifnull 15, 3, 36, 0, 0, .null), (24, .aload 4, 2, 0, 0, 0, .null), (26, .getfield 63, 3, 4, 2, 428, .int 0), (29, .iload_n 1, 1, 1, 0, 0, .null), (30, .if_icmp .ne 6, 3, 36, 0, 0, .null), (33, .iinc 2 1, 3, 0, 0, 0, .int (nI 1))]),
  (36, [(36, .iinc 3 1, 3, 0, 0, 0, .int (nI 1)), (39, .goto (-35), 3, 4, 0, 0, .null)]),
  (42, [(42, .iload_n 2, 1, 2, 0, 0, .null), (43, .ireturn, 1, 0, 0, 0, .null)])]
set_option maxRecDepth 100000 in
theorem okB71 : okB 71 B71 = true := by decide +kernel
/-- TelegraphHouse$Net.minutesBetween(II)I -/
def B72 : List (Nat × List EEy) := [
  (0, [(0, .aload_n 0, 1, 0, 0, 0, .null), (1, .iload_n 2, 1, 2, 0, 0, .null), (2, .invokevirtual 66, 3, 0, 74, 2, .ref 7), (5, .aload_n 0, 1, 0, 0, 0, .null), (6, .iload_n 1, 1, 1, 0, 0, .null), (7, .invokevirtual 70, 3, 0, 76, 2, .ref 7), (10, .istore_n 3, 1, 3, 0, 0, .null), (11, .iload_n 3, 1, 3, 0, 0, .null), (12, .ldc 74, 2, 0, 932, 0, .int (nI 1000000)), (14, .if_icmp .ne 8, 3, 22, 0, 0, .null), (17, .bipush (-9), 2, 0, 0, 0, .int (-9)), (19, .goto 7, 3, 26, 0, 0, .null)]),
  (22, [(22, .iload_n 3, 1, 3, 0, 0, .null), (23, .bipush 16, 2, 0, 0, 0, .int (nI 16)), (25, .idiv, 1, 0, 0, 0, .null)]),
  (26, [(26, .ireturn, 1, 0, 0, 0, .null)])]
set_option maxRecDepth 100000 in
theorem okB72 : okB 72 B72 = true := by decide +kernel
/-- TelegraphHouse$Net.findRoute(II)Z -/
def B73 : List (Nat × List EEy) := [
  (0, [(0, .aload_n 0, 1, 0, 0, 0, .null), (1, .iload_n 2, 1, 2, 0, 0, .null), (2, .invokevirtual 66, 3, 0, 74, 2, .ref 7), (5, .aload_n 0, 1, 0, 0, 0, .null), (6, .getfield 33, 3, 7, 7, 221, .null), (9, .iload_n 1, 1, 1, 0, 0, .null), (10, .invokevirtual 75, 3, 0, 94, 2, .ref 8), (13, .iload_n 1, 1, 1, 0, 0, .null), (14, .istore_n 3, 1, 3, 0, 0, .null), (15, .iconst 0, 1, 0, 0, 0, .int (nI 0)), (16, .istore 4, 2, 0, 0, 0, .null)]),
  (18, [(18, .iload 4, 2, 0, 0, 0, .null), (20, .bipush 8, 2, 0, 0, 0, .int (nI 8)), (22, .if_icmp .ge 53, 3, 75, 0, 0, .null), (25, .iload_n 3, 1, 3, 0, 0, .null), (26, .iload_n 2, 1, 2, 0, 0, .null), (27, .if_icmp .eq 48, 3, 75, 0, 0, .null), (30, .aload_n 0, 1, 0, 0, 0, .null), (31, .iload_n 3, 1, 3, 0, 0, .null), (32, .invokevirtual 78, 3, 0, 78, 2, .ref 7), (35, .istore 5, 2, 0, 0, 0, .null), (37, .aload_n 0, 1, 0, 0, 0, .null), (38, .iload 5, 2, 0, 0, 0, .null), (40, .invokevirtual 81, 3, 0, 68, 2, .ref 7), (43, .astore 6, 2, 0, 0, 0, .null), (45, .aload 6, 2, 0, 0, 0, .null), (47, .ifnonnull 5, 3, 52, 0, 0, .null), (50, .iconst 0, 1, 0, 0, 0, .int (nI 0)), (51, .ireturn, 1, 0, 0, 0, .null)]),
  (52, [(52, .aload 6, 2, 0, 0, 0, .null), (54, .iload_n 3, 1, 3, 0, 0, .null), (55, .invokevirtual 85, 3, 0, 56, 2, .ref 5), (58, .istore_n 3, 1, 3, 0, 0, .null), (59, .aload_n 0, 1, 0, 0, 0, .null), (60, .getfield 33, 3, 7, 7, 221, .null), (63, .iload 5, 2, 0, 0, 0, .null), (65, .iload_n 3, 1, 3, 0, 0, .null), (66, .invokevirtual 88, 3, 0, 95, 3, .ref 8), (69, .iinc 4 1, 3, 0, 0, 0, .int (nI 1)), (72, .goto (-54), 3, 18, 0, 0, .null)]),
  (75, [(75, .iload_n 3, 1, 3, 0, 0, .null), (76, .iload_n 2, 1, 2, 0, 0, .null), (77, .if_icmp .ne 7, 3, 84, 0, 0, .null), (80, .iconst 1, 1, 0, 0, 0, .int (nI 1)), (81, .goto 4, 3, 85, 0, 0, .null)]),
  (84, [(84, .iconst 0, 1, 0, 0, 0, .int (nI 0))]),
  (85, [(85, .ireturn, 1, 0, 0, 0, .null)])]
set_option maxRecDepth 100000 in
theorem okB73 : okB 73 B73 = true := by decide +kernel
/-- TelegraphHouse$Net.findCosts(I)V -/
def B74 : List (Nat × List EEy) := [
  (0, [(0, .aload_n 0, 1, 0, 0, 0, .null), (1, .getfield 27, 3, 7, 6, 220, .null), (4, .ldc 74, 2, 0, 932, 0, .int (nI 1000000)), (6, .invokestatic 92, 3, 1, 238, 2, .ref 15), (9, .aload_n 0, 1, 0, 0, 0, .null), (10, .iload_n 1, 1, 1, 0, 0, .null), (11, .invokevirtual 51, 3, 0, 65, 2, .ref 7), (14, .ifCond .ne 4, 3, 18, 0, 0, .null), (17, .return_, 1, 0, 0, 0, .null)]),
  (18, [(18, .aload_n 0, 1, 0, 0, 0, .null), (19, .getfield 27, 3, 7, 6, 220, .null), (22, .iload_n 1, 1, 1, 0, 0, .null), (23, .iconst 0, 1, 0, 0, 0, .int (nI 0)), (24, .iastore, 1, 0, 0, 0, .null), (25, .iconst 1, 1, 0, 0, 0, .int (nI 1)), (26, .istore_n 2, 1, 2, 0, 0, .null), (27, .iconst 0, 1, 0, 0, 0, .int (nI 0)), (28, .istore_n 3, 1, 3, 0, 0, .null)]),
  (29, [(29, .iload_n 3, 1, 3, 0, 0, .null), (30, .bipush 8, 2, 0, 0, 0, .int (nI 8)), (32, .if_icmp .ge 102, 3, 134, 0, 0, .null), (35, .iload_n 2, 1, 2, 0, 0, .null), (36, .ifCond .eq 98, 3, 134, 0, 0, .null), (39, .iconst 0, 1, 0, 0, 0, .int (nI 0)), (40, .istore_n 2, 1, 2, 0, 0, .null), (41, .iconst 0, 1, 0, 0, 0, .int (nI 0)), (42, .istore 4, 2, 0, 0, 0, .null)]),
  (44, [(44, .iload 4, 2, 0, 0, 0, .null), (46, .aload_n 0, 1, 0, 0, 0, .null), (47, .getfield 41, 3, 7, 3, 216, .int 0), (50, .if_icmp .ge 78, 3, 128, 0, 0, .null), (53, .aload_n 0, 1, 0, 0, 0, .null), (54, .iload 4, 2, 0, 0, 0, .null), (56, .invokevirtual 81, 3, 0, 68, 2, .ref 7), (59, .astore 5, 2, 0, 0, 0, .null), (61, .aload 5, 2, 0, 0, 0, .null), (63, .ifnull 59, 3, 122, 0, 0, .null), (66, .aload_n 0, 1, 0, 0, 0, .null), (67, .aload 5, 2, 0, 0, 0, .null), (69, .aload 5, 2, 0, 0, 0, .null), (71, .getfield 98, 3, 5, 0, 886, .int 0), (74, .aload 5, 2, 0, 0, 0, .null), (76, .getfield 101, 3, 5, 1, 888, .int 0), (79, .invokevirtual 104, 3, 0, 75, 4, .ref 7), (82, .istore 6, 2, 0, 0, 0, .null), (84, .aload_n 0, 1, 0, 0, 0, .null), (85, .aload 5, 2, 0, 0, 0, .null), (87, .aload 5, 2, 0, 0, 0, .null), (89, .getfield 101, 3, 5, 1, 888, .int 0), (92, .aload 5, 2, 0, 0, 0, .null), (94, .getfield 98, 3, 5, 0, 886, .int 0), (97, .invokevirtual 104, 3, 0, 75, 4, .ref 7), (100, .istore 7, 2, 0, 0, 0, .null), (102, .iload_n 2, 1, 2, 0, 0, .null), (103, .ifCond .ne 13, 3, 116, 0, 0, .null), (106, .iload 6, 2, 0, 0, 0, .null), (108, .ifCond .ne 8, 3, 116, 0, 0, .null), (111, .iload 7, 2, 0, 0, 0, .null), (113, .ifCond .eq 7, 3, 120, 0, 0, .null)]),
  (116, [(116, .iconst 1, 1, 0, 0, 0, .int (nI 1)), (117, .goto 4, 3, 121, 0, 0, .null)]),
  (120, [(120, .iconst 0, 1, 0, 0, 0, .int (nI 0))]),
  (121, [(121, .istore_n 2, 1, 2, 0, 0, .null)]),
  (122, [(122, .iinc 4 1, 3, 0, 0, 0, .int (nI 1)), (125, .goto (-81), 3, 44, 0, 0, .null)]),
  (128, [(128, .iinc 3 1, 3, 0, 0, 0, .int (nI 1)), (131, .goto (-102), 3, 29, 0, 0, .null)]),
  (134, [(134, .return_, 1, 0, 0, 0, .null)])]
set_option maxRecDepth 100000 in
theorem okB74 : okB 74 B74 = true := by decide +kernel
/-- TelegraphHouse$Net.lowerCost(LTelegraphHouse$Line;II)Z -/
def B75 : List (Nat × List EEy) := [
  (0, [(0, .aload_n 0, 1, 0, 0, 0, .null), (1, .iload_n 3, 1, 3, 0, 0, .null), (2, .invokevirtual 70, 3, 0, 76, 2, .ref 7), (5, .ldc 74, 2, 0, 932, 0, .int (nI 1000000)), (7, .if_icmp .eq 11, 3, 18, 0, 0, .null), (10, .aload_n 0, 1, 0, 0, 0, .null), (11, .iload_n 2, 1, 2, 0, 0, .null), (12, .invokevirtual 51, 3, 0, 65, 2, .ref 7), (15, .ifCond .ne 5, 3, 20, 0, 0, .null)]),
  (18, [(18, .iconst 0, 1, 0, 0, 0, .int (nI 0)), (19, .ireturn, 1, 0, 0, 0, .null)]),
  (20, [(20, .aload_n 0, 1, 0, 0, 0, .null), (21, .iload_n 3, 1, 3, 0, 0, .null), (22, .invokevirtual 70, 3, 0, 76, 2, .ref 7), (25, .aload_n 1, 1, 1, 0, 0, .null), (26, .invokestatic 108, 3, 1, 77, 1, .ref 7), (29, .iadd, 1, 0, 0, 0, .null), (30, .istore 4, 2, 0, 0, 0, .null), (32, .iload 4, 2, 0, 0, 0, .null), (34, .aload_n 0, 1, 0, 0, 0, .null), (35, .getfield 27, 3, 7, 6, 220, .null), (38, .iload_n 2, 1, 2, 0, 0, .null), (39, .iaload, 1, 0, 0, 0, .null), (40, .if_icmp .lt 5, 3, 45, 0, 0, .null), (43, .iconst 0, 1, 0, 0, 0, .int (nI 0)), (44, .ireturn, 1, 0, 0, 0, .null)]),
  (45, [(45, .aload_n 0, 1, 0, 0, 0, .null), (46, .getfield 27, 3, 7, 6, 220, .null), (49, .iload_n 2, 1, 2, 0, 0, .null), (50, .iload 4, 2, 0, 0, 0, .null), (52, .iastore, 1, 0, 0, 0, .null), (53, .iconst 1, 1, 0, 0, 0, .int (nI 1)), (54, .ireturn, 1, 0, 0, 0, .null)])]
set_option maxRecDepth 100000 in
theorem okB75 : okB 75 B75 = true := by decide +kernel
/-- TelegraphHouse$Net.costOf(I)I -/
def B76 : List (Nat × List EEy) := [
  (0, [(0, .aload_n 0, 1, 0, 0, 0, .null), (1, .iload_n 1, 1, 1, 0, 0, .null), (2, .invokevirtual 51, 3, 0, 65, 2, .ref 7), (5, .ifCond .eq 12, 3, 17, 0, 0, .null), (8, .aload_n 0, 1, 0, 0, 0, .null), (9, .getfield 27, 3, 7, 6, 220, .null), (12, .iload_n 1, 1, 1, 0, 0, .null), (13, .iaload, 1, 0, 0, 0, .null), (14, .goto 5, 3, 19, 0, 0, .null)]),
  (17, [(17, .ldc 74, 2, 0, 932, 0, .int (nI 1000000))]),
  (19, [(19, .ireturn, 1, 0, 0, 0, .null)])]
set_option maxRecDepth 100000 in
theorem okB76 : okB 76 B76 = true := by decide +kernel
/-- TelegraphHouse$Net.legCost(LTelegraphHouse$Line;)I -/
def B77 : List (Nat × List EEy) := [
  (0, [(0, .aload_n 0, 1, 0, 0, 0, .null), (1, .getfield 112, 3, 5, 2, 890, .int 0), (4, .bipush 16, 2, 0, 0, 0, .int (nI 16)), (6, .imul, 1, 0, 0, 0, .null), (7, .iconst 1, 1, 0, 0, 0, .int (nI 1)), (8, .iadd, 1, 0, 0, 0, .null), (9, .ireturn, 1, 0, 0, 0, .null)])]
set_option maxRecDepth 100000 in
theorem okB77 : okB 77 B77 = true := by decide +kernel
/-- TelegraphHouse$Net.lineToward(I)I -/
def B78 : List (Nat × List EEy) := [
  (0, [(0, .bipush (-9), 2, 0, 0, 0, .int (-9)), (2, .istore_n 2, 1, 2, 0, 0, .null), (3, .bipush 8, 2, 0, 0, 0, .int (nI 8)), (5, .istore_n 3, 1, 3, 0, 0, .null), (6, .iconst 0, 1, 0, 0, 0, .int (nI 0)), (7, .istore 4, 2, 0, 0, 0, .null)]),
  (9, [(9, .iload 4, 2, 0, 0, 0, .null), (11, .aload_n 0, 1, 0, 0, 0, .null), (12, .getfield 41, 3, 7, 3, 216, .int 0), (15, .if_icmp .ge 52, 3, 67, 0, 0, .null), (18, .aload_n 0, 1, 0, 0, 0, .null), (19, .iload 4, 2, 0, 0, 0, .null), (21, .invokevirtual 81, 3, 0, 68, 2, .ref 7), (24, .astore 5, 2, 0, 0, 0, .null), (26, .aload 5, 2, 0, 0, 0, .null), (28, .ifnull 33, 3, 61, 0, 0, .null), (31, .aload_n 0, 1, 0, 0, 0, .null), (32, .aload 5, 2, 0, 0, 0, .null), (34, .iload_n 1, 1, 1, 0, 0, .null), (35, .invokevirtual 115, 3, 0, 79, 3, .ref 7), (38, .ifCond .eq 23, 3, 61, 0, 0, .null), (41, .aload 5, 2, 0, 0, 0, .null), (43, .iload_n 1, 1, 1, 0, 0, .null), (44, .invokevirtual 85, 3, 0, 56, 2, .ref 5), (47, .iload_n 3, 1, 3, 0, 0, .null), (48, .if_icmp .ge 13, 3, 61, 0, 0, .null), (51, .aload 5, 2, 0, 0, 0, .null), (53, .iload_n 1, 1, 1, 0, 0, .null), (54, .invokevirtual 85, 3, 0, 56, 2, .ref 5), (57, .istore_n 3, 1, 3, 0, 0, .null), (58, .iload 4, 2, 0, 0, 0, .null), (60, .istore_n 2, 1, 2, 0, 0, .null)]),
  (61, [(61, .iinc 4 1, 3, 0, 0, 0, .int (nI 1)), (64, .goto (-55), 3, 9, 0, 0, .null)]),
  (67, [(67, .iload_n 2, 1, 2, 0, 0, .null), (68, .ireturn, 1, 0, 0, 0, .null)])]
set_option maxRecDepth 100000 in
theorem okB78 : okB 78 B78 = true := by decide +kernel
/-- TelegraphHouse$Net.leadsOn(LTelegraphHouse$Line;I)Z -/
def B79 : List (Nat × List EEy) := [
  (0, [(0, .aload_n 1, 1, 1, 0, 0, .null), (1, .iload_n 2, 1, 2, 0, 0, .null), (2, .invokevirtual 85, 3, 0, 56, 2, .ref 5), (5, .istore_n 3, 1, 3, 0, 0, .null), (6, .aload_n 0, 1, 0, 0, 0, .null), (7, .iload_n 3, 1, 3, 0, 0, .null), (8, .invokevirtual 70, 3, 0, 76, 2, .ref 7), (11, .istore 4, 2, 0, 0, 0, .null), (13, .iload 4, 2, 0, 0, 0, .null), (15, .ldc 74, 2, 0, 932, 0, .int (nI 1000000)), (17, .if_icmp .eq 22, 3, 39, 0, 0, .null), (20, .iload 4, 2, 0, 0, 0, .null), (22, .aload_n 1, 1, 1, 0, 0, .null), (23, .invokestatic 108, 3, 1, 77, 1, .ref 7), (26, .iadd, 1, 0, 0, 0, .null), (27, .aload_n 0, 1, 0, 0, 0, .null), (28, .iload_n 2, 1, 2, 0, 0, .null), (29, .invokevirtual 70, 3, 0, 76, 2, .ref 7), (32, .if_icmp .ne 7, 3, 39, 0, 0, .null), (35, .iconst 1, 1, 0, 0, 0, .int (nI 1)), (36, .goto 4, 3, 40, 0, 0, .null)]),
  (39, [(39, .iconst 0, 1, 0, 0, 0, .int (nI 0))]),
  (40, [(40, .ireturn, 1, 0, 0, 0, .null)])]
set_option maxRecDepth 100000 in
theorem okB79 : okB 79 B79 = true := by decide +kernel
/-- TelegraphHouse$Net.dispatch(III)I -/
def B80 : List (Nat × List EEy) := [
  (0, [(0, .aload_n 0, 1, 0, 0, 0, .null), (1, .iload_n 1, 1, 1, 0, 0, .null), (2, .invokevirtual 59, 3, 0, 69, 2, .ref 7), (5, .astore 4, 2, 0, 0, 0, .null), (7, .aload 4, 2, 0, 0, 0, .null), (9, .ifnull 31, 3, 40, 0, 0, .null), (12, .aload 4, 2, 0, 0, 0, .null), (14, .iload_n 2, 1, 2, 0, 0, .null), (15, .putfield 119, 3, 4, 7, 440, .int 0), (18, .aload 4, 2, 0, 0, 0, .null), (20, .iload_n 3, 1, 3, 0, 0, .null), (21, .putfield 122, 3, 4, 9, 443, .int 0), (24, .aload_n 0, 1, 0, 0, 0, .null), (25, .dup, 1, 0, 0, 0, .null), (26, .getfield 125, 3, 7, 9, 225, .int 0), (29, .iconst 1, 1, 0, 0, 0, .int (nI 1)), (30, .iadd, 1, 0, 0, 0, .null), (31, .putfield 125, 3, 7, 9, 225, .int 0), (34, .aload_n 0, 1, 0, 0, 0, .null), (35, .aload 4, 2, 0, 0, 0, .null), (37, .invokevirtual 128, 3, 0, 81, 2, .ref 7)]),
  (40, [(40, .aload_n 0, 1, 0, 0, 0, .null), (41, .getfield 125, 3, 7, 9, 225, .int 0), (44, .ireturn, 1, 0, 0, 0, .null)])]
set_option maxRecDepth 100000 in
theorem okB80 : okB 80 B80 = true := by decide +kernel
/-- TelegraphHouse$Net.setOut(LTelegraphHouse$Journey;)V -/
def B81 : List (Nat × List EEy) := [
  (0, [(0, .aload_n 0, 1, 0, 0, 0, .null), (1, .dup, 1, 0, 0, 0, .null), (2, .getfield 132, 3, 7, 10, 226, .int 0), (5, .iconst 1, 1, 0, 0, 0, .int (nI 1)), (6, .iadd, 1, 0, 0, 0, .null), (7, .putfield 132, 3, 7, 10, 226, .int 0), (10, .aload_n 1, 1, 1, 0, 0, .null), (11, .aload_n 0, 1, 0, 0, 0, .null), (12, .getfield 132, 3, 7, 10, 226, .int 0), (15, .putfield 135, 3, 4, 8, 442, .int 0), (18, .aload_n 1, 1, 1, 0, 0, .null), (19, .getfield 138, 3, 4, 0, 425, .null), (22, .aload_n 0, 1, 0, 0, 0, .null), (23, .getfield 33, 3, 7, 7, 221, .null), (26, .invokevirtual 139, 3, 0, 98, 2, .ref 8), (29, .aload_n 1, 1, 1, 0, 0, .null), (30, .iconst 0, 1, 0, 0, 0, .int (nI 0)), (31, .putfield 143, 3, 4, 1, 426, .int 0), (34, .aload_n 1, 1, 1, 0, 0, .null), (35, .getfield 138, 3, 4, 0, 425, .null), (38, .iconst 0, 1, 0, 0, 0, .int (nI 0)), (39, .invokevirtual 146, 3, 0, 96, 2, .ref 8), (42, .istore_n 2, 1, 2, 0, 0, .null), (43, .aload_n 0, 1, 0, 0, 0, .null), (44, .iload_n 2, 1, 2, 0, 0, .null), (45, .iconst 0, 1, 0, 0, 0, .int (nI 0)), (46, .iconst 1, 1, 0, 0, 0, .int (nI 1)), (47, .invokevirtual 149, 3, 0, 67, 4, .ref 7), (50, .aload_n 0, 1, 0, 0, 0, .null), (51, .iload_n 2, 1, 2, 0, 0, .null), (52, .iconst 2, 1, 0, 0, 0, .int (nI 2)), (53, .aload_n 1, 1, 1, 0, 0, .null), (54, .getfield 122, 3, 4, 9, 443, .int 0), (57, .invokevirtual 149, 3, 0, 67, 4, .ref 7), (60, .aload_n 0, 1, 0, 0, 0, .null), (61, .aload_n 1, 1, 1, 0, 0, .null), (62, .invokevirtual 153, 3, 0, 82, 2, .ref 7), (65, .return_, 1, 0, 0, 0, .null)])]
set_option maxRecDepth 100000 in
theorem okB81 : okB 81 B81 = true := by decide +kernel
/-- TelegraphHouse$Net.beginWait(LTelegraphHouse$Journey;)V -/
def B82 : List (Nat × List EEy) := [
  (0, [(0, .aload_n 1, 1, 1, 0, 0, .null), (1, .iconst 1, 1, 0, 0, 0, .int (nI 1)), (2, .putfield 63, 3, 4, 2, 428, .int 0), (5, .aload_n 1, 1, 1, 0, 0, .null), (6, .aload_n 1, 1, 1, 0, 0, .null), (7, .getfield 138, 3, 4, 0, 425, .null), (10, .aload_n 1, 1, 1, 0, 0, .null), (11, .getfield 143, 3, 4, 1, 426, .int 0), (14, .invokevirtual 146, 3, 0, 96, 2, .ref 8), (17, .putfield 156, 3, 4, 3, 431, .int 0), (20, .aload_n 0, 1, 0, 0, 0, .null), (21, .aload_n 1, 1, 1, 0, 0, .null), (22, .getfield 138, 3, 4, 0, 425, .null), (25, .aload_n 1, 1, 1, 0, 0, .null), (26, .getfield 143, 3, 4, 1, 426, .int 0), (29, .invokevirtual 159, 3, 0, 97, 2, .ref 8), (32, .invokevirtual 81, 3, 0, 68, 2, .ref 7), (35, .astore_n 2, 1, 2, 0, 0, .null), (36, .aload_n 2, 1, 2, 0, 0, .null), (37, .ifnull 20, 3, 57, 0, 0, .null), (40, .aload_n 2, 1, 2, 0, 0, .null), (41, .getfield 162, 3, 5, 5, 894, .null), (44, .aload_n 2, 1, 2, 0, 0, .null), (45, .aload_n 1, 1, 1, 0, 0, .null), (46, .getfield 156, 3, 4, 3, 431, .int 0), (49, .invokevirtual 165, 3, 0, 57, 2, .ref 5), (52, .dup2, 1, 0, 0, 0, .null), (53, .iaload, 1, 0, 0, 0, .null), (54, .iconst 1, 1, 0, 0, 0, .int (nI 1)), (55, .iadd, 1, 0, 0, 0, .null), (56, .iastore, 1, 0, 0, 0, .null)]),
  (57, [(57, .return_, 1, 0, 0, 0, .null)])]
set_option maxRecDepth 100000 in
theorem okB82 : okB 82 B82 = true := by decide +kernel
/-- TelegraphHouse$Net.askFor(I)I -/
def B83 : List (Nat × List EEy) := [
  (0, [(0, .iconst 0, 1, 0, 0, 0, .int (nI 0)), (1, .istore_n 2, 1, 2, 0, 0, .null), (2, .iconst 0, 1, 0, 0, 0, .int (nI 0)), (3, .istore_n 3, 1, 3, 0, 0, .null)]),
  (4, [(4, .iload_n 3, 1, 3, 0, 0, .null), (5, .aload_n 0, 1, 0, 0, 0, .null), (6, .getfield 47, 3, 7, 5, 219, .int 0), (9, .if_icmp .ge 76, 3, 85, 0, 0, .null), (12, .aload_n 0, 1, 0, 0, 0, .null), (13, .iload_n 3, 1, 3, 0, 0, .null), (14, .invokevirtual 59, 3, 0, 69, 2, .ref 7), (17, .astore 4, 2, 0, 0, 0, .null), (19, .aload 4, 2, 0, 0, 0, .null), (21, .ifnull 58, 3, 79, 0, 0, .null), (24, .aload 4, 2, 0, 0, 0, .null), (26, .getfield 63, 3, 4, 2, 428, .int 0), (29, .iconst 4, 1, 0, 0, 0, .int (nI 4)), (30, .if_icmp .ne 49, 3, 79, 0, 0, .null), (33, .aload 4, 2, 0, 0, 0, .null), (35, .getfield 138, 3, 4, 0, 425, .null), (38, .aload 4, 2, 0, 0, 0, .null), (40, .getfield 138, 3, 4, 0, 425, .null), (43, .getfield 168, 3, 8, 2, 204, .int 0), (46, .invokevirtual 146, 3, 0, 96, 2, .ref 8), (49, .iload_n 1, 1, 1, 0, 0, .null), (50, .if_icmp .ne 29, 3, 79, 0, 0, .null), (53, .aload_n 0, 1, 0, 0, 0, .null), (54, .aload 4, 2, 0, 0, 0, .null), (56, .getfield 138, 3, 4, 0, 425, .null), (59, .iconst 0, 1, 0, 0, 0, .int (nI 0)), (60, .invokevirtual 146, 3, 0, 96, 2, .ref 8), (63, .iload_n 1, 1, 1, 0, 0, .null), (64, .invokevirtual 171, 3, 0, 73, 3, .ref 7), (67, .ifCond .eq 12, 3, 79, 0, 0, .null), (70, .aload_n 0, 1, 0, 0, 0, .null), (71, .aload 4, 2, 0, 0, 0, .null), (73, .invokevirtual 128, 3, 0, 81, 2, .ref 7), (76, .iinc 2 1, 3, 0, 0, 0, .int (nI 1))]),
  (79, [(79, .iinc 3 1, 3, 0, 0, 0, .int (nI 1)), (82, .goto (-78), 3, 4, 0, 0, .null)]),
  (85, [(85, .iload_n 2, 1, 2, 0, 0, .null), (86, .ireturn, 1, 0, 0, 0, .null)])]
set_option maxRecDepth 100000 in
theorem okB83 : okB 83 B83 = true := by decide +kernel
/-- TelegraphHouse$Net.passMinute()I -/
def B84 : List (Nat × List EEy) := [
  (0, [(0, .iconst 0, 1, 0, 0, 0, .int (nI 0)), (1, .istore_n 1, 1, 1, 0, 0, .null), (2, .iconst 0, 1, 0, 0, 0, .int (nI 0)), (3, .istore_n 2, 1, 2, 0, 0, .null)]),
  (4, [(4, .iload_n 2, 1, 2, 0, 0, .null), (5, .aload_n 0, 1, 0, 0, 0, .null), (6, .getfield 41, 3, 7, 3, 216, .int 0), (9, .if_icmp .ge 44, 3, 53, 0, 0, .null), (12, .aload_n 0, 1, 0, 0, 0, .null), (13, .iload_n 2, 1, 2, 0, 0, .null), (14, .invokevirtual 81, 3, 0, 68, 2, .ref 7), (17, .astore_n 3, 1, 3, 0, 0, .null), (18, .iconst 0, 1, 0, 0, 0, .int (nI 0)), (19, .istore 4, 2, 0, 0, 0, .null)]),
  (21, [(21, .iload 4, 2, 0, 0, 0, .null), (23, .iconst 2, 1, 0, 0, 0, .int (nI 2)), (24, .if_icmp .ge 23, 3, 47, 0, 0, .null), (27, .aload_n 3, 1, 3, 0, 0, .null), (28, .ifnull 19, 3, 47, 0, 0, .null), (31, .iload_n 1, 1, 1, 0, 0, .null), (32, .aload_n 0, 1, 0, 0, 0, .null), (33, .aload_n 3, 1, 3, 0, 0, .null), (34, .iload 4, 2, 0, 0, 0, .null), (36, .invokevirtual 175, 3, 0, 85, 3, .ref 7), (39, .iadd, 1, 0, 0, 0, .null), (40, .istore_n 1, 1, 1, 0, 0, .null), (41, .iinc 4 1, 3, 0, 0, 0, .int (nI 1)), (44, .goto (-23), 3, 21, 0, 0, .null)]),
  (47, [(47, .iinc 2 1, 3, 0, 0, 0, .int (nI 1)), (50, .goto (-46), 3, 4, 0, 0, .null)]),
  (53, [(53, .aload_n 0, 1, 0, 0, 0, .null), (54, .getfield 179, 3, 7, 8, 223, .int 0), (57, .bipush 60, 2, 0, 0, 0, .int (nI 60)), (59, .idiv, 1, 0, 0, 0, .null), (60, .bipush 24, 2, 0, 0, 0, .int (nI 24)), (62, .irem, 1, 0, 0, 0, .null), (63, .istore_n 2, 1, 2, 0, 0, .null), (64, .iconst 0, 1, 0, 0, 0, .int (nI 0)), (65, .istore_n 3, 1, 3, 0, 0, .null)]),
  (66, [(66, .iload_n 3, 1, 3, 0, 0, .null), (67, .aload_n 0, 1, 0, 0, 0, .null), (68, .getfield 41, 3, 7, 3, 216, .int 0), (71, .if_icmp .ge 54, 3, 125, 0, 0, .null), (74, .aload_n 0, 1, 0, 0, 0, .null), (75, .iload_n 3, 1, 3, 0, 0, .null), (76, .invokevirtual 81, 3, 0, 68, 2, .ref 7), (79, .astore 4, 2, 0, 0, 0, .null), (81, .iconst 0, 1, 0, 0, 0, .int (nI 0)), (82, .istore 5, 2, 0, 0, 0, .null)]),
  (84, [(84, .iload 5, 2, 0, 0, 0, .null), (86, .iconst 2, 1, 0, 0, 0, .int (nI 2)), (87, .if_icmp .ge 32, 3, 119, 0, 0, .null), (90, .aload 4, 2, 0, 0, 0, .null), (92, .ifnull 27, 3, 119, 0, 0, .null), (95, .aload 4, 2, 0, 0, 0, .null), (97, .iload_n 2, 1, 2, 0, 0, .null), (98, .invokevirtual 182, 3, 0, 55, 2, .ref 5), (101, .ifCond .eq 18, 3, 119, 0, 0, .null), (104, .aload_n 0, 1, 0, 0, 0, .null), (105, .iload_n 3, 1, 3, 0, 0, .null), (106, .aload 4, 2, 0, 0, 0, .null), (108, .iload 5, 2, 0, 0, 0, .null), (110, .invokevirtual 185, 3, 0, 88, 4, .ref 7), (113, .iinc 5 1, 3, 0, 0, 0, .int (nI 1)), (116, .goto (-32), 3, 84, 0, 0, .null)]),
  (119, [(119, .iinc 3 1, 3, 0, 0, 0, .int (nI 1)), (122, .goto (-56), 3, 66, 0, 0, .null)]),
  (125, [(125, .aload_n 0, 1, 0, 0, 0, .null), (126, .dup, 1, 0, 0, 0, .null), (127, .getfield 179, 3, 7, 8, 223, .int 0), (130, .iconst 1, 1, 0, 0, 0, .int (nI 1)), (131, .iadd, 1, 0, 0, 0, .null), (132, .putfield 179, 3, 7, 8, 223, .int 0), (135, .iload_n 1, 1, 1, 0, 0, .null), (136, .ireturn, 1, 0, 0, 0, .null)])]
set_option maxRecDepth 100000 in
theorem okB84 : okB 84 B84 = true := by decide +kernel
/-- TelegraphHouse$Net.endRun(LTelegraphHouse$Line;I)I -/
def B85 : List (Nat × List EEy) := [
  (0, [(0, .aload_n 0, 1, 0, 0, 0, .null), (1, .aload_n 1, 1, 1, 0, 0, .null), (2, .getfield 189, 3, 5, 6, 896, .null), (5, .iload_n 2, 1, 2, 0, 0, .null), (6, .iaload, 1, 0, 0, 0, .null), (7, .invokevirtual 59, 3, 0, 69, 2, .ref 7), (10, .astore_n 3, 1, 3, 0, 0, .null), (11, .aload_n 3, 1, 3, 0, 0, .null), (12, .ifnull 16, 3, 28, 0, 0, .null), (15, .aload_n 1, 1, 1, 0, 0, .null), (16, .getfield 192, 3, 5, 7, 898, .null), (19, .iload_n 2, 1, 2, 0, 0, .null), (20, .iaload, 1, 0, 0, 0, .null), (21, .aload_n 0, 1, 0, 0, 0, .null), (22, .getfield 179, 3, 7, 8, 223, .int 0), (25, .if_icmp .eq 5, 3, 30, 0, 0, .null)]),
  (28, [(28, .iconst 0, 1, 0, 0, 0, .int (nI 0)), (29, .ireturn, 1, 0, 0, 0, .null)]),
  (30, [(30, .aload_n 1, 1, 1, 0, 0, .null), (31, .getfield 189, 3, 5, 6, 896, .null), (34, .iload_n 2, 1, 2, 0, 0, .null), (35, .bipush (-9), 2, 0, 0, 0, .int (-9)), (37, .iastore, 1, 0, 0, 0, .null), (38, .aload_n 3, 1, 3, 0, 0, .null), (39, .getfield 195, 3, 4, 6, 438, .float 0), (42, .ifCond .eq 10, 3, 52, 0, 0, .null), (45, .aload_n 0, 1, 0, 0, 0, .null), (46, .aload_n 3, 1, 3, 0, 0, .null), (47, .invokevirtual 199, 3, 0, 86, 2, .ref 7), (50, .iconst 0, 1, 0, 0, 0, .int (nI 0)), (51, .ireturn, 1, 0, 0, 0, .null)]),
  (52, [(52, .aload_n 3, 1, 3, 0, 0, .null), (53, .dup, 1, 0, 0, 0, .null), (54, .getfield 143, 3, 4, 1, 426, .int 0), (57, .iconst 1, 1, 0, 0, 0, .int (nI 1)), (58, .iadd, 1, 0, 0, 0, .null), (59, .putfield 143, 3, 4, 1, 426, .int 0), (62, .aload_n 3, 1, 3, 0, 0, .null), (63, .getfield 143, 3, 4, 1, 426, .int 0), (66, .aload_n 3, 1, 3, 0, 0, .null), (67, .getfield 138, 3, 4, 0, 425, .null), (70, .getfield 168, 3, 8, 2, 204, .int 0), (73, .if_icmp .ge 10, 3, 83, 0, 0, .null), (76, .aload_n 0, 1, 0, 0, 0, .null), (77, .aload_n 3, 1, 3, 0, 0, .null), (78, .invokevirtual 153, 3, 0, 82, 2, .ref 7), (81, .iconst 0, 1, 0, 0, 0, .int (nI 0)), (82, .ireturn, 1, 0, 0, 0, .null)]),
  (83, [(83, .aload_n 0, 1, 0, 0, 0, .null), (84, .aload_n 3, 1, 3, 0, 0, .null), (85, .invokevirtual 202, 3, 0, 87, 2, .ref 7), (88, .iconst 1, 1, 0, 0, 0, .int (nI 1)), (89, .ireturn, 1, 0, 0, 0, .null)])]
set_option maxRecDepth 100000 in
theorem okB85 : okB 85 B85 = true := by decide +kernel
/-- TelegraphHouse$Net.beLost(LTelegraphHouse$Journey;)V -/
def B86 : List (Nat × List EEy) := [
  (0, [(0, .aload_n 1, 1, 1, 0, 0, .null), (1, .iconst 0, 1, 0, 0, 0, .int (nI 0)), (2, .putfield 195, 3, 4, 6, 438, .float 0), (5, .aload_n 1, 1, 1, 0, 0, .null), (6, .iconst 4, 1, 0, 0, 0, .int (nI 4)), (7, .putfield 63, 3, 4, 2, 428, .int 0), (10, .aload_n 1, 1, 1, 0, 0, .null), (11, .dup, 1, 0, 0, 0, .null), (12, .getfield 205, 3, 4, 5, 436, .int 0), (15, .iconst 1, 1, 0, 0, 0, .int (nI 1)), (16, .iadd, 1, 0, 0, 0, .null), (17, .putfield 205, 3, 4, 5, 436, .int 0), (20, .return_, 1, 0, 0, 0, .null)])]
set_option maxRecDepth 100000 in
theorem okB86 : okB 86 B86 = true := by decide +kernel
/-- TelegraphHouse$Net.arrive(LTelegraphHouse$Journey;)V -/
def B87 : List (Nat × List EEy) := [
  (0, [(0, .aload_n 1, 1, 1, 0, 0, .null), (1, .iconst 3, 1, 0, 0, 0, .int (nI 3)), (2, .putfield 63, 3, 4, 2, 428, .int 0), (5, .aload_n 1, 1, 1, 0, 0, .null), (6, .aload_n 1, 1, 1, 0, 0, .null), (7, .getfield 138, 3, 4, 0, 425, .null), (10, .aload_n 1, 1, 1, 0, 0, .null), (11, .getfield 143, 3, 4, 1, 426, .int 0), (14, .invokevirtual 146, 3, 0, 96, 2, .ref 8), (17, .putfield 156, 3, 4, 3, 431, .int 0), (20, .aload_n 1, 1, 1, 0, 0, .null), (21, .aload_n 0, 1, 0, 0, 0, .null), (22, .getfield 179, 3, 7, 8, 223, .int 0), (25, .putfield 208, 3, 4, 4, 434, .int 0), (28, .aload_n 0, 1, 0, 0, 0, .null), (29, .aload_n 1, 1, 1, 0, 0, .null), (30, .getfield 156, 3, 4, 3, 431, .int 0), (33, .iconst 1, 1, 0, 0, 0, .int (nI 1)), (34, .iconst 1, 1, 0, 0, 0, .int (nI 1)), (35, .invokevirtual 149, 3, 0, 67, 4, .ref 7), (38, .return_, 1, 0, 0, 0, .null)])]
set_option maxRecDepth 100000 in
theorem okB87 : okB 87 B87 = true := by decide +kernel
/-- TelegraphHouse$Net.beginRun(ILTelegraphHouse$Line;I)V -/
def B88 : List (Nat × List EEy) := [
  (0, [(0, .aload_n 2, 1, 2, 0, 0, .null), (1, .getfield 162, 3, 5, 5, 894, .null), (4, .iload_n 3, 1, 3, 0, 0, .null), (5, .iaload, 1, 0, 0, 0, .null), (6, .ifCond .eq 14, 3, 20, 0, 0, .null), (9, .aload_n 2, 1, 2, 0, 0, .null), (10, .getfield 189, 3, 5, 6, 896, .null), (13, .iload_n 3, 1, 3, 0, 0, .null), (14, .iaload, 1, 0, 0, 0, .null), (15, .bipush (-9), 2, 0, 0, 0, .int (-9)), (17, .if_icmp .eq 4, 3, 21, 0, 0, .null)]),
  (20, [(20, .return_, 1, 0, 0, 0, .null)]),
  (21, [(21, .aload_n 2, 1, 2, 0, 0, .null), (22, .iload_n 3, 1, 3, 0, 0, .null), (23, .invokevirtual 211, 3, 0, 58, 2, .ref 5), (26, .istore 4, 2, 0, 0, 0, .null), (28, .aload_n 0, 1, 0, 0, 0, .null), (29, .iload_n 1, 1, 1, 0, 0, .null), (30, .iload 4, 2, 0, 0, 0, .null), (32, .invokevirtual 214, 3, 0, 89, 3, .ref 7), (35, .istore 5, 2, 0, 0, 0, .null), (37, .aload_n 0, 1, 0, 0, 0, .null), (38, .iload 5, 2, 0, 0, 0, .null), (40, .invokevirtual 59, 3, 0, 69, 2, .ref 7), (43, .astore 6, 2, 0, 0, 0, .null), (45, .aload 6, 2, 0, 0, 0, .null), (47, .ifnonnull 4, 3, 51, 0, 0, .null), (50, .return_, 1, 0, 0, 0, .null)]),
  (51, [(51, .aload_n 2, 1, 2, 0, 0, .null), (52, .getfield 162, 3, 5, 5, 894, .null), (55, .iload_n 3, 1, 3, 0, 0, .null), (56, .dup2, 1, 0, 0, 0, .null), (57, .iaload, 1, 0, 0, 0, .null), (58, .iconst 1, 1, 0, 0, 0, .int (nI 1)), (59, .isub, 1, 0, 0, 0, .null), (60, .iastore, 1, 0, 0, 0, .null), (61, .aload_n 2, 1, 2, 0, 0, .null), (62, .getfield 189, 3, 5, 6, 896, .null), (65, .iload_n 3, 1, 3, 0, 0, .null), (66, .iload 5, 2, 0, 0, 0, .null), (68, .iastore, 1, 0, 0, 0, .null), (69, .aload_n 2, 1, 2, 0, 0, .null), (70, .getfield 192, 3, 5, 7, 898, .null), (73, .iload_n 3, 1, 3, 0, 0, .null), (74, .aload_n 0, 1, 0, 0, 0, .null), (75, .getfield 179, 3, 7, 8, 223, .int 0), (78, .aload_n 2, 1, 2, 0, 0, .null), (79, .getfield 112, 3, 5, 2, 890, .int 0), (82, .iadd, 1, 0, 0, 0, .null), (83, .iastore, 1, 0, 0, 0, .null), (84, .aload_n 2, 1, 2, 0, 0, .null), (85, .getfield 218, 3, 5, 8, 899, .int 0), (88, .ifCond .le 19, 3, 107, 0, 0, .null), (91, .aload_n 2, 1, 2, 0, 0, .null), (92, .dup, 1, 0, 0, 0, .null), (93, .getfield 218, 3, 5, 8, 899, .int 0), (96, .iconst 1, 1, 0, 0, 0, .int (nI 1)), (97, .isub, 1, 0, 0, 0, .null), (98, .putfield 218, 3, 5, 8, 899, .int 0), (101, .aload 6, 2, 0, 0, 0, .null), (103, .iconst 1, 1, 0, 0, 0, .int (nI 1)), (104, .putfield 195, 3, 4, 6, 438, .float 0)]),
  (107, [(107, .aload 6, 2, 0, 0, 0, .null), (109, .iconst 2, 1, 0, 0, 0, .int (nI 2)), (110, .putfield 63, 3, 4, 2, 428, .int 0), (113, .aload 6, 2, 0, 0, 0, .null), (115, .iload_n 1, 1, 1, 0, 0, .null), (116, .putfield 156, 3, 4, 3, 431, .int 0), (119, .aload_n 0, 1, 0, 0, 0, .null), (120, .iload 4, 2, 0, 0, 0, .null), (122, .iconst 3, 1, 0, 0, 0, .int (nI 3)), (123, .iconst 1, 1, 0, 0, 0, .int (nI 1)), (124, .invokevirtual 149, 3, 0, 67, 4, .ref 7), (127, .return_, 1, 0, 0, 0, .null)])]
set_option maxRecDepth 100000 in
theorem okB88 : okB 88 B88 = true := by decide +kernel
/-- TelegraphHouse$Net.nextFor(II)I -/
def B89 : List (Nat × List EEy) := [
  (0, [(0, .bipush (-9), 2, 0, 0, 0, .int (-9)), (2, .istore_n 3, 1, 3, 0, 0, .null), (3, .iconst 0, 1, 0, 0, 0, .int (nI 0)), (4, .istore 4, 2, 0, 0, 0, .null)]),
  (6, [(6, .iload 4, 2, 0, 0, 0, .null), (8, .aload_n 0, 1, 0, 0, 0, .null), (9, .getfield 47, 3, 7, 5, 219, .int 0), (12, .if_icmp .ge 61, 3, 73, 0, 0, .null), (15, .aload_n 0, 1, 0, 0, 0, .null), (16, .iload 4, 2, 0, 0, 0, .null), (18, .invokevirtual 59, 3, 0, 69, 2, .ref 7), (21, .astore 5, 2, 0, 0, 0, .null), (23, .aload 5, 2, 0, 0, 0, .null), (25, .ifnull 42, 3, 67, 0, 0, .null), (28, .aload 5, 2, 0, 0, 0, .null), (30, .iload_n 2, 1, 2, 0, 0, .null), (31, .invokevirtual 221, 3, 0, 52, 2, .ref 4), (34, .ifCond .eq 33, 3, 67, 0, 0, .null), (37, .aload 5, 2, 0, 0, 0, .null), (39, .getfield 138, 3, 4, 0, 425, .null), (42, .aload 5, 2, 0, 0, 0, .null), (44, .getfield 143, 3, 4, 1, 426, .int 0), (47, .invokevirtual 159, 3, 0, 97, 2, .ref 8), (50, .iload_n 1, 1, 1, 0, 0, .null), (51, .if_icmp .ne 16, 3, 67, 0, 0, .null), (54, .aload_n 0, 1, 0, 0, 0, .null), (55, .aload 5, 2, 0, 0, 0, .null), (57, .iload_n 3, 1, 3, 0, 0, .null), (58, .invokevirtual 224, 3, 0, 90, 3, .ref 7), (61, .ifCond .eq 6, 3, 67, 0, 0, .null), (64, .iload 4, 2, 0, 0, 0, .null), (66, .istore_n 3, 1, 3, 0, 0, .null)]),
  (67, [(67, .iinc 4 1, 3, 0, 0, 0, .int (nI 1)), (70, .goto (-64), 3, 6, 0, 0, .null)]),
  (73, [(73, .iload_n 3, 1, 3, 0, 0, .null), (74, .ireturn, 1, 0, 0, 0, .null)])]
set_option maxRecDepth 100000 in
theorem okB89 : okB 89 B89 = true := by decide +kernel
