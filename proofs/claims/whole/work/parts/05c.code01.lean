/-! the code, 1 -/
/-- TelegraphHouse$Expander.withGroup(JLTelegraphHouse$Form;II)J -/
def B26 : List (Nat × List EEy) := [
  (0, [(0, .lload_n 1, 1, 1, 0, 0, .null), (1, .lstore 6, 2, 0, 0, 0, .null), (3, .iconst 1, 1, 0, 0, 0, .int (nI 1)), (4, .istore 8, 2, 0, 0, 0, .null)]),
  (6, [(6, .iload 8, 2, 0, 0, 0, .null), (8, .iconst 5, 1, 0, 0, 0, .int (nI 5)), (9, .if_icmp .ge 47, 3, 56, 0, 0, .null), (12, .iload 4, 2, 0, 0, 0, .null), (14, .iload 8, 2, 0, 0, 0, .null), (16, .invokestatic 113, 3, 1, 39, 2, .ref 3), (19, .iconst 0, 1, 0, 0, 0, .int (nI 0)), (20, .iload 5, 2, 0, 0, 0, .null), (22, .iconst 1, 1, 0, 0, 0, .int (nI 1)), (23, .isub, 1, 0, 0, 0, .null), (24, .invokestatic 101, 3, 4, 153, 3, .ref 11), (27, .ifCond .eq 23, 3, 50, 0, 0, .null), (30, .lload 6, 2, 0, 0, 0, .null), (32, .aload_n 3, 1, 3, 0, 0, .null), (33, .aload_n 0, 1, 0, 0, 0, .null), (34, .getfield 9, 3, 2, 0, 175, .int 0), (37, .iload 4, 2, 0, 0, 0, .null), (39, .iadd, 1, 0, 0, 0, .null), (40, .iload 8, 2, 0, 0, 0, .null), (42, .invokevirtual 40, 3, 0, 31, 3, .ref 3), (45, .invokestatic 116, 3, 4, 157, 2, .ref 11), (48, .lstore 6, 2, 0, 0, 0, .null)]),
  (50, [(50, .iinc 8 1, 3, 0, 0, 0, .int (nI 1)), (53, .goto (-47), 3, 6, 0, 0, .null)]),
  (56, [(56, .lload 6, 2, 0, 0, 0, .null), (58, .lreturn, 1, 0, 0, 0, .null)])]
set_option maxRecDepth 100000 in
theorem okB26 : okB 26 B26 = true := by decide +kernel
/-- TelegraphHouse$Form.<init>()V -/
def B27 : List (Nat × List EEy) := [
  (0, [(0, .aload_n 0, 1, 0, 0, 0, .null), (1, .invokespecial 3, 3, 14, 345, 0, .null), (4, .aload_n 0, 1, 0, 0, 0, .null), (5, .sipush 400, 3, 0, 0, 0, .int (nI 400)), (8, .newarray .int, 2, 14, 128, 0, .null), (10, .putfield 9, 3, 3, 0, 346, .null), (13, .aload_n 0, 1, 0, 0, 0, .null), (14, .bipush (-9), 2, 0, 0, 0, .int (-9)), (16, .putfield 15, 3, 3, 2, 351, .int 0), (19, .aload_n 0, 1, 0, 0, 0, .null), (20, .bipush 20, 2, 0, 0, 0, .int (nI 20)), (22, .newarray .int, 2, 14, 128, 0, .null), (24, .putfield 19, 3, 3, 3, 353, .null), (27, .aload_n 0, 1, 0, 0, 0, .null), (28, .bipush 20, 2, 0, 0, 0, .int (nI 20)), (30, .newarray .int, 2, 14, 128, 0, .null), (32, .putfield 22, 3, 3, 4, 355, .null), (35, .aload_n 0, 1, 0, 0, 0, .null), (36, .bipush 20, 2, 0, 0, 0, .int (nI 20)), (38, .newarray .int, 2, 14, 128, 0, .null), (40, .putfield 25, 3, 3, 5, 357, .null), (43, .aload_n 0, 1, 0, 0, 0, .null), (44, .bipush 10, 2, 0, 0, 0, .int (nI 10)), (46, .newarray .int, 2, 14, 128, 0, .null), (48, .putfield 28, 3, 3, 7, 361, .null), (51, .aload_n 0, 1, 0, 0, 0, .null), (52, .bipush 10, 2, 0, 0, 0, .int (nI 10)), (54, .newarray .int, 2, 14, 128, 0, .null), (56, .putfield 31, 3, 3, 8, 363, .null), (59, .aload_n 0, 1, 0, 0, 0, .null), (60, .bipush 10, 2, 0, 0, 0, .int (nI 10)), (62, .newarray .int, 2, 14, 128, 0, .null), (64, .putfield 34, 3, 3, 9, 365, .null), (67, .return_, 1, 0, 0, 0, .null)])]
set_option maxRecDepth 100000 in
theorem okB27 : okB 27 B27 = true := by decide +kernel
/-- TelegraphHouse$Form.restart(I)V -/
def B28 : List (Nat × List EEy) := [
  (0, [(0, .aload_n 0, 1, 0, 0, 0, .null), (1, .iload_n 1, 1, 1, 0, 0, .null), (2, .putfield 15, 3, 3, 2, 351, .int 0), (5, .aload_n 0, 1, 0, 0, 0, .null), (6, .iconst 0, 1, 0, 0, 0, .int (nI 0)), (7, .putfield 37, 3, 3, 1, 348, .int 0), (10, .aload_n 0, 1, 0, 0, 0, .null), (11, .iconst 0, 1, 0, 0, 0, .int (nI 0)), (12, .putfield 40, 3, 3, 6, 359, .int 0), (15, .aload_n 0, 1, 0, 0, 0, .null), (16, .iconst 0, 1, 0, 0, 0, .int (nI 0)), (17, .putfield 43, 3, 3, 10, 367, .int 0), (20, .return_, 1, 0, 0, 0, .null)])]
set_option maxRecDepth 100000 in
theorem okB28 : okB 28 B28 = true := by decide +kernel
/-- TelegraphHouse$Form.hasGroup(I)Z -/
def B29 : List (Nat × List EEy) := [
  (0, [(0, .iload_n 1, 1, 1, 0, 0, .null), (1, .iconst 0, 1, 0, 0, 0, .int (nI 0)), (2, .aload_n 0, 1, 0, 0, 0, .null), (3, .getfield 37, 3, 3, 1, 348, .int 0), (6, .iconst 1, 1, 0, 0, 0, .int (nI 1)), (7, .isub, 1, 0, 0, 0, .null), (8, .invokestatic 46, 3, 4, 153, 3, .ref 11), (11, .ireturn, 1, 0, 0, 0, .null)])]
set_option maxRecDepth 100000 in
theorem okB29 : okB 29 B29 = true := by decide +kernel
/-- TelegraphHouse$Form.hasBlock(I)Z -/
def B30 : List (Nat × List EEy) := [
  (0, [(0, .iload_n 1, 1, 1, 0, 0, .null), (1, .iconst 0, 1, 0, 0, 0, .int (nI 0)), (2, .aload_n 0, 1, 0, 0, 0, .null), (3, .getfield 43, 3, 3, 10, 367, .int 0), (6, .iconst 1, 1, 0, 0, 0, .int (nI 1)), (7, .isub, 1, 0, 0, 0, .null), (8, .invokestatic 46, 3, 4, 153, 3, .ref 11), (11, .ireturn, 1, 0, 0, 0, .null)])]
set_option maxRecDepth 100000 in
theorem okB30 : okB 30 B30 = true := by decide +kernel
/-- TelegraphHouse$Form.letterAt(II)I -/
def B31 : List (Nat × List EEy) := [
  (0, [(0, .iload_n 1, 1, 1, 0, 0, .null), (1, .iconst 5, 1, 0, 0, 0, .int (nI 5)), (2, .imul, 1, 0, 0, 0, .null), (3, .iload_n 2, 1, 2, 0, 0, .null), (4, .iadd, 1, 0, 0, 0, .null), (5, .istore_n 3, 1, 3, 0, 0, .null), (6, .iload_n 3, 1, 3, 0, 0, .null), (7, .ifCond .lt 21, 3, 28, 0, 0, .null), (10, .iload_n 3, 1, 3, 0, 0, .null), (11, .aload_n 0, 1, 0, 0, 0, .null), (12, .getfield 9, 3, 3, 0, 346, .null), (15, .arraylength, 1, 0, 0, 0, .null), (16, .if_icmp .ge 12, 3, 28, 0, 0, .null), (19, .aload_n 0, 1, 0, 0, 0, .null), (20, .getfield 9, 3, 3, 0, 346, .null), (23, .iload_n 3, 1, 3, 0, 0, .null), (24, .iaload, 1, 0, 0, 0, .null), (25, .goto 4, 3, 29, 0, 0, .null)]),
  (28, [(28, .iconst 0, 1, 0, 0, 0, .int (nI 0))]),
  (29, [(29, .ireturn, 1, 0, 0, 0, .null)])]
set_option maxRecDepth 100000 in
theorem okB31 : okB 31 B31 = true := by decide +kernel
/-- TelegraphHouse$Form.replaceLetter(III)I -/
def B32 : List (Nat × List EEy) := [
  (0, [(0, .iload_n 1, 1, 1, 0, 0, .null), (1, .iconst 5, 1, 0, 0, 0, .int (nI 5)), (2, .imul, 1, 0, 0, 0, .null), (3, .iload_n 2, 1, 2, 0, 0, .null), (4, .iadd, 1, 0, 0, 0, .null), (5, .istore 4, 2, 0, 0, 0, .null), (7, .iload 4, 2, 0, 0, 0, .null), (9, .ifCond .lt 13, 3, 22, 0, 0, .null), (12, .iload 4, 2, 0, 0, 0, .null), (14, .aload_n 0, 1, 0, 0, 0, .null), (15, .getfield 9, 3, 3, 0, 346, .null), (18, .arraylength, 1, 0, 0, 0, .null), (19, .if_icmp .lt 5, 3, 24, 0, 0, .null)]),
  (22, [(22, .iconst 0, 1, 0, 0, 0, .int (nI 0)), (23, .ireturn, 1, 0, 0, 0, .null)]),
  (24, [(24, .aload_n 0, 1, 0, 0, 0, .null), (25, .getfield 9, 3, 3, 0, 346, .null), (28, .iload 4, 2, 0, 0, 0, .null), (30, .iaload, 1, 0, 0, 0, .null), (31, .istore 5, 2, 0, 0, 0, .null), (33, .aload_n 0, 1, 0, 0, 0, .null), (34, .getfield 9, 3, 3, 0, 346, .null), (37, .iload 4, 2, 0, 0, 0, .null), (39, .iload_n 3, 1, 3, 0, 0, .null), (40, .iastore, 1, 0, 0, 0, .null), (41, .iload 5, 2, 0, 0, 0, .null), (43, .ireturn, 1, 0, 0, 0, .null)])]
set_option maxRecDepth 100000 in
theorem okB32 : okB 32 B32 = true := by decide +kernel
/-- TelegraphHouse$Form.groupNumber(I)I -/
def B33 : List (Nat × List EEy) := [
  (0, [(0, .iconst 0, 1, 0, 0, 0, .int (nI 0)), (1, .istore_n 2, 1, 2, 0, 0, .null), (2, .iconst 0, 1, 0, 0, 0, .int (nI 0)), (3, .istore_n 3, 1, 3, 0, 0, .null)]),
  (4, [(4, .iload_n 3, 1, 3, 0, 0, .null), (5, .iconst 5, 1, 0, 0, 0, .int (nI 5)), (6, .if_icmp .ge 21, 3, 27, 0, 0, .null), (9, .iload_n 2, 1, 2, 0, 0, .null), (10, .bipush 26, 2, 0, 0, 0, .int (nI 26)), (12, .imul, 1, 0, 0, 0, .null), (13, .aload_n 0, 1, 0, 0, 0, .null), (14, .iload_n 1, 1, 1, 0, 0, .null), (15, .iload_n 3, 1, 3, 0, 0, .null), (16, .invokevirtual 50, 3, 0, 31, 3, .ref 3), (19, .iadd, 1, 0, 0, 0, .null), (20, .istore_n 2, 1, 2, 0, 0, .null), (21, .iinc 3 1, 3, 0, 0, 0, .int (nI 1)), (24, .goto (-20), 3, 4, 0, 0, .null)]),
  (27, [(27, .iload_n 2, 1, 2, 0, 0, .null), (28, .ireturn, 1, 0, 0, 0, .null)])]
set_option maxRecDepth 100000 in
theorem okB33 : okB 33 B33 = true := by decide +kernel
/-- TelegraphHouse$Form.addPart(III)V -/
def B34 : List (Nat × List EEy) := [
  (0, [(0, .aload_n 0, 1, 0, 0, 0, .null), (1, .getfield 40, 3, 3, 6, 359, .int 0), (4, .bipush 20, 2, 0, 0, 0, .int (nI 20)), (6, .if_icmp .lt 4, 3, 10, 0, 0, .null), (9, .return_, 1, 0, 0, 0, .null)]),
  (10, [(10, .aload_n 0, 1, 0, 0, 0, .null), (11, .getfield 19, 3, 3, 3, 353, .null), (14, .aload_n 0, 1, 0, 0, 0, .null), (15, .getfield 40, 3, 3, 6, 359, .int 0), (18, .iload_n 1, 1, 1, 0, 0, .null), (19, .iastore, 1, 0, 0, 0, .null), (20, .aload_n 0, 1, 0, 0, 0, .null), (21, .getfield 22, 3, 3, 4, 355, .null), (24, .aload_n 0, 1, 0, 0, 0, .null), (25, .getfield 40, 3, 3, 6, 359, .int 0), (28, .iload_n 2, 1, 2, 0, 0, .null), (29, .iastore, 1, 0, 0, 0, .null), (30, .aload_n 0, 1, 0, 0, 0, .null), (31, .getfield 25, 3, 3, 5, 357, .null), (34, .aload_n 0, 1, 0, 0, 0, .null), (35, .getfield 40, 3, 3, 6, 359, .int 0), (38, .iload_n 3, 1, 3, 0, 0, .null), (39, .iastore, 1, 0, 0, 0, .null), (40, .aload_n 0, 1, 0, 0, 0, .null), (41, .dup, 1, 0, 0, 0, .null), (42, .getfield 40, 3, 3, 6, 359, .int 0), (45, .iconst 1, 1, 0, 0, 0, .int (nI 1)), (46, .iadd, 1, 0, 0, 0, .null), (47, .putfield 40, 3, 3, 6, 359, .int 0), (50, .return_, 1, 0, 0, 0, .null)])]
set_option maxRecDepth 100000 in
theorem okB34 : okB 34 B34 = true := by decide +kernel
/-- TelegraphHouse$Form.addGroup(I)V -/
def B35 : List (Nat × List EEy) := [
  (0, [(0, .aload_n 0, 1, 0, 0, 0, .null), (1, .getfield 37, 3, 3, 1, 348, .int 0), (4, .bipush 80, 2, 0, 0, 0, .int (nI 80)), (6, .if_icmp .lt 4, 3, 10, 0, 0, .null), (9, .return_, 1, 0, 0, 0, .null)]),
  (10, [(10, .iload_n 1, 1, 1, 0, 0, .null), (11, .istore_n 2, 1, 2, 0, 0, .null), (12, .iconst 4, 1, 0, 0, 0, .int (nI 4)), (13, .istore_n 3, 1, 3, 0, 0, .null)]),
  (14, [(14, .iload_n 3, 1, 3, 0, 0, .null), (15, .ifCond .lt 28, 3, 43, 0, 0, .null), (18, .aload_n 0, 1, 0, 0, 0, .null), (19, .aload_n 0, 1, 0, 0, 0, .null), (20, .getfield 37, 3, 3, 1, 348, .int 0), (23, .iload_n 3, 1, 3, 0, 0, .null), (24, .iload_n 2, 1, 2, 0, 0, .null), (25, .bipush 26, 2, 0, 0, 0, .int (nI 26)), (27, .irem, 1, 0, 0, 0, .null), (28, .invokevirtual 54, 3, 0, 32, 4, .ref 3), (31, .pop, 1, 0, 0, 0, .null), (32, .iload_n 2, 1, 2, 0, 0, .null), (33, .bipush 26, 2, 0, 0, 0, .int (nI 26)), (35, .idiv, 1, 0, 0, 0, .null), (36, .istore_n 2, 1, 2, 0, 0, .null), (37, .iinc 3 (-1), 3, 0, 0, 0, .int (-1)), (40, .goto (-26), 3, 14, 0, 0, .null)]),
  (43, [(43, .aload_n 0, 1, 0, 0, 0, .null), (44, .dup, 1, 0, 0, 0, .null), (45, .getfield 37, 3, 3, 1, 348, .int 0), (48, .iconst 1, 1, 0, 0, 0, .int (nI 1)), (49, .iadd, 1, 0, 0, 0, .null), (50, .putfield 37, 3, 3, 1, 348, .int 0), (53, .return_, 1, 0, 0, 0, .null)])]
set_option maxRecDepth 100000 in
theorem okB35 : okB 35 B35 = true := by decide +kernel
/-- TelegraphHouse$Form.addNumber(I)V -/
def B36 : List (Nat × List EEy) := [
  (0, [(0, .iload_n 1, 1, 1, 0, 0, .null), (1, .ldc 58, 2, 0, 672, 0, .int (nI 331776)), (3, .if_icmp .ge 13, 3, 16, 0, 0, .null), (6, .aload_n 0, 1, 0, 0, 0, .null), (7, .bipush 25, 2, 0, 0, 0, .int (nI 25)), (9, .iload_n 1, 1, 1, 0, 0, .null), (10, .invokevirtual 59, 3, 0, 37, 3, .ref 3), (13, .goto 23, 3, 36, 0, 0, .null)]),
  (16, [(16, .aload_n 0, 1, 0, 0, 0, .null), (17, .bipush 24, 2, 0, 0, 0, .int (nI 24)), (19, .iload_n 1, 1, 1, 0, 0, .null), (20, .ldc 58, 2, 0, 672, 0, .int (nI 331776)), (22, .idiv, 1, 0, 0, 0, .null), (23, .invokevirtual 59, 3, 0, 37, 3, .ref 3), (26, .aload_n 0, 1, 0, 0, 0, .null), (27, .bipush 25, 2, 0, 0, 0, .int (nI 25)), (29, .iload_n 1, 1, 1, 0, 0, .null), (30, .ldc 58, 2, 0, 672, 0, .int (nI 331776)), (32, .irem, 1, 0, 0, 0, .null), (33, .invokevirtual 59, 3, 0, 37, 3, .ref 3)]),
  (36, [(36, .return_, 1, 0, 0, 0, .null)])]
set_option maxRecDepth 100000 in
theorem okB36 : okB 36 B36 = true := by decide +kernel
/-- TelegraphHouse$Form.addDigits(II)V -/
def B37 : List (Nat × List EEy) := [
  (0, [(0, .aload_n 0, 1, 0, 0, 0, .null), (1, .getfield 37, 3, 3, 1, 348, .int 0), (4, .bipush 80, 2, 0, 0, 0, .int (nI 80)), (6, .if_icmp .lt 4, 3, 10, 0, 0, .null), (9, .return_, 1, 0, 0, 0, .null)]),
  (10, [(10, .iload_n 2, 1, 2, 0, 0, .null), (11, .istore_n 3, 1, 3, 0, 0, .null), (12, .iconst 4, 1, 0, 0, 0, .int (nI 4)), (13, .istore 4, 2, 0, 0, 0, .null)]),
  (15, [(15, .iload 4, 2, 0, 0, 0, .null), (17, .ifCond .le 29, 3, 46, 0, 0, .null), (20, .aload_n 0, 1, 0, 0, 0, .null), (21, .aload_n 0, 1, 0, 0, 0, .null), (22, .getfield 37, 3, 3, 1, 348, .int 0), (25, .iload 4, 2, 0, 0, 0, .null), (27, .iload_n 3, 1, 3, 0, 0, .null), (28, .bipush 24, 2, 0, 0, 0, .int (nI 24)), (30, .irem, 1, 0, 0, 0, .null), (31, .invokevirtual 54, 3, 0, 32, 4, .ref 3), (34, .pop, 1, 0, 0, 0, .null), (35, .iload_n 3, 1, 3, 0, 0, .null), (36, .bipush 24, 2, 0, 0, 0, .int (nI 24)), (38, .idiv, 1, 0, 0, 0, .null), (39, .istore_n 3, 1, 3, 0, 0, .null), (40, .iinc 4 (-1), 3, 0, 0, 0, .int (-1)), (43, .goto (-28), 3, 15, 0, 0, .null)]),
  (46, [(46, .aload_n 0, 1, 0, 0, 0, .null), (47, .aload_n 0, 1, 0, 0, 0, .null), (48, .getfield 37, 3, 3, 1, 348, .int 0), (51, .iconst 0, 1, 0, 0, 0, .int (nI 0)), (52, .iload_n 1, 1, 1, 0, 0, .null), (53, .invokevirtual 54, 3, 0, 32, 4, .ref 3), (56, .pop, 1, 0, 0, 0, .null), (57, .aload_n 0, 1, 0, 0, 0, .null), (58, .dup, 1, 0, 0, 0, .null), (59, .getfield 37, 3, 3, 1, 348, .int 0), (62, .iconst 1, 1, 0, 0, 0, .int (nI 1)), (63, .iadd, 1, 0, 0, 0, .null), (64, .putfield 37, 3, 3, 1, 348, .int 0), (67, .return_, 1, 0, 0, 0, .null)])]
set_option maxRecDepth 100000 in
theorem okB37 : okB 37 B37 = true := by decide +kernel
/-- TelegraphHouse$Form.addSpelled(J)V -/
def B38 : List (Nat × List EEy) := [
  (0, [(0, .lload_n 1, 1, 1, 0, 0, .null), (1, .invokestatic 63, 3, 4, 158, 1, .ref 11), (4, .istore_n 3, 1, 3, 0, 0, .null), (5, .iconst 1, 1, 0, 0, 0, .int (nI 1)), (6, .iload_n 3, 1, 3, 0, 0, .null), (7, .iconst 4, 1, 0, 0, 0, .int (nI 4)), (8, .idiv, 1, 0, 0, 0, .null), (9, .iadd, 1, 0, 0, 0, .null), (10, .istore 4, 2, 0, 0, 0, .null), (12, .aload_n 0, 1, 0, 0, 0, .null), (13, .getfield 37, 3, 3, 1, 348, .int 0), (16, .iload 4, 2, 0, 0, 0, .null), (18, .iadd, 1, 0, 0, 0, .null), (19, .bipush 80, 2, 0, 0, 0, .int (nI 80)), (21, .if_icmp .le 4, 3, 25, 0, 0, .null), (24, .return_, 1, 0, 0, 0, .null)]),
  (25, [(25, .iconst 0, 1, 0, 0, 0, .int (nI 0)), (26, .istore 5, 2, 0, 0, 0, .null)]),
  (28, [(28, .iload 5, 2, 0, 0, 0, .null), (30, .iload 4, 2, 0, 0, 0, .null), (32, .if_icmp .ge 65, 3, 97, 0, 0, .null), (35, .aload_n 0, 1, 0, 0, 0, .null), (36, .aload_n 0, 1, 0, 0, 0, .null), (37, .getfield 37, 3, 3, 1, 348, .int 0), (40, .iload 5, 2, 0, 0, 0, .null), (42, .iadd, 1, 0, 0, 0, .null), (43, .iconst 0, 1, 0, 0, 0, .int (nI 0)), (44, .bipush 23, 2, 0, 0, 0, .int (nI 23)), (46, .invokevirtual 54, 3, 0, 32, 4, .ref 3), (49, .pop, 1, 0, 0, 0, .null), (50, .iconst 1, 1, 0, 0, 0, .int (nI 1)), (51, .istore 6, 2, 0, 0, 0, .null)]),
  (53, [(53, .iload 6, 2, 0, 0, 0, .null), (55, .iconst 5, 1, 0, 0, 0, .int (nI 5)), (56, .if_icmp .ge 35, 3, 91, 0, 0, .null), (59, .aload_n 0, 1, 0, 0, 0, .null), (60, .aload_n 0, 1, 0, 0, 0, .null), (61, .getfield 37, 3, 3, 1, 348, .int 0), (64, .iload 5, 2, 0, 0, 0, .null), (66, .iadd, 1, 0, 0, 0, .null), (67, .iload 6, 2, 0, 0, 0, .null), (69, .lload_n 1, 1, 1, 0, 0, .null), (70, .iload_n 3, 1, 3, 0, 0, .null), (71, .iload 5, 2, 0, 0, 0, .null), (73, .iload 6, 2, 0, 0, 0, .null), (75, .invokestatic 67, 3, 1, 39, 2, .ref 3), (78, .invokestatic 70, 3, 4, 159, 3, .ref 11), (81, .invokevirtual 54, 3, 0, 32, 4, .ref 3), (84, .pop, 1, 0, 0, 0, .null), (85, .iinc 6 1, 3, 0, 0, 0, .int (nI 1)), (88, .goto (-35), 3, 53, 0, 0, .null)]),
  (91, [(91, .iinc 5 1, 3, 0, 0, 0, .int (nI 1)), (94, .goto (-66), 3, 28, 0, 0, .null)]),
  (97, [(97, .aload_n 0, 1, 0, 0, 0, .null), (98, .aload_n 0, 1, 0, 0, 0, .null), (99, .getfield 37, 3, 3, 1, 348, .int 0), (102, .iconst 1, 1, 0, 0, 0, .int (nI 1)), (103, .iload_n 3, 1, 3, 0, 0, .null), (104, .invokevirtual 54, 3, 0, 32, 4, .ref 3), (107, .pop, 1, 0, 0, 0, .null), (108, .aload_n 0, 1, 0, 0, 0, .null), (109, .dup, 1, 0, 0, 0, .null), (110, .getfield 37, 3, 3, 1, 348, .int 0), (113, .iload 4, 2, 0, 0, 0, .null), (115, .iadd, 1, 0, 0, 0, .null), (116, .putfield 37, 3, 3, 1, 348, .int 0), (119, .return_, 1, 0, 0, 0, .null)])]
set_option maxRecDepth 100000 in
theorem okB38 : okB 38 B38 = true := by decide +kernel
/-- TelegraphHouse$Form.spelledIndex(II)I -/
def B39 : List (Nat × List EEy) := [
  (0, [(0, .iload_n 0, 1, 0, 0, 0, .null), (1, .iconst 4, 1, 0, 0, 0, .int (nI 4)), (2, .imul, 1, 0, 0, 0, .null), (3, .iload_n 1, 1, 1, 0, 0, .null), (4, .iadd, 1, 0, 0, 0, .null), (5, .iconst 2, 1, 0, 0, 0, .int (nI 2)), (6, .isub, 1, 0, 0, 0, .null), (7, .ireturn, 1, 0, 0, 0, .null)])]
set_option maxRecDepth 100000 in
theorem okB39 : okB 39 B39 = true := by decide +kernel
/-- TelegraphHouse$Form.takeSums()V -/
def B40 : List (Nat × List EEy) := [
  (0, [(0, .aload_n 0, 1, 0, 0, 0, .null), (1, .bipush 10, 2, 0, 0, 0, .int (nI 10)), (3, .aload_n 0, 1, 0, 0, 0, .null), (4, .getfield 37, 3, 3, 1, 348, .int 0), (7, .bipush 8, 2, 0, 0, 0, .int (nI 8)), (9, .iadd, 1, 0, 0, 0, .null), (10, .iconst 1, 1, 0, 0, 0, .int (nI 1)), (11, .isub, 1, 0, 0, 0, .null), (12, .bipush 8, 2, 0, 0, 0, .int (nI 8)), (14, .idiv, 1, 0, 0, 0, .null), (15, .invokestatic 74, 3, 10, 780, 0, .null), (18, .putfield 43, 3, 3, 10, 367, .int 0), (21, .iconst 0, 1, 0, 0, 0, .int (nI 0)), (22, .istore_n 1, 1, 1, 0, 0, .null)]),
  (23, [(23, .iload_n 1, 1, 1, 0, 0, .null), (24, .aload_n 0, 1, 0, 0, 0, .null), (25, .getfield 43, 3, 3, 10, 367, .int 0), (28, .if_icmp .ge 39, 3, 67, 0, 0, .null), (31, .aload_n 0, 1, 0, 0, 0, .null), (32, .getfield 28, 3, 3, 7, 361, .null), (35, .iload_n 1, 1, 1, 0, 0, .null), (36, .aload_n 0, 1, 0, 0, 0, .null), (37, .iload_n 1, 1, 1, 0, 0, .null), (38, .invokevirtual 79, 3, 0, 44, 2, .ref 3), (41, .iastore, 1, 0, 0, 0, .null), (42, .aload_n 0, 1, 0, 0, 0, .null), (43, .getfield 31, 3, 3, 8, 363, .null), (46, .iload_n 1, 1, 1, 0, 0, .null), (47, .aload_n 0, 1, 0, 0, 0, .null), (48, .iload_n 1, 1, 1, 0, 0, .null), (49, .invokevirtual 83, 3, 0, 45, 2, .ref 3), (52, .iastore, 1, 0, 0, 0, .null), (53, .aload_n 0, 1, 0, 0, 0, .null), (54, .getfield 34, 3, 3, 9, 365, .null), (57, .iload_n 1, 1, 1, 0, 0, .null), (58, .bipush (-9), 2, 0, 0, 0, .int (-9)), (60, .iastore, 1, 0, 0, 0, .null), (61, .iinc 1 1, 3, 0, 0, 0, .int (nI 1)), (64, .goto (-41), 3, 23, 0, 0, .null)]),
  (67, [(67, .return_, 1, 0, 0, 0, .null)])]
set_option maxRecDepth 100000 in
theorem okB40 : okB 40 B40 = true := by decide +kernel
/-- TelegraphHouse$Form.lettersInBlock(I)I -/
def B41 : List (Nat × List EEy) := [
  (0, [(0, .bipush 40, 2, 0, 0, 0, .int (nI 40)), (2, .aload_n 0, 1, 0, 0, 0, .null), (3, .getfield 37, 3, 3, 1, 348, .int 0), (6, .iconst 5, 1, 0, 0, 0, .int (nI 5)), (7, .imul, 1, 0, 0, 0, .null), (8, .iload_n 1, 1, 1, 0, 0, .null), (9, .bipush 40, 2, 0, 0, 0, .int (nI 40)), (11, .imul, 1, 0, 0, 0, .null), (12, .isub, 1, 0, 0, 0, .null), (13, .invokestatic 74, 3, 10, 780, 0, .null), (16, .ireturn, 1, 0, 0, 0, .null)])]
set_option maxRecDepth 100000 in
theorem okB41 : okB 41 B41 = true := by decide +kernel
/-- TelegraphHouse$Form.blockLetter(II)I -/
def B42 : List (Nat × List EEy) := [
  (0, [(0, .aload_n 0, 1, 0, 0, 0, .null), (1, .iconst 0, 1, 0, 0, 0, .int (nI 0)), (2, .iload_n 1, 1, 1, 0, 0, .null), (3, .bipush 40, 2, 0, 0, 0, .int (nI 40)), (5, .imul, 1, 0, 0, 0, .null), (6, .iload_n 2, 1, 2, 0, 0, .null), (7, .iadd, 1, 0, 0, 0, .null), (8, .iconst 1, 1, 0, 0, 0, .int (nI 1)), (9, .isub, 1, 0, 0, 0, .null), (10, .invokevirtual 50, 3, 0, 31, 3, .ref 3), (13, .ireturn, 1, 0, 0, 0, .null)])]
set_option maxRecDepth 100000 in
theorem okB42 : okB 42 B42 = true := by decide +kernel
/-- TelegraphHouse$Form.setBlockLetter(III)V -/
def B43 : List (Nat × List EEy) := [
  (0, [(0, .aload_n 0, 1, 0, 0, 0, .null), (1, .iconst 0, 1, 0, 0, 0, .int (nI 0)), (2, .iload_n 1, 1, 1, 0, 0, .null), (3, .bipush 40, 2, 0, 0, 0, .int (nI 40)), (5, .imul, 1, 0, 0, 0, .null), (6, .iload_n 2, 1, 2, 0, 0, .null), (7, .iadd, 1, 0, 0, 0, .null), (8, .iconst 1, 1, 0, 0, 0, .int (nI 1)), (9, .isub, 1, 0, 0, 0, .null), (10, .iload_n 3, 1, 3, 0, 0, .null), (11, .invokevirtual 54, 3, 0, 32, 4, .ref 3), (14, .pop, 1, 0, 0, 0, .null), (15, .return_, 1, 0, 0, 0, .null)])]
set_option maxRecDepth 100000 in
theorem okB43 : okB 43 B43 = true := by decide +kernel
/-- TelegraphHouse$Form.letterSum(I)I -/
def B44 : List (Nat × List EEy) := [
  (0, [(0, .iconst 0, 1, 0, 0, 0, .int (nI 0)), (1, .istore_n 2, 1, 2, 0, 0, .null), (2, .aload_n 0, 1, 0, 0, 0, .null), (3, .iload_n 1, 1, 1, 0, 0, .null), (4, .invokevirtual 86, 3, 0, 41, 2, .ref 3), (7, .istore_n 3, 1, 3, 0, 0, .null), (8, .iconst 1, 1, 0, 0, 0, .int (nI 1)), (9, .istore 4, 2, 0, 0, 0, .null)]),
  (11, [(11, .iload 4, 2, 0, 0, 0, .null), (13, .iload_n 3, 1, 3, 0, 0, .null), (14, .if_icmp .gt 19, 3, 33, 0, 0, .null), (17, .iload_n 2, 1, 2, 0, 0, .null), (18, .aload_n 0, 1, 0, 0, 0, .null), (19, .iload_n 1, 1, 1, 0, 0, .null), (20, .iload 4, 2, 0, 0, 0, .null), (22, .invokevirtual 89, 3, 0, 42, 3, .ref 3), (25, .iadd, 1, 0, 0, 0, .null), (26, .istore_n 2, 1, 2, 0, 0, .null), (27, .iinc 4 1, 3, 0, 0, 0, .int (nI 1)), (30, .goto (-19), 3, 11, 0, 0, .null)]),
  (33, [(33, .iload_n 2, 1, 2, 0, 0, .null), (34, .bipush 101, 2, 0, 0, 0, .int (nI 101)), (36, .irem, 1, 0, 0, 0, .null), (37, .ireturn, 1, 0, 0, 0, .null)])]
set_option maxRecDepth 100000 in
theorem okB44 : okB 44 B44 = true := by decide +kernel
/-- TelegraphHouse$Form.placeSum(I)I -/
def B45 : List (Nat × List EEy) := [
  (0, [(0, .iconst 0, 1, 0, 0, 0, .int (nI 0)), (1, .istore_n 2, 1, 2, 0, 0, .null), (2, .aload_n 0, 1, 0, 0, 0, .null), (3, .iload_n 1, 1, 1, 0, 0, .null), (4, .invokevirtual 86, 3, 0, 41, 2, .ref 3), (7, .istore_n 3, 1, 3, 0, 0, .null), (8, .iconst 1, 1, 0, 0, 0, .int (nI 1)), (9, .istore 4, 2, 0, 0, 0, .null)]),
  (11, [(11, .iload 4, 2, 0, 0, 0, .null), (13, .iload_n 3, 1, 3, 0, 0, .null), (14, .if_icmp .gt 22, 3, 36, 0, 0, .null), (17, .iload_n 2, 1, 2, 0, 0, .null), (18, .iload 4, 2, 0, 0, 0, .null), (20, .aload_n 0, 1, 0, 0, 0, .null), (21, .iload_n 1, 1, 1, 0, 0, .null), (22, .iload 4, 2, 0, 0, 0, .null), (24, .invokevirtual 89, 3, 0, 42, 3, .ref 3), (27, .imul, 1, 0, 0, 0, .null), (28, .iadd, 1, 0, 0, 0, .null), (29, .istore_n 2, 1, 2, 0, 0, .null), (30, .iinc 4 1, 3, 0, 0, 0, .int (nI 1)), (33, .goto (-22), 3, 11, 0, 0, .null)]),
  (36, [(36, .iload_n 2, 1, 2, 0, 0, .null), (37, .bipush 101, 2, 0, 0, 0, .int (nI 101)), (39, .irem, 1, 0, 0, 0, .null), (40, .ireturn, 1, 0, 0, 0, .null)])]
set_option maxRecDepth 100000 in
theorem okB45 : okB 45 B45 = true := by decide +kernel
/-- TelegraphHouse$Form.mendBlocks()I -/
def B46 : List (Nat × List EEy) := [
  (0, [(0, .iconst 0, 1, 0, 0, 0, .int (nI 0)), (1, .istore_n 1, 1, 1, 0, 0, .null), (2, .iconst 0, 1, 0, 0, 0, .int (nI 0)), (3, .istore_n 2, 1, 2, 0, 0, .null)]),
  (4, [(4, .iload_n 2, 1, 2, 0, 0, .null), (5, .aload_n 0, 1, 0, 0, 0, .null), (6, .getfield 43, 3, 3, 10, 367, .int 0), (9, .if_icmp .ge 31, 3, 40, 0, 0, .null), (12, .aload_n 0, 1, 0, 0, 0, .null), (13, .getfield 34, 3, 3, 9, 365, .null), (16, .iload_n 2, 1, 2, 0, 0, .null), (17, .aload_n 0, 1, 0, 0, 0, .null), (18, .iload_n 2, 1, 2, 0, 0, .null), (19, .invokevirtual 92, 3, 0, 47, 2, .ref 3), (22, .iastore, 1, 0, 0, 0, .null), (23, .iload_n 1, 1, 1, 0, 0, .null), (24, .aload_n 0, 1, 0, 0, 0, .null), (25, .getfield 34, 3, 3, 9, 365, .null), (28, .iload_n 2, 1, 2, 0, 0, .null), (29, .iaload, 1, 0, 0, 0, .null), (30, .invokestatic 95, 3, 11, 846, 0, .null), (33, .istore_n 1, 1, 1, 0, 0, .null), (34, .iinc 2 1, 3, 0, 0, 0, .int (nI 1)), (37, .goto (-33), 3, 4, 0, 0, .null)]),
  (40, [(40, .iload_n 1, 1, 1, 0, 0, .null), (41, .ireturn, 1, 0, 0, 0, .null)])]
set_option maxRecDepth 100000 in
theorem okB46 : okB 46 B46 = true := by decide +kernel
/-- TelegraphHouse$Form.mendBlock(I)I -/
def B47 : List (Nat × List EEy) := [
  (0, [(0, .aload_n 0, 1, 0, 0, 0, .null), (1, .iload_n 1, 1, 1, 0, 0, .null), (2, .invokevirtual 79, 3, 0, 44, 2, .ref 3), (5, .aload_n 0, 1, 0, 0, 0, .null), (6, .getfield 28, 3, 3, 7, 361, .null), (9, .iload_n 1, 1, 1, 0, 0, .null), (10, .iaload, 1, 0, 0, 0, .null), (11, .isub, 1, 0, 0, 0, .null), (12, .bipush 101, 2, 0, 0, 0, .int (nI 101)), (14, .invokestatic 98, 3, 1, 234, 2, .ref 14), (17, .istore_n 2, 1, 2, 0, 0, .null), (18, .aload_n 0, 1, 0, 0, 0, .null), (19, .iload_n 1, 1, 1, 0, 0, .null), (20, .invokevirtual 83, 3, 0, 45, 2, .ref 3), (23, .aload_n 0, 1, 0, 0, 0, .null), (24, .getfield 31, 3, 3, 8, 363, .null), (27, .iload_n 1, 1, 1, 0, 0, .null), (28, .iaload, 1, 0, 0, 0, .null), (29, .isub, 1, 0, 0, 0, .null), (30, .bipush 101, 2, 0, 0, 0, .int (nI 101)), (32, .invokestatic 98, 3, 1, 234, 2, .ref 14), (35, .istore_n 3, 1, 3, 0, 0, .null), (36, .iload_n 2, 1, 2, 0, 0, .null), (37, .ifCond .ne 9, 3, 46, 0, 0, .null), (40, .iload_n 3, 1, 3, 0, 0, .null), (41, .ifCond .ne 5, 3, 46, 0, 0, .null), (44, .iconst 0, 1, 0, 0, 0, .int (nI 0)), (45, .ireturn, 1, 0, 0, 0, .null)]),
  (46, [(46, .iload_n 2, 1, 2, 0, 0, .null), (47, .ifCond .ne 12, 3, 59, 0, 0, .null), (50, .aload_n 0, 1, 0, 0, 0, .null), (51, .iload_n 1, 1, 1, 0, 0, .null), (52, .iload_n 3, 1, 3, 0, 0, .null), (53, .invokevirtual 101, 3, 0, 50, 3, .ref 3), (56, .goto 10, 3, 66, 0, 0, .null)]),
  (59, [(59, .aload_n 0, 1, 0, 0, 0, .null), (60, .iload_n 1, 1, 1, 0, 0, .null), (61, .iload_n 2, 1, 2, 0, 0, .null), (62, .iload_n 3, 1, 3, 0, 0, .null), (63, .invokevirtual 104, 3, 0, 48, 4, .ref 3)]),
  (66, [(66, .ireturn, 1, 0, 0, 0, .null)])]
set_option maxRecDepth 100000 in
theorem okB47 : okB 47 B47 = true := by decide +kernel
/-- TelegraphHouse$Form.mendLetter(III)I -/
def B48 : List (Nat × List EEy) := [
  (0, [(0, .aload_n 0, 1, 0, 0, 0, .null), (1, .iload_n 1, 1, 1, 0, 0, .null), (2, .invokevirtual 86, 3, 0, 41, 2, .ref 3), (5, .istore 4, 2, 0, 0, 0, .null), (7, .iconst 1, 1, 0, 0, 0, .int (nI 1)), (8, .istore 5, 2, 0, 0, 0, .null)]),
  (10, [(10, .iload 5, 2, 0, 0, 0, .null), (12, .iload 4, 2, 0, 0, 0, .null), (14, .if_icmp .gt 37, 3, 51, 0, 0, .null), (17, .iload 5, 2, 0, 0, 0, .null), (19, .iload_n 2, 1, 2, 0, 0, .null), (20, .imul, 1, 0, 0, 0, .null), (21, .bipush 101, 2, 0, 0, 0, .int (nI 101)), (23, .irem, 1, 0, 0, 0, .null), (24, .iload_n 3, 1, 3, 0, 0, .null), (25, .if_icmp .ne 20, 3, 45, 0, 0, .null), (28, .aload_n 0, 1, 0, 0, 0, .null), (29, .iload_n 1, 1, 1, 0, 0, .null), (30, .iload 5, 2, 0, 0, 0, .null), (32, .aload_n 0, 1, 0, 0, 0, .null), (33, .iload_n 1, 1, 1, 0, 0, .null), (34, .iload 5, 2, 0, 0, 0, .null), (36, .invokevirtual 89, 3, 0, 42, 3, .ref 3), (39, .iload_n 2, 1, 2, 0, 0, .null), (40, .isub, 1, 0, 0, 0, .null), (41, .invokevirtual 107, 3, 0, 49, 4, .ref 3), (44, .ireturn, 1, 0, 0, 0, .null)]),
  (45, [(45, .iinc 5 1, 3, 0, 0, 0, .int (nI 1)), (48, .goto (-38), 3, 10, 0, 0, .null)]),
  (51, [(51, .iconst 2, 1, 0, 0, 0, .int (nI 2)), (52, .ireturn, 1, 0, 0, 0, .null)])]
set_option maxRecDepth 100000 in
theorem okB48 : okB 48 B48 = true := by decide +kernel
/-- TelegraphHouse$Form.putBack(III)I -/
def B49 : List (Nat × List EEy) := [
  (0, [(0, .iload_n 3, 1, 3, 0, 0, .null), (1, .ifCond .ge 10, 3, 11, 0, 0, .null), (4, .iload_n 3, 1, 3, 0, 0, .null), (5, .bipush 101, 2, 0, 0, 0, .int (nI 101)), (7, .iadd, 1, 0, 0, 0, .null), (8, .goto 4, 3, 12, 0, 0, .null)]),
  (11, [(11, .iload_n 3, 1, 3, 0, 0, .null)]),
  (12, [(12, .istore 4, 2, 0, 0, 0, .null), (14, .iload 4, 2, 0, 0, 0, .null), (16, .iconst 0, 1, 0, 0, 0, .int (nI 0)), (17, .bipush 25, 2, 0, 0, 0, .int (nI 25)), (19, .invokestatic 46, 3, 4, 153, 3, .ref 11), (22, .ifCond .ne 5, 3, 27, 0, 0, .null), (25, .iconst 2, 1, 0, 0, 0, .int (nI 2)), (26, .ireturn, 1, 0, 0, 0, .null)]),
  (27, [(27, .aload_n 0, 1, 0, 0, 0, .null), (28, .iload_n 1, 1, 1, 0, 0, .null), (29, .iload_n 2, 1, 2, 0, 0, .null), (30, .iload 4, 2, 0, 0, 0, .null), (32, .invokevirtual 110, 3, 0, 43, 4, .ref 3), (35, .iconst 1, 1, 0, 0, 0, .int (nI 1)), (36, .ireturn, 1, 0, 0, 0, .null)])]
set_option maxRecDepth 100000 in
theorem okB49 : okB 49 B49 = true := by decide +kernel
/-- TelegraphHouse$Form.mendNeighbours(II)I -/
def B50 : List (Nat × List EEy) := [
  (0, [(0, .aload_n 0, 1, 0, 0, 0, .null), (1, .iload_n 1, 1, 1, 0, 0, .null), (2, .invokevirtual 86, 3, 0, 41, 2, .ref 3), (5, .istore_n 3, 1, 3, 0, 0, .null), (6, .iconst 0, 1, 0, 0, 0, .int (nI 0)), (7, .istore 4, 2, 0, 0, 0, .null), (9, .iconst 0, 1, 0, 0, 0, .int (nI 0)), (10, .istore 5, 2, 0, 0, 0, .null), (12, .iconst 1, 1, 0, 0, 0, .int (nI 1)), (13, .istore 6, 2, 0, 0, 0, .null)]),
  (15, [(15, .iload 6, 2, 0, 0, 0, .null), (17, .iload_n 3, 1, 3, 0, 0, .null), (18, .if_icmp .ge 69, 3, 87, 0, 0, .null), (21, .aload_n 0, 1, 0, 0, 0, .null), (22, .iload_n 1, 1, 1, 0, 0, .null), (23, .iload 6, 2, 0, 0, 0, .null), (25, .iconst 1, 1, 0, 0, 0, .int (nI 1)), (26, .iadd, 1, 0, 0, 0, .null), (27, .invokevirtual 89, 3, 0, 42, 3, .ref 3), (30, .aload_n 0, 1, 0, 0, 0, .null), (31, .iload_n 1, 1, 1, 0, 0, .null), (32, .iload 6, 2, 0, 0, 0, .null), (34, .invokevirtual 89, 3, 0, 42, 3, .ref 3), (37, .isub, 1, 0, 0, 0, .null), (38, .istore 7, 2, 0, 0, 0, .null), (40, .iload 6, 2, 0, 0, 0, .null), (42, .iconst 5, 1, 0, 0, 0, .int (nI 5)), (43, .irem, 1, 0, 0, 0, .null), (44, .ifCond .eq 7, 3, 51, 0, 0, .null), (47, .iconst 1, 1, 0, 0, 0, .int (nI 1)), (48, .goto 4, 3, 52, 0, 0, .null)]),
  (51, [(51, .iconst 0, 1, 0, 0, 0, .int (nI 0))]),
  (52, [(52, .istore 8, 2, 0, 0, 0, .null), (54, .iload 8, 2, 0, 0, 0, .null), (56, .ifCond .eq 25, 3, 81, 0, 0, .null), (59, .iload 7, 2, 0, 0, 0, .null), (61, .iload_n 2, 1, 2, 0, 0, .null), (62, .if_icmp .eq 12, 3, 74, 0, 0, .null), (65, .iload 7, 2, 0, 0, 0, .null), (67, .iload_n 2, 1, 2, 0, 0, .null), (68, .bipush 101, 2, 0, 0, 0, .int (nI 101)), (70, .isub, 1, 0, 0, 0, .null), (71, .if_icmp .ne 10, 3, 81, 0, 0, .null)]),
  (74, [(74, .iinc 4 1, 3, 0, 0, 0, .int (nI 1)), (77, .iload 6, 2, 0, 0, 0, .null), (79, .istore 5, 2, 0, 0, 0, .null)]),
  (81, [(81, .iinc 6 1, 3, 0, 0, 0, .int (nI 1)), (84, .goto (-69), 3, 15, 0, 0, .null)]),
  (87, [(87, .iload 4, 2, 0, 0, 0, .null), (89, .iconst 1, 1, 0, 0, 0, .int (nI 1)), (90, .if_icmp .eq 5, 3, 95, 0, 0, .null), (93, .iconst 2, 1, 0, 0, 0, .int (nI 2)), (94, .ireturn, 1, 0, 0, 0, .null)]),
  (95, [(95, .aload_n 0, 1, 0, 0, 0, .null), (96, .iload_n 1, 1, 1, 0, 0, .null), (97, .iload 5, 2, 0, 0, 0, .null), (99, .invokevirtual 89, 3, 0, 42, 3, .ref 3), (102, .istore 6, 2, 0, 0, 0, .null), (104, .aload_n 0, 1, 0, 0, 0, .null), (105, .iload_n 1, 1, 1, 0, 0, .null), (106, .iload 5, 2, 0, 0, 0, .null), (108, .aload_n 0, 1, 0, 0, 0, .null), (109, .iload_n 1, 1, 1, 0, 0, .null), (110, .iload 5, 2, 0, 0, 0, .null), (112, .iconst 1, 1, 0, 0, 0, .int (nI 1)), (113, .iadd, 1, 0, 0, 0, .null), (114, .invokevirtual 89, 3, 0, 42, 3, .ref 3), (117, .invokevirtual 110, 3, 0, 43, 4, .ref 3), (120, .aload_n 0, 1, 0, 0, 0, .null), (121, .iload_n 1, 1, 1, 0, 0, .null), (122, .iload 5, 2, 0, 0, 0, .null), (124, .iconst 1, 1, 0, 0, 0, .int (nI 1)), (125, .iadd, 1, 0, 0, 0, .null), (126, .iload 6, 2, 0, 0, 0, .null), (128, .invokevirtual 110, 3, 0, 43, 4, .ref 3), (131, .iconst 1, 1, 0, 0, 0, .int (nI 1)), (132, .ireturn, 1, 0, 0, 0, .null)])]
set_option maxRecDepth 100000 in
theorem okB50 : okB 50 B50 = true := by decide +kernel
/-- TelegraphHouse$Journey.<init>()V -/
def B51 : List (Nat × List EEy) := [
  (0, [(0, .aload_n 0, 1, 0, 0, 0, .null), (1, .invokespecial 3, 3, 14, 421, 0, .null), (4, .aload_n 0, 1, 0, 0, 0, .null), (5, .new 9, 3, 8, 3, 0, .null), (8, .dup, 1, 0, 0, 0, .null), (9, .invokespecial 11, 3, 25, 93, 1, .ref 8), (12, .putfield 12, 3, 4, 0, 424, .null), (15, .aload_n 0, 1, 0, 0, 0, .null), (16, .iconst 0, 1, 0, 0, 0, .int (nI 0)), (17, .putfield 18, 3, 4, 2, 427, .int 0), (20, .aload_n 0, 1, 0, 0, 0, .null), (21, .bipush (-9), 2, 0, 0, 0, .int (-9)), (23, .putfield 22, 3, 4, 3, 430, .int 0), (26, .aload_n 0, 1, 0, 0, 0, .null), (27, .bipush (-9), 2, 0, 0, 0, .int (-9)), (29, .putfield 25, 3, 4, 4, 433, .int 0), (32, .return_, 1, 0, 0, 0, .null)])]
set_option maxRecDepth 100000 in
theorem okB51 : okB 51 B51 = true := by decide +kernel
/-- TelegraphHouse$Journey.waitsAt(I)Z -/
def B52 : List (Nat × List EEy) := [
  (0, [(0, .aload_n 0, 1, 0, 0, 0, .null), (1, .getfield 18, 3, 4, 2, 427, .int 0), (4, .iconst 1, 1, 0, 0, 0, .int (nI 1)), (5, .if_icmp .ne 15, 3, 20, 0, 0, .null), (8, .aload_n 0, 1, 0, 0, 0, .null), (9, .getfield 22, 3, 4, 3, 430, .int 0), (12, .iload_n 1, 1, 1, 0, 0, .null), (13, .if_icmp .ne 7, 3, 20, 0, 0, .null), (16, .iconst 1, 1, 0, 0, 0, .int (nI 1)), (17, .goto 4, 3, 21, 0, 0, .null)]),
  (20, [(20, .iconst 0, 1, 0, 0, 0, .int (nI 0))]),
  (21, [(21, .ireturn, 1, 0, 0, 0, .null)])]
set_option maxRecDepth 100000 in
theorem okB52 : okB 52 B52 = true := by decide +kernel
/-- TelegraphHouse$Journey.goesAheadOf(LTelegraphHouse$Journey;)Z -/
def B53 : List (Nat × List EEy) := [
  (0, [(0, .aload_n 0, 1, 0, 0, 0, .null), (1, .getfield 28, 3, 4, 7, 439, .int 0), (4, .aload_n 1, 1, 1, 0, 0, .null), (5, .getfield 28, 3, 4, 7, 439, .int 0), (8, .if_icmp .eq 20, 3, 28, 0, 0, .null), (11, .aload_n 0, 1, 0, 0, 0, .null), (12, .getfield 28, 3, 4, 7, 439, .int 0), (15, .aload_n 1, 1, 1, 0, 0, .null), (16, .getfield 28, 3, 4, 7, 439, .int 0), (19, .if_icmp .le 7, 3, 26, 0, 0, .null), (22, .iconst 1, 1, 0, 0, 0, .int (nI 1)), (23, .goto 4, 3, 27, 0, 0, .null)]),
  (26, [(26, .iconst 0, 1, 0, 0, 0, .int (nI 0))]),
  (27, [(27, .ireturn, 1, 0, 0, 0, .null)]),
  (28, [(28, .aload_n 0, 1, 0, 0, 0, .null), (29, .getfield 31, 3, 4, 8, 441, .int 0), (32, .aload_n 1, 1, 1, 0, 0, .null), (33, .getfield 31, 3, 4, 8, 441, .int 0), (36, .if_icmp .ge 7, 3, 43, 0, 0, .null), (39, .iconst 1, 1, 0, 0, 0, .int (nI 1)), (40, .goto 4, 3, 44, 0, 0, .null)]),
  (43, [(43, .iconst 0, 1, 0, 0, 0, .int (nI 0))]),
  (44, [(44, .ireturn, 1, 0, 0, 0, .null)])]
set_option maxRecDepth 100000 in
theorem okB53 : okB 53 B53 = true := by decide +kernel
/-- TelegraphHouse$Line.<init>(IIIII)V -/
def B54 : List (Nat × List EEy) := [
  (0, [(0, .aload_n 0, 1, 0, 0, 0, .null), (1, .invokespecial 3, 3, 14, 884, 0, .null), (4, .aload_n 0, 1, 0, 0, 0, .null), (5, .iconst 2, 1, 0, 0, 0, .int (nI 2)), (6, .newarray .int, 2, 14, 128, 0, .null), (8, .putfield 11, 3, 5, 5, 893, .null), (11, .aload_n 0, 1, 0, 0, 0, .null), (12, .iconst 2, 1, 0, 0, 0, .int (nI 2)), (13, .newarray .int, 2, 14, 128, 0, .null), (15, .dup, 1, 0, 0, 0, .null), (16, .iconst 0, 1, 0, 0, 0, .int (nI 0)), (17, .bipush (-9), 2, 0, 0, 0, .int (-9)), (19, .iastore, 1, 0, 0, 0, .null), (20, .dup, 1, 0, 0, 0, .null), (21, .iconst 1, 1, 0, 0, 0, .int (nI 1)), (22, .bipush (-9), 2, 0, 0, 0, .int (-9)), (24, .iastore, 1, 0, 0, 0, .null), (25, .putfield 15, 3, 5, 6, 895, .null), (28, .aload_n 0, 1, 0, 0, 0, .null), (29, .iconst 2, 1, 0, 0, 0, .int (nI 2)), (30, .newarray .int, 2, 14, 128, 0, .null), (32, .putfield 18, 3, 5, 7, 897, .null), (35, .aload_n 0, 1, 0, 0, 0, .null), (36, .iload_n 1, 1, 1, 0, 0, .null), (37, .putfield 21, 3, 5, 0, 885, .int 0), (40, .aload_n 0, 1, 0, 0, 0, .null), (41, .iload_n 2, 1, 2, 0, 0, .null), (42, .putfield 25, 3, 5, 1, 887, .int 0), (45, .aload_n 0, 1, 0, 0, 0, .null), (46, .iload_n 3, 1, 3, 0, 0, .null), (47, .putfield 28, 3, 5, 2, 889, .int 0), (50, .aload_n 0, 1, 0, 0, 0, .null), (51, .iload 4, 2, 0, 0, 0, .null), (53, .putfield 31, 3, 5, 3, 891, .int 0), (56, .aload_n 0, 1, 0, 0, 0, .null), (57, .iload 5, 2, 0, 0, 0, .null), (59, .putfield 34, 3, 5, 4, 892, .int 0), (62, .return_, 1, 0, 0, 0, .null)])]
set_option maxRecDepth 100000 in
theorem okB54 : okB 54 B54 = true := by decide +kernel
/-- TelegraphHouse$Line.isOpen(I)Z -/
def B55 : List (Nat × List EEy) := [
  (0, [(0, .aload_n 0, 1, 0, 0, 0, .null), (1, .getfield 31, 3, 5, 3, 891, .int 0), (4, .aload_n 0, 1, 0, 0, 0, .null), (5, .getfield 34, 3, 5, 4, 892, .int 0), (8, .if_icmp .ne 5, 3, 13, 0, 0, .null), (11, .iconst 1, 1, 0, 0, 0, .int (nI 1)), (12, .ireturn, 1, 0, 0, 0, .null)]),
  (13, [(13, .aload_n 0, 1, 0, 0, 0, .null), (14, .getfield 31, 3, 5, 3, 891, .int 0), (17, .aload_n 0, 1, 0, 0, 0, .null), (18, .getfield 34, 3, 5, 4, 892, .int 0), (21, .if_icmp .ge 25, 3, 46, 0, 0, .null), (24, .iload_n 1, 1, 1, 0, 0, .null), (25, .aload_n 0, 1, 0, 0, 0, .null), (26, .getfield 31, 3, 5, 3, 891, .int 0), (29, .if_icmp .lt 15, 3, 44, 0, 0, .null), (32, .iload_n 1, 1, 1, 0, 0, .null), (33, .aload_n 0, 1, 0, 0, 0, .null), (34, .getfield 34, 3, 5, 4, 892, .int 0), (37, .if_icmp .ge 7, 3, 44, 0, 0, .null), (40, .iconst 1, 1, 0, 0, 0, .int (nI 1)), (41, .goto 4, 3, 45, 0, 0, .null)]),
  (44, [(44, .iconst 0, 1, 0, 0, 0, .int (nI 0))]),
  (45, [(45, .ireturn, 1, 0, 0, 0, .null)]),
  (46, [(46, .iload_n 1, 1, 1, 0, 0, .null), (47, .aload_n 0, 1, 0, 0, 0, .null), (48, .getfield 31, 3, 5, 3, 891, .int 0), (51, .if_icmp .ge 11, 3, 62, 0, 0, .null), (54, .iload_n 1, 1, 1, 0, 0, .null), (55, .aload_n 0, 1, 0, 0, 0, .null), (56, .getfield 34, 3, 5, 4, 892, .int 0), (59, .if_icmp .ge 7, 3, 66, 0, 0, .null)]),
  (62, [(62, .iconst 1, 1, 0, 0, 0, .int (nI 1)), (63, .goto 4, 3, 67, 0, 0, .null)]),
  (66, [(66, .iconst 0, 1, 0, 0, 0, .int (nI 0))]),
  (67, [(67, .ireturn, 1, 0, 0, 0, .null)])]
set_option maxRecDepth 100000 in
theorem okB55 : okB 55 B55 = true := by decide +kernel
/-- TelegraphHouse$Line.otherEnd(I)I -/
def B56 : List (Nat × List EEy) := [
  (0, [(0, .iload_n 1, 1, 1, 0, 0, .null), (1, .aload_n 0, 1, 0, 0, 0, .null), (2, .getfield 21, 3, 5, 0, 885, .int 0), (5, .if_icmp .ne 8, 3, 13, 0, 0, .null), (8, .aload_n 0, 1, 0, 0, 0, .null), (9, .getfield 25, 3, 5, 1, 887, .int 0), (12, .ireturn, 1, 0, 0, 0, .null)]),
  (13, [(13, .iload_n 1, 1, 1, 0, 0, .null), (14, .aload_n 0, 1, 0, 0, 0, .null), (15, .getfield 25, 3, 5, 1, 887, .int 0), (18, .if_icmp .ne 10, 3, 28, 0, 0, .null), (21, .aload_n 0, 1, 0, 0, 0, .null), (22, .getfield 21, 3, 5, 0, 885, .int 0), (25, .goto 5, 3, 30, 0, 0, .null)]),
  (28, [(28, .bipush (-9), 2, 0, 0, 0, .int (-9))]),
  (30, [(30, .ireturn, 1, 0, 0, 0, .null)])]
set_option maxRecDepth 100000 in
theorem okB56 : okB 56 B56 = true := by decide +kernel
/-- TelegraphHouse$Line.wayFrom(I)I -/
def B57 : List (Nat × List EEy) := [
  (0, [(0, .iload_n 1, 1, 1, 0, 0, .null), (1, .aload_n 0, 1, 0, 0, 0, .null), (2, .getfield 21, 3, 5, 0, 885, .int 0), (5, .if_icmp .ne 7, 3, 12, 0, 0, .null), (8, .iconst 0, 1, 0, 0, 0, .int (nI 0)), (9, .goto 4, 3, 13, 0, 0, .null)]),
  (12, [(12, .iconst 1, 1, 0, 0, 0, .int (nI 1))]),
  (13, [(13, .ireturn, 1, 0, 0, 0, .null)])]
set_option maxRecDepth 100000 in
theorem okB57 : okB 57 B57 = true := by decide +kernel
/-- TelegraphHouse$Line.startOf(I)I -/
def B58 : List (Nat × List EEy) := [
  (0, [(0, .iload_n 1, 1, 1, 0, 0, .null), (1, .ifCond .ne 10, 3, 11, 0, 0, .null), (4, .aload_n 0, 1, 0, 0, 0, .null), (5, .getfield 21, 3, 5, 0, 885, .int 0), (8, .goto 7, 3, 15, 0, 0, .null)]),
  (11, [(11, .aload_n 0, 1, 0, 0, 0, .null), (12, .getfield 25, 3, 5, 1, 887, .int 0)]),
  (15, [(15, .ireturn, 1, 0, 0, 0, .null)])]
set_option maxRecDepth 100000 in
theorem okB58 : okB 58 B58 = true := by decide +kernel
/-- TelegraphHouse$Message.<init>([JI)V -/
def B59 : List (Nat × List EEy) := [
  (0, [(0, .aload_n 0, 1, 0, 0, 0, .null), (1, .invokespecial 3, 3, 14, 339, 0, .null), (4, .aload_n 0, 1, 0, 0, 0, .null), (5, .bipush 20, 2, 0, 0, 0, .int (nI 20)), (7, .newarray .long, 2, 15, 129, 0, .null), (9, .putfield 9, 3, 6, 0, 395, .null), (12, .aload_n 0, 1, 0, 0, 0, .null), (13, .new 15, 3, 3, 11, 0, .null), (16, .dup, 1, 0, 0, 0, .null), (17, .invokespecial 17, 3, 25, 27, 1, .ref 3), (20, .putfield 18, 3, 6, 2, 402, .null), (23, .aload_n 0, 1, 0, 0, 0, .null), (24, .iload_n 2, 1, 2, 0, 0, .null), (25, .aload_n 1, 1, 1, 0, 0, .null), (26, .arraylength, 1, 0, 0, 0, .null), (27, .bipush 20, 2, 0, 0, 0, .int (nI 20)), (29, .invokestatic 22, 3, 10, 392, 0, .null), (32, .invokestatic 22, 3, 10, 392, 0, .null), (35, .putfield 28, 3, 6, 1, 398, .int 0), (38, .iconst 0, 1, 0, 0, 0, .int (nI 0)), (39, .istore_n 3, 1, 3, 0, 0, .null)]),
  (40, [(40, .iload_n 3, 1, 3, 0, 0, .null), (41, .aload_n 0, 1, 0, 0, 0, .null), (42, .getfield 28, 3, 6, 1, 398, .int 0), (45, .if_icmp .ge 18, 3, 63, 0, 0, .null), (48, .aload_n 0, 1, 0, 0, 0, .null), (49, .getfield 9, 3, 6, 0, 395, .null), (52, .iload_n 3, 1, 3, 0, 0, .null), (53, .aload_n 1, 1, 1, 0, 0, .null), (54, .iload_n 3, 1, 3, 0, 0, .null), (55, .laload, 1, 0, 0, 0, .null), (56, .lastore, 1, 0, 0, 0, .null), (57, .iinc 3 1, 3, 0, 0, 0, .int (nI 1)), (60, .goto (-20), 3, 40, 0, 0, .null)]),
  (63, [(63, .return_, 1, 0, 0, 0, .null)])]
set_option maxRecDepth 100000 in
theorem okB59 : okB 59 B59 = true := by decide +kernel
