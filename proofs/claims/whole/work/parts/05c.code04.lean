/-! the code, 4 -/
/-- TelegraphHouse.about(II)I -/
def B125 : List (Nat × List EEy) := [
  (0, [(0, .aload_n 0, 1, 0, 0, 0, .null), (1, .iload_n 1, 1, 1, 0, 0, .null), (2, .invokevirtual 138, 3, 0, 152, 2, .ref 11), (5, .astore_n 3, 1, 3, 0, 0, .null), (6, .aload_n 3, 1, 3, 0, 0, .null), (7, .ifnonnull 5, 3, 12, 0, 0, .null), (10, .iconst (-1), 1, 0, 0, 0, .int (-1)), (11, .ireturn, 1, 0, 0, 0, .null)]),
  (12, [(12, .iload_n 2, 1, 2, 0, 0, .null), (13, .tableswitch 81 0 5 #[39, 44, 49, 57, 65, 73], 39, 0, 0, 0, .null)]),
  (52, [(52, .aload_n 3, 1, 3, 0, 0, .null), (53, .getfield 142, 3, 6, 1, 401, .int 0), (56, .ireturn, 1, 0, 0, 0, .null)]),
  (57, [(57, .aload_n 3, 1, 3, 0, 0, .null), (58, .invokevirtual 143, 3, 0, 60, 1, .ref 6), (61, .ireturn, 1, 0, 0, 0, .null)]),
  (62, [(62, .aload_n 3, 1, 3, 0, 0, .null), (63, .getfield 146, 3, 6, 2, 405, .null), (66, .getfield 150, 3, 3, 1, 350, .int 0), (69, .ireturn, 1, 0, 0, 0, .null)]),
  (70, [(70, .aload_n 3, 1, 3, 0, 0, .null), (71, .getfield 146, 3, 6, 2, 405, .null), (74, .getfield 155, 3, 3, 2, 352, .int 0), (77, .ireturn, 1, 0, 0, 0, .null)]),
  (78, [(78, .aload_n 3, 1, 3, 0, 0, .null), (79, .getfield 146, 3, 6, 2, 405, .null), (82, .getfield 158, 3, 3, 6, 360, .int 0), (85, .ireturn, 1, 0, 0, 0, .null)]),
  (86, [(86, .aload_n 3, 1, 3, 0, 0, .null), (87, .getfield 146, 3, 6, 2, 405, .null), (90, .getfield 161, 3, 3, 10, 368, .int 0), (93, .ireturn, 1, 0, 0, 0, .null)]),
  (94, [(94, .bipush (-2), 2, 0, 0, 0, .int (-2)), (96, .ireturn, 1, 0, 0, 0, .null)])]
set_option maxRecDepth 100000 in
theorem okB125 : okB 125 B125 = true := by decide +kernel
/-- TelegraphHouse.condense(II)I -/
def B126 : List (Nat × List EEy) := [
  (0, [(0, .aload_n 0, 1, 0, 0, 0, .null), (1, .iload_n 1, 1, 1, 0, 0, .null), (2, .invokevirtual 138, 3, 0, 152, 2, .ref 11), (5, .astore_n 3, 1, 3, 0, 0, .null), (6, .aload_n 0, 1, 0, 0, 0, .null), (7, .iload_n 2, 1, 2, 0, 0, .null), (8, .invokevirtual 98, 3, 0, 151, 2, .ref 11), (11, .astore 4, 2, 0, 0, 0, .null), (13, .aload_n 3, 1, 3, 0, 0, .null), (14, .ifnull 8, 3, 22, 0, 0, .null), (17, .aload 4, 2, 0, 0, 0, .null), (19, .ifnonnull 5, 3, 24, 0, 0, .null)]),
  (22, [(22, .iconst (-1), 1, 0, 0, 0, .int (-1)), (23, .ireturn, 1, 0, 0, 0, .null)]),
  (24, [(24, .aload 4, 2, 0, 0, 0, .null), (26, .getfield 106, 3, 0, 6, 491, .float 0), (29, .ifCond .eq 14, 3, 43, 0, 0, .null), (32, .aload_n 0, 1, 0, 0, 0, .null), (33, .getfield 52, 3, 11, 8, 258, .null), (36, .iload_n 1, 1, 1, 0, 0, .null), (37, .invokevirtual 164, 3, 0, 70, 2, .ref 7), (40, .ifCond .eq 6, 3, 46, 0, 0, .null)]),
  (43, [(43, .bipush (-3), 2, 0, 0, 0, .int (-3)), (45, .ireturn, 1, 0, 0, 0, .null)]),
  (46, [(46, .aload_n 0, 1, 0, 0, 0, .null), (47, .getfield 38, 3, 11, 6, 256, .null), (50, .aload_n 3, 1, 3, 0, 0, .null), (51, .aload 4, 2, 0, 0, 0, .null), (53, .invokevirtual 167, 3, 0, 11, 3, .ref 1), (56, .pop, 1, 0, 0, 0, .null), (57, .aload_n 0, 1, 0, 0, 0, .null), (58, .getfield 38, 3, 11, 6, 256, .null), (61, .aload_n 3, 1, 3, 0, 0, .null), (62, .aload 4, 2, 0, 0, 0, .null), (64, .iload_n 2, 1, 2, 0, 0, .null), (65, .invokevirtual 171, 3, 0, 14, 4, .ref 1), (68, .aload_n 3, 1, 3, 0, 0, .null), (69, .getfield 146, 3, 6, 2, 405, .null), (72, .getfield 150, 3, 3, 1, 350, .int 0), (75, .ireturn, 1, 0, 0, 0, .null)])]
set_option maxRecDepth 100000 in
theorem okB126 : okB 126 B126 = true := by decide +kernel
/-- TelegraphHouse.part(III)I -/
def B127 : List (Nat × List EEy) := [
  (0, [(0, .aload_n 0, 1, 0, 0, 0, .null), (1, .iload_n 1, 1, 1, 0, 0, .null), (2, .invokevirtual 138, 3, 0, 152, 2, .ref 11), (5, .astore 4, 2, 0, 0, 0, .null), (7, .aload 4, 2, 0, 0, 0, .null), (9, .ifnull 21, 3, 30, 0, 0, .null), (12, .iload_n 2, 1, 2, 0, 0, .null), (13, .iconst 0, 1, 0, 0, 0, .int (nI 0)), (14, .aload 4, 2, 0, 0, 0, .null), (16, .getfield 146, 3, 6, 2, 405, .null), (19, .getfield 158, 3, 3, 6, 360, .int 0), (22, .iconst 1, 1, 0, 0, 0, .int (nI 1)), (23, .isub, 1, 0, 0, 0, .null), (24, .invokestatic 88, 3, 1, 153, 3, .ref 11), (27, .ifCond .ne 5, 3, 32, 0, 0, .null)]),
  (30, [(30, .iconst (-1), 1, 0, 0, 0, .int (-1)), (31, .ireturn, 1, 0, 0, 0, .null)]),
  (32, [(32, .iload_n 3, 1, 3, 0, 0, .null), (33, .tableswitch 60 0 2 #[27, 38, 49], 27, 0, 0, 0, .null)]),
  (60, [(60, .aload 4, 2, 0, 0, 0, .null), (62, .getfield 146, 3, 6, 2, 405, .null), (65, .getfield 175, 3, 3, 3, 354, .null), (68, .iload_n 2, 1, 2, 0, 0, .null), (69, .iaload, 1, 0, 0, 0, .null), (70, .ireturn, 1, 0, 0, 0, .null)]),
  (71, [(71, .aload 4, 2, 0, 0, 0, .null), (73, .getfield 146, 3, 6, 2, 405, .null), (76, .getfield 178, 3, 3, 4, 356, .null), (79, .iload_n 2, 1, 2, 0, 0, .null), (80, .iaload, 1, 0, 0, 0, .null), (81, .ireturn, 1, 0, 0, 0, .null)]),
  (82, [(82, .aload 4, 2, 0, 0, 0, .null), (84, .getfield 146, 3, 6, 2, 405, .null), (87, .getfield 181, 3, 3, 5, 358, .null), (90, .iload_n 2, 1, 2, 0, 0, .null), (91, .iaload, 1, 0, 0, 0, .null), (92, .ireturn, 1, 0, 0, 0, .null)]),
  (93, [(93, .bipush (-2), 2, 0, 0, 0, .int (-2)), (95, .ireturn, 1, 0, 0, 0, .null)])]
set_option maxRecDepth 100000 in
theorem okB127 : okB 127 B127 = true := by decide +kernel
/-- TelegraphHouse.group(II)I -/
def B128 : List (Nat × List EEy) := [
  (0, [(0, .aload_n 0, 1, 0, 0, 0, .null), (1, .iload_n 1, 1, 1, 0, 0, .null), (2, .invokevirtual 138, 3, 0, 152, 2, .ref 11), (5, .astore_n 3, 1, 3, 0, 0, .null), (6, .aload_n 3, 1, 3, 0, 0, .null), (7, .ifnull 14, 3, 21, 0, 0, .null), (10, .aload_n 3, 1, 3, 0, 0, .null), (11, .getfield 146, 3, 6, 2, 405, .null), (14, .iload_n 2, 1, 2, 0, 0, .null), (15, .invokevirtual 184, 3, 0, 29, 2, .ref 3), (18, .ifCond .ne 5, 3, 23, 0, 0, .null)]),
  (21, [(21, .iconst (-1), 1, 0, 0, 0, .int (-1)), (22, .ireturn, 1, 0, 0, 0, .null)]),
  (23, [(23, .aload_n 3, 1, 3, 0, 0, .null), (24, .getfield 146, 3, 6, 2, 405, .null), (27, .iload_n 2, 1, 2, 0, 0, .null), (28, .invokevirtual 187, 3, 0, 33, 2, .ref 3), (31, .ireturn, 1, 0, 0, 0, .null)])]
set_option maxRecDepth 100000 in
theorem okB128 : okB 128 B128 = true := by decide +kernel
/-- TelegraphHouse.expands(I)I -/
def B129 : List (Nat × List EEy) := [
  (0, [(0, .aload_n 0, 1, 0, 0, 0, .null), (1, .iload_n 1, 1, 1, 0, 0, .null), (2, .invokevirtual 138, 3, 0, 152, 2, .ref 11), (5, .astore_n 2, 1, 2, 0, 0, .null), (6, .aload_n 2, 1, 2, 0, 0, .null), (7, .ifnonnull 5, 3, 12, 0, 0, .null), (10, .iconst (-1), 1, 0, 0, 0, .int (-1)), (11, .ireturn, 1, 0, 0, 0, .null)]),
  (12, [(12, .aload_n 0, 1, 0, 0, 0, .null), (13, .aload_n 2, 1, 2, 0, 0, .null), (14, .getfield 146, 3, 6, 2, 405, .null), (17, .getfield 155, 3, 3, 2, 352, .int 0), (20, .invokevirtual 98, 3, 0, 151, 2, .ref 11), (23, .astore_n 3, 1, 3, 0, 0, .null), (24, .aload_n 3, 1, 3, 0, 0, .null), (25, .ifnonnull 6, 3, 31, 0, 0, .null), (28, .bipush (-3), 2, 0, 0, 0, .int (-3)), (30, .ireturn, 1, 0, 0, 0, .null)]),
  (31, [(31, .aload_n 0, 1, 0, 0, 0, .null), (32, .getfield 45, 3, 11, 7, 257, .null), (35, .aload_n 2, 1, 2, 0, 0, .null), (36, .aload_n 3, 1, 3, 0, 0, .null), (37, .invokevirtual 190, 3, 0, 17, 3, .ref 2), (40, .ireturn, 1, 0, 0, 0, .null)])]
set_option maxRecDepth 100000 in
theorem okB129 : okB 129 B129 = true := by decide +kernel
/-- TelegraphHouse.best(I)I -/
def B130 : List (Nat × List EEy) := [
  (0, [(0, .aload_n 0, 1, 0, 0, 0, .null), (1, .iload_n 1, 1, 1, 0, 0, .null), (2, .invokevirtual 138, 3, 0, 152, 2, .ref 11), (5, .astore_n 2, 1, 2, 0, 0, .null), (6, .aload_n 2, 1, 2, 0, 0, .null), (7, .ifnonnull 5, 3, 12, 0, 0, .null), (10, .iconst (-1), 1, 0, 0, 0, .int (-1)), (11, .ireturn, 1, 0, 0, 0, .null)]),
  (12, [(12, .bipush (-9), 2, 0, 0, 0, .int (-9)), (14, .istore_n 3, 1, 3, 0, 0, .null), (15, .bipush 81, 2, 0, 0, 0, .int (nI 81)), (17, .istore 4, 2, 0, 0, 0, .null), (19, .iconst 0, 1, 0, 0, 0, .int (nI 0)), (20, .istore 5, 2, 0, 0, 0, .null)]),
  (22, [(22, .iload 5, 2, 0, 0, 0, .null), (24, .iconst 3, 1, 0, 0, 0, .int (nI 3)), (25, .if_icmp .ge 56, 3, 81, 0, 0, .null), (28, .aload_n 0, 1, 0, 0, 0, .null), (29, .iload 5, 2, 0, 0, 0, .null), (31, .invokevirtual 98, 3, 0, 151, 2, .ref 11), (34, .astore 6, 2, 0, 0, 0, .null), (36, .aload 6, 2, 0, 0, 0, .null), (38, .ifnull 37, 3, 75, 0, 0, .null), (41, .aload 6, 2, 0, 0, 0, .null), (43, .getfield 106, 3, 0, 6, 491, .float 0), (46, .ifCond .eq 29, 3, 75, 0, 0, .null), (49, .aload_n 0, 1, 0, 0, 0, .null), (50, .getfield 38, 3, 11, 6, 256, .null), (53, .aload_n 2, 1, 2, 0, 0, .null), (54, .aload 6, 2, 0, 0, 0, .null), (56, .invokevirtual 167, 3, 0, 11, 3, .ref 1), (59, .istore 7, 2, 0, 0, 0, .null), (61, .iload 7, 2, 0, 0, 0, .null), (63, .iload 4, 2, 0, 0, 0, .null), (65, .if_icmp .ge 10, 3, 75, 0, 0, .null), (68, .iload 7, 2, 0, 0, 0, .null), (70, .istore 4, 2, 0, 0, 0, .null), (72, .iload 5, 2, 0, 0, 0, .null), (74, .istore_n 3, 1, 3, 0, 0, .null)]),
  (75, [(75, .iinc 5 1, 3, 0, 0, 0, .int (nI 1)), (78, .goto (-56), 3, 22, 0, 0, .null)]),
  (81, [(81, .iload_n 3, 1, 3, 0, 0, .null), (82, .ireturn, 1, 0, 0, 0, .null)])]
set_option maxRecDepth 100000 in
theorem okB130 : okB 130 B130 = true := by decide +kernel
/-- TelegraphHouse.guard(I)I -/
def B131 : List (Nat × List EEy) := [
  (0, [(0, .aload_n 0, 1, 0, 0, 0, .null), (1, .iload_n 1, 1, 1, 0, 0, .null), (2, .invokevirtual 138, 3, 0, 152, 2, .ref 11), (5, .astore_n 2, 1, 2, 0, 0, .null), (6, .aload_n 2, 1, 2, 0, 0, .null), (7, .ifnonnull 5, 3, 12, 0, 0, .null), (10, .iconst (-1), 1, 0, 0, 0, .int (-1)), (11, .ireturn, 1, 0, 0, 0, .null)]),
  (12, [(12, .aload_n 2, 1, 2, 0, 0, .null), (13, .getfield 146, 3, 6, 2, 405, .null), (16, .getfield 150, 3, 3, 1, 350, .int 0), (19, .ifCond .ne 6, 3, 25, 0, 0, .null), (22, .bipush (-3), 2, 0, 0, 0, .int (-3)), (24, .ireturn, 1, 0, 0, 0, .null)]),
  (25, [(25, .aload_n 2, 1, 2, 0, 0, .null), (26, .getfield 146, 3, 6, 2, 405, .null), (29, .invokevirtual 193, 3, 0, 40, 1, .ref 3), (32, .aload_n 2, 1, 2, 0, 0, .null), (33, .getfield 146, 3, 6, 2, 405, .null), (36, .getfield 161, 3, 3, 10, 368, .int 0), (39, .ireturn, 1, 0, 0, 0, .null)])]
set_option maxRecDepth 100000 in
theorem okB131 : okB 131 B131 = true := by decide +kernel
/-- TelegraphHouse.sum(III)I -/
def B132 : List (Nat × List EEy) := [
  (0, [(0, .aload_n 0, 1, 0, 0, 0, .null), (1, .iload_n 1, 1, 1, 0, 0, .null), (2, .invokevirtual 138, 3, 0, 152, 2, .ref 11), (5, .astore 4, 2, 0, 0, 0, .null), (7, .aload 4, 2, 0, 0, 0, .null), (9, .ifnull 15, 3, 24, 0, 0, .null), (12, .aload 4, 2, 0, 0, 0, .null), (14, .getfield 146, 3, 6, 2, 405, .null), (17, .iload_n 2, 1, 2, 0, 0, .null), (18, .invokevirtual 196, 3, 0, 30, 2, .ref 3), (21, .ifCond .ne 5, 3, 26, 0, 0, .null)]),
  (24, [(24, .iconst (-1), 1, 0, 0, 0, .int (-1)), (25, .ireturn, 1, 0, 0, 0, .null)]),
  (26, [(26, .iload_n 3, 1, 3, 0, 0, .null), (27, .lookupswitch 47 #[(0, 25), (1, 36)], 25, 0, 0, 0, .null)]),
  (52, [(52, .aload 4, 2, 0, 0, 0, .null), (54, .getfield 146, 3, 6, 2, 405, .null), (57, .getfield 199, 3, 3, 7, 362, .null), (60, .iload_n 2, 1, 2, 0, 0, .null), (61, .iaload, 1, 0, 0, 0, .null), (62, .ireturn, 1, 0, 0, 0, .null)]),
  (63, [(63, .aload 4, 2, 0, 0, 0, .null), (65, .getfield 146, 3, 6, 2, 405, .null), (68, .getfield 202, 3, 3, 8, 364, .null), (71, .iload_n 2, 1, 2, 0, 0, .null), (72, .iaload, 1, 0, 0, 0, .null), (73, .ireturn, 1, 0, 0, 0, .null)]),
  (74, [(74, .bipush (-2), 2, 0, 0, 0, .int (-2)), (76, .ireturn, 1, 0, 0, 0, .null)])]
set_option maxRecDepth 100000 in
theorem okB132 : okB 132 B132 = true := by decide +kernel
/-- TelegraphHouse.hurt(IIII)I -/
def B133 : List (Nat × List EEy) := [
  (0, [(0, .aload_n 0, 1, 0, 0, 0, .null), (1, .iload_n 1, 1, 1, 0, 0, .null), (2, .invokevirtual 138, 3, 0, 152, 2, .ref 11), (5, .astore 5, 2, 0, 0, 0, .null), (7, .aload 5, 2, 0, 0, 0, .null), (9, .ifnull 15, 3, 24, 0, 0, .null), (12, .aload 5, 2, 0, 0, 0, .null), (14, .getfield 146, 3, 6, 2, 405, .null), (17, .iload_n 2, 1, 2, 0, 0, .null), (18, .invokevirtual 184, 3, 0, 29, 2, .ref 3), (21, .ifCond .ne 5, 3, 26, 0, 0, .null)]),
  (24, [(24, .iconst (-1), 1, 0, 0, 0, .int (-1)), (25, .ireturn, 1, 0, 0, 0, .null)]),
  (26, [(26, .iload_n 3, 1, 3, 0, 0, .null), (27, .iconst 0, 1, 0, 0, 0, .int (nI 0)), (28, .iconst 4, 1, 0, 0, 0, .int (nI 4)), (29, .invokestatic 88, 3, 1, 153, 3, .ref 11), (32, .ifCond .eq 14, 3, 46, 0, 0, .null), (35, .iload 4, 2, 0, 0, 0, .null), (37, .iconst 0, 1, 0, 0, 0, .int (nI 0)), (38, .bipush 25, 2, 0, 0, 0, .int (nI 25)), (40, .invokestatic 88, 3, 1, 153, 3, .ref 11), (43, .ifCond .ne 6, 3, 49, 0, 0, .null)]),
  (46, [(46, .bipush (-2), 2, 0, 0, 0, .int (-2)), (48, .ireturn, 1, 0, 0, 0, .null)]),
  (49, [(49, .aload 5, 2, 0, 0, 0, .null), (51, .getfield 146, 3, 6, 2, 405, .null), (54, .iload_n 2, 1, 2, 0, 0, .null), (55, .iload_n 3, 1, 3, 0, 0, .null), (56, .iload 4, 2, 0, 0, 0, .null), (58, .invokevirtual 205, 3, 0, 32, 4, .ref 3), (61, .ireturn, 1, 0, 0, 0, .null)])]
set_option maxRecDepth 100000 in
theorem okB133 : okB 133 B133 = true := by decide +kernel
/-- TelegraphHouse.swap(III)I -/
def B134 : List (Nat × List EEy) := [
  (0, [(0, .aload_n 0, 1, 0, 0, 0, .null), (1, .iload_n 1, 1, 1, 0, 0, .null), (2, .invokevirtual 138, 3, 0, 152, 2, .ref 11), (5, .astore 4, 2, 0, 0, 0, .null), (7, .aload 4, 2, 0, 0, 0, .null), (9, .ifnull 15, 3, 24, 0, 0, .null), (12, .aload 4, 2, 0, 0, 0, .null), (14, .getfield 146, 3, 6, 2, 405, .null), (17, .iload_n 2, 1, 2, 0, 0, .null), (18, .invokevirtual 184, 3, 0, 29, 2, .ref 3), (21, .ifCond .ne 5, 3, 26, 0, 0, .null)]),
  (24, [(24, .iconst (-1), 1, 0, 0, 0, .int (-1)), (25, .ireturn, 1, 0, 0, 0, .null)]),
  (26, [(26, .iload_n 3, 1, 3, 0, 0, .null), (27, .iconst 0, 1, 0, 0, 0, .int (nI 0)), (28, .iconst 3, 1, 0, 0, 0, .int (nI 3)), (29, .invokestatic 88, 3, 1, 153, 3, .ref 11), (32, .ifCond .ne 6, 3, 38, 0, 0, .null), (35, .bipush (-2), 2, 0, 0, 0, .int (-2)), (37, .ireturn, 1, 0, 0, 0, .null)]),
  (38, [(38, .aload 4, 2, 0, 0, 0, .null), (40, .getfield 146, 3, 6, 2, 405, .null), (43, .iload_n 2, 1, 2, 0, 0, .null), (44, .iload_n 3, 1, 3, 0, 0, .null), (45, .invokevirtual 209, 3, 0, 31, 3, .ref 3), (48, .istore 5, 2, 0, 0, 0, .null), (50, .aload 4, 2, 0, 0, 0, .null), (52, .getfield 146, 3, 6, 2, 405, .null), (55, .iload_n 2, 1, 2, 0, 0, .null), (56, .iload_n 3, 1, 3, 0, 0, .null), (57, .iconst 1, 1, 0, 0, 0, .int (nI 1)), (58, .iadd, 1, 0, 0, 0, .null), (59, .iload 5, 2, 0, 0, 0, .null), (61, .invokevirtual 205, 3, 0, 32, 4, .ref 3), (64, .istore 6, 2, 0, 0, 0, .null), (66, .aload 4, 2, 0, 0, 0, .null), (68, .getfield 146, 3, 6, 2, 405, .null), (71, .iload_n 2, 1, 2, 0, 0, .null), (72, .iload_n 3, 1, 3, 0, 0, .null), (73, .iload 6, 2, 0, 0, 0, .null), (75, .invokevirtual 205, 3, 0, 32, 4, .ref 3), (78, .pop, 1, 0, 0, 0, .null), (79, .iload 5, 2, 0, 0, 0, .null), (81, .iload 6, 2, 0, 0, 0, .null), (83, .if_icmp .ne 7, 3, 90, 0, 0, .null), (86, .iconst 0, 1, 0, 0, 0, .int (nI 0)), (87, .goto 4, 3, 91, 0, 0, .null)]),
  (90, [(90, .iconst 1, 1, 0, 0, 0, .int (nI 1))]),
  (91, [(91, .ireturn, 1, 0, 0, 0, .null)])]
set_option maxRecDepth 100000 in
theorem okB134 : okB 134 B134 = true := by decide +kernel
/-- TelegraphHouse.mend(I)I -/
def B135 : List (Nat × List EEy) := [
  (0, [(0, .aload_n 0, 1, 0, 0, 0, .null), (1, .iload_n 1, 1, 1, 0, 0, .null), (2, .invokevirtual 138, 3, 0, 152, 2, .ref 11), (5, .astore_n 2, 1, 2, 0, 0, .null), (6, .aload_n 2, 1, 2, 0, 0, .null), (7, .ifnonnull 5, 3, 12, 0, 0, .null), (10, .iconst (-1), 1, 0, 0, 0, .int (-1)), (11, .ireturn, 1, 0, 0, 0, .null)]),
  (12, [(12, .aload_n 2, 1, 2, 0, 0, .null), (13, .getfield 146, 3, 6, 2, 405, .null), (16, .getfield 161, 3, 3, 10, 368, .int 0), (19, .ifCond .ne 6, 3, 25, 0, 0, .null), (22, .bipush (-3), 2, 0, 0, 0, .int (-3)), (24, .ireturn, 1, 0, 0, 0, .null)]),
  (25, [(25, .aload_n 2, 1, 2, 0, 0, .null), (26, .getfield 146, 3, 6, 2, 405, .null), (29, .invokevirtual 213, 3, 0, 46, 1, .ref 3), (32, .ireturn, 1, 0, 0, 0, .null)])]
set_option maxRecDepth 100000 in
theorem okB135 : okB 135 B135 = true := by decide +kernel
/-- TelegraphHouse.mended(II)I -/
def B136 : List (Nat × List EEy) := [
  (0, [(0, .aload_n 0, 1, 0, 0, 0, .null), (1, .iload_n 1, 1, 1, 0, 0, .null), (2, .invokevirtual 138, 3, 0, 152, 2, .ref 11), (5, .astore_n 3, 1, 3, 0, 0, .null), (6, .aload_n 3, 1, 3, 0, 0, .null), (7, .ifnull 14, 3, 21, 0, 0, .null), (10, .aload_n 3, 1, 3, 0, 0, .null), (11, .getfield 146, 3, 6, 2, 405, .null), (14, .iload_n 2, 1, 2, 0, 0, .null), (15, .invokevirtual 196, 3, 0, 30, 2, .ref 3), (18, .ifCond .ne 5, 3, 23, 0, 0, .null)]),
  (21, [(21, .iconst (-1), 1, 0, 0, 0, .int (-1)), (22, .ireturn, 1, 0, 0, 0, .null)]),
  (23, [(23, .aload_n 3, 1, 3, 0, 0, .null), (24, .getfield 146, 3, 6, 2, 405, .null), (27, .getfield 216, 3, 3, 9, 366, .null), (30, .iload_n 2, 1, 2, 0, 0, .null), (31, .iaload, 1, 0, 0, 0, .null), (32, .ireturn, 1, 0, 0, 0, .null)])]
set_option maxRecDepth 100000 in
theorem okB136 : okB 136 B136 = true := by decide +kernel
/-- TelegraphHouse.charge(IIZZZ)I -/
def B137 : List (Nat × List EEy) := [
  (0, [(0, .aload_n 0, 1, 0, 0, 0, .null), (1, .iload_n 1, 1, 1, 0, 0, .null), (2, .invokevirtual 138, 3, 0, 152, 2, .ref 11), (5, .astore 6, 2, 0, 0, 0, .null), (7, .aload 6, 2, 0, 0, 0, .null), (9, .ifnonnull 5, 3, 14, 0, 0, .null), (12, .iconst (-1), 1, 0, 0, 0, .int (-1)), (13, .ireturn, 1, 0, 0, 0, .null)]),
  (14, [(14, .iload_n 2, 1, 2, 0, 0, .null), (15, .iconst 0, 1, 0, 0, 0, .int (nI 0)), (16, .getstatic 219, 3, 0, 857, 0, .null), (19, .arraylength, 1, 0, 0, 0, .null), (20, .iconst 1, 1, 0, 0, 0, .int (nI 1)), (21, .isub, 1, 0, 0, 0, .null), (22, .invokestatic 88, 3, 1, 153, 3, .ref 11), (25, .ifCond .ne 6, 3, 31, 0, 0, .null), (28, .bipush (-2), 2, 0, 0, 0, .int (-2)), (30, .ireturn, 1, 0, 0, 0, .null)]),
  (31, [(31, .iload_n 3, 1, 3, 0, 0, .null), (32, .ifCond .eq 11, 3, 43, 0, 0, .null), (35, .iload 4, 2, 0, 0, 0, .null), (37, .ifCond .eq 6, 3, 43, 0, 0, .null), (40, .bipush (-3), 2, 0, 0, 0, .int (-3)), (42, .ireturn, 1, 0, 0, 0, .null)]),
  (43, [(43, .iconst 5, 1, 0, 0, 0, .int (nI 5)), (44, .aload 6, 2, 0, 0, 0, .null), (46, .invokevirtual 143, 3, 0, 60, 1, .ref 6), (49, .invokestatic 222, 3, 11, 859, 0, .null), (52, .getstatic 219, 3, 0, 857, 0, .null), (55, .iload_n 2, 1, 2, 0, 0, .null), (56, .iaload, 1, 0, 0, 0, .null), (57, .imul, 1, 0, 0, 0, .null), (58, .istore 7, 2, 0, 0, 0, .null), (60, .iload_n 3, 1, 3, 0, 0, .null), (61, .ifCond .eq 9, 3, 70, 0, 0, .null), (64, .iconst 3, 1, 0, 0, 0, .int (nI 3)), (65, .iload 7, 2, 0, 0, 0, .null), (67, .imul, 1, 0, 0, 0, .null), (68, .istore 7, 2, 0, 0, 0, .null)]),
  (70, [(70, .iload 4, 2, 0, 0, 0, .null), (72, .ifCond .eq 11, 3, 83, 0, 0, .null), (75, .iload 7, 2, 0, 0, 0, .null), (77, .iconst 1, 1, 0, 0, 0, .int (nI 1)), (78, .iadd, 1, 0, 0, 0, .null), (79, .iconst 2, 1, 0, 0, 0, .int (nI 2)), (80, .idiv, 1, 0, 0, 0, .null), (81, .istore 7, 2, 0, 0, 0, .null)]),
  (83, [(83, .iload 5, 2, 0, 0, 0, .null), (85, .ifCond .eq 17, 3, 102, 0, 0, .null), (88, .iload 7, 2, 0, 0, 0, .null), (90, .bipush 10, 2, 0, 0, 0, .int (nI 10)), (92, .getstatic 219, 3, 0, 857, 0, .null), (95, .iload_n 2, 1, 2, 0, 0, .null), (96, .iaload, 1, 0, 0, 0, .null), (97, .imul, 1, 0, 0, 0, .null), (98, .iadd, 1, 0, 0, 0, .null), (99, .goto 5, 3, 104, 0, 0, .null)]),
  (102, [(102, .iload 7, 2, 0, 0, 0, .null)]),
  (104, [(104, .ireturn, 1, 0, 0, 0, .null)])]
set_option maxRecDepth 100000 in
theorem okB137 : okB 137 B137 = true := by decide +kernel
/-- TelegraphHouse.station()I -/
def B138 : List (Nat × List EEy) := [
  (0, [(0, .aload_n 0, 1, 0, 0, 0, .null), (1, .getfield 52, 3, 11, 8, 258, .null), (4, .invokevirtual 227, 3, 0, 62, 1, .ref 7), (7, .ireturn, 1, 0, 0, 0, .null)])]
set_option maxRecDepth 100000 in
theorem okB138 : okB 138 B138 = true := by decide +kernel
/-- TelegraphHouse.line(IIIII)I -/
def B139 : List (Nat × List EEy) := [
  (0, [(0, .aload_n 0, 1, 0, 0, 0, .null), (1, .getfield 52, 3, 11, 8, 258, .null), (4, .iload_n 1, 1, 1, 0, 0, .null), (5, .invokevirtual 230, 3, 0, 65, 2, .ref 7), (8, .ifCond .eq 14, 3, 22, 0, 0, .null), (11, .aload_n 0, 1, 0, 0, 0, .null), (12, .getfield 52, 3, 11, 8, 258, .null), (15, .iload_n 2, 1, 2, 0, 0, .null), (16, .invokevirtual 230, 3, 0, 65, 2, .ref 7), (19, .ifCond .ne 5, 3, 24, 0, 0, .null)]),
  (22, [(22, .iconst (-1), 1, 0, 0, 0, .int (-1)), (23, .ireturn, 1, 0, 0, 0, .null)]),
  (24, [(24, .iload_n 3, 1, 3, 0, 0, .null), (25, .iconst 1, 1, 0, 0, 0, .int (nI 1)), (26, .bipush 60, 2, 0, 0, 0, .int (nI 60)), (28, .invokestatic 88, 3, 1, 153, 3, .ref 11), (31, .ifCond .eq 25, 3, 56, 0, 0, .null), (34, .iload 4, 2, 0, 0, 0, .null), (36, .iconst 0, 1, 0, 0, 0, .int (nI 0)), (37, .bipush 23, 2, 0, 0, 0, .int (nI 23)), (39, .invokestatic 88, 3, 1, 153, 3, .ref 11), (42, .ifCond .eq 14, 3, 56, 0, 0, .null), (45, .iload 5, 2, 0, 0, 0, .null), (47, .iconst 0, 1, 0, 0, 0, .int (nI 0)), (48, .bipush 23, 2, 0, 0, 0, .int (nI 23)), (50, .invokestatic 88, 3, 1, 153, 3, .ref 11), (53, .ifCond .ne 6, 3, 59, 0, 0, .null)]),
  (56, [(56, .bipush (-2), 2, 0, 0, 0, .int (-2)), (58, .ireturn, 1, 0, 0, 0, .null)]),
  (59, [(59, .iload_n 1, 1, 1, 0, 0, .null), (60, .iload_n 2, 1, 2, 0, 0, .null), (61, .if_icmp .ne 6, 3, 67, 0, 0, .null), (64, .bipush (-3), 2, 0, 0, 0, .int (-3)), (66, .ireturn, 1, 0, 0, 0, .null)]),
  (67, [(67, .aload_n 0, 1, 0, 0, 0, .null), (68, .getfield 52, 3, 11, 8, 258, .null), (71, .iload_n 1, 1, 1, 0, 0, .null), (72, .iload_n 2, 1, 2, 0, 0, .null), (73, .iload_n 3, 1, 3, 0, 0, .null), (74, .iload 4, 2, 0, 0, 0, .null), (76, .iload 5, 2, 0, 0, 0, .null), (78, .invokevirtual 233, 3, 20, 63, 6, .ref 7), (81, .ireturn, 1, 0, 0, 0, .null)])]
set_option maxRecDepth 100000 in
theorem okB139 : okB 139 B139 = true := by decide +kernel
/-- TelegraphHouse.path(III)I -/
def B140 : List (Nat × List EEy) := [
  (0, [(0, .aload_n 0, 1, 0, 0, 0, .null), (1, .getfield 52, 3, 11, 8, 258, .null), (4, .iload_n 1, 1, 1, 0, 0, .null), (5, .invokevirtual 230, 3, 0, 65, 2, .ref 7), (8, .ifCond .eq 14, 3, 22, 0, 0, .null), (11, .aload_n 0, 1, 0, 0, 0, .null), (12, .getfield 52, 3, 11, 8, 258, .null), (15, .iload_n 2, 1, 2, 0, 0, .null), (16, .invokevirtual 230, 3, 0, 65, 2, .ref 7), (19, .ifCond .ne 5, 3, 24, 0, 0, .null)]),
  (22, [(22, .iconst (-1), 1, 0, 0, 0, .int (-1)), (23, .ireturn, 1, 0, 0, 0, .null)]),
  (24, [(24, .aload_n 0, 1, 0, 0, 0, .null), (25, .getfield 52, 3, 11, 8, 258, .null), (28, .iload_n 1, 1, 1, 0, 0, .null), (29, .iload_n 2, 1, 2, 0, 0, .null), (30, .invokevirtual 237, 3, 0, 73, 3, .ref 7), (33, .ifCond .eq 17, 3, 50, 0, 0, .null), (36, .aload_n 0, 1, 0, 0, 0, .null), (37, .getfield 52, 3, 11, 8, 258, .null), (40, .getfield 241, 3, 7, 7, 222, .null), (43, .iload_n 3, 1, 3, 0, 0, .null), (44, .invokevirtual 245, 3, 0, 96, 2, .ref 8), (47, .goto 5, 3, 52, 0, 0, .null)]),
  (50, [(50, .bipush (-9), 2, 0, 0, 0, .int (-9))]),
  (52, [(52, .ireturn, 1, 0, 0, 0, .null)])]
set_option maxRecDepth 100000 in
theorem okB140 : okB 140 B140 = true := by decide +kernel
/-- TelegraphHouse.far(II)I -/
def B141 : List (Nat × List EEy) := [
  (0, [(0, .aload_n 0, 1, 0, 0, 0, .null), (1, .getfield 52, 3, 11, 8, 258, .null), (4, .iload_n 1, 1, 1, 0, 0, .null), (5, .invokevirtual 230, 3, 0, 65, 2, .ref 7), (8, .ifCond .eq 14, 3, 22, 0, 0, .null), (11, .aload_n 0, 1, 0, 0, 0, .null), (12, .getfield 52, 3, 11, 8, 258, .null), (15, .iload_n 2, 1, 2, 0, 0, .null), (16, .invokevirtual 230, 3, 0, 65, 2, .ref 7), (19, .ifCond .ne 5, 3, 24, 0, 0, .null)]),
  (22, [(22, .iconst (-1), 1, 0, 0, 0, .int (-1)), (23, .ireturn, 1, 0, 0, 0, .null)]),
  (24, [(24, .aload_n 0, 1, 0, 0, 0, .null), (25, .getfield 52, 3, 11, 8, 258, .null), (28, .iload_n 1, 1, 1, 0, 0, .null), (29, .iload_n 2, 1, 2, 0, 0, .null), (30, .invokevirtual 250, 3, 0, 72, 3, .ref 7), (33, .ireturn, 1, 0, 0, 0, .null)])]
set_option maxRecDepth 100000 in
theorem okB141 : okB 141 B141 = true := by decide +kernel
/-- TelegraphHouse.send(IIII)I -/
def B142 : List (Nat × List EEy) := [
  (0, [(0, .aload_n 0, 1, 0, 0, 0, .null), (1, .iload_n 1, 1, 1, 0, 0, .null), (2, .invokevirtual 138, 3, 0, 152, 2, .ref 11), (5, .astore 5, 2, 0, 0, 0, .null), (7, .aload 5, 2, 0, 0, 0, .null), (9, .ifnull 25, 3, 34, 0, 0, .null), (12, .aload_n 0, 1, 0, 0, 0, .null), (13, .getfield 52, 3, 11, 8, 258, .null), (16, .iload_n 2, 1, 2, 0, 0, .null), (17, .invokevirtual 230, 3, 0, 65, 2, .ref 7), (20, .ifCond .eq 14, 3, 34, 0, 0, .null), (23, .aload_n 0, 1, 0, 0, 0, .null), (24, .getfield 52, 3, 11, 8, 258, .null), (27, .iload_n 3, 1, 3, 0, 0, .null), (28, .invokevirtual 230, 3, 0, 65, 2, .ref 7), (31, .ifCond .ne 5, 3, 36, 0, 0, .null)]),
  (34, [(34, .iconst (-1), 1, 0, 0, 0, .int (-1)), (35, .ireturn, 1, 0, 0, 0, .null)]),
  (36, [(36, .iload 4, 2, 0, 0, 0, .null), (38, .iconst 0, 1, 0, 0, 0, .int (nI 0)), (39, .iconst 2, 1, 0, 0, 0, .int (nI 2)), (40, .invokestatic 88, 3, 1, 153, 3, .ref 11), (43, .ifCond .ne 6, 3, 49, 0, 0, .null), (46, .bipush (-2), 2, 0, 0, 0, .int (-2)), (48, .ireturn, 1, 0, 0, 0, .null)]),
  (49, [(49, .aload_n 0, 1, 0, 0, 0, .null), (50, .getfield 52, 3, 11, 8, 258, .null), (53, .iload_n 1, 1, 1, 0, 0, .null), (54, .invokevirtual 164, 3, 0, 70, 2, .ref 7), (57, .ifCond .ne 20, 3, 77, 0, 0, .null), (60, .iload_n 2, 1, 2, 0, 0, .null), (61, .iload_n 3, 1, 3, 0, 0, .null), (62, .if_icmp .eq 15, 3, 77, 0, 0, .null), (65, .aload_n 0, 1, 0, 0, 0, .null), (66, .getfield 52, 3, 11, 8, 258, .null), (69, .iload_n 2, 1, 2, 0, 0, .null), (70, .iload_n 3, 1, 3, 0, 0, .null), (71, .invokevirtual 237, 3, 0, 73, 3, .ref 7), (74, .ifCond .ne 6, 3, 80, 0, 0, .null)]),
  (77, [(77, .bipush (-3), 2, 0, 0, 0, .int (-3)), (79, .ireturn, 1, 0, 0, 0, .null)]),
  (80, [(80, .aload_n 0, 1, 0, 0, 0, .null), (81, .getfield 52, 3, 11, 8, 258, .null), (84, .iload_n 1, 1, 1, 0, 0, .null), (85, .iload 4, 2, 0, 0, 0, .null), (87, .aload 5, 2, 0, 0, 0, .null), (89, .invokevirtual 143, 3, 0, 60, 1, .ref 6), (92, .invokevirtual 253, 3, 0, 80, 4, .ref 7), (95, .ireturn, 1, 0, 0, 0, .null)])]
set_option maxRecDepth 100000 in
theorem okB142 : okB 142 B142 = true := by decide +kernel
/-- TelegraphHouse.step(I)I -/
def B143 : List (Nat × List EEy) := [
  (0, [(0, .iload_n 1, 1, 1, 0, 0, .null), (1, .iconst 1, 1, 0, 0, 0, .int (nI 1)), (2, .sipush 300, 3, 0, 0, 0, .int (nI 300)), (5, .invokestatic 88, 3, 1, 153, 3, .ref 11), (8, .ifCond .ne 6, 3, 14, 0, 0, .null), (11, .bipush (-2), 2, 0, 0, 0, .int (-2)), (13, .ireturn, 1, 0, 0, 0, .null)]),
  (14, [(14, .aload_n 0, 1, 0, 0, 0, .null), (15, .getfield 52, 3, 11, 8, 258, .null), (18, .getfield 256, 3, 7, 8, 224, .int 0), (21, .iload_n 1, 1, 1, 0, 0, .null), (22, .iadd, 1, 0, 0, 0, .null), (23, .sipush 6000, 3, 0, 0, 0, .int (nI 6000)), (26, .if_icmp .le 6, 3, 32, 0, 0, .null), (29, .bipush (-4), 2, 0, 0, 0, .int (-4)), (31, .ireturn, 1, 0, 0, 0, .null)]),
  (32, [(32, .iconst 0, 1, 0, 0, 0, .int (nI 0)), (33, .istore_n 2, 1, 2, 0, 0, .null), (34, .iconst 0, 1, 0, 0, 0, .int (nI 0)), (35, .istore_n 3, 1, 3, 0, 0, .null)]),
  (36, [(36, .iload_n 3, 1, 3, 0, 0, .null), (37, .iload_n 1, 1, 1, 0, 0, .null), (38, .if_icmp .ge 19, 3, 57, 0, 0, .null), (41, .iload_n 2, 1, 2, 0, 0, .null), (42, .aload_n 0, 1, 0, 0, 0, .null), (43, .getfield 52, 3, 11, 8, 258, .null), (46, .invokevirtual 259, 3, 0, 84, 1, .ref 7), (49, .iadd, 1, 0, 0, 0, .null), (50, .istore_n 2, 1, 2, 0, 0, .null), (51, .iinc 3 1, 3, 0, 0, 0, .int (nI 1)), (54, .goto (-18), 3, 36, 0, 0, .null)]),
  (57, [(57, .iload_n 2, 1, 2, 0, 0, .null), (58, .ireturn, 1, 0, 0, 0, .null)])]
set_option maxRecDepth 100000 in
theorem okB143 : okB 143 B143 = true := by decide +kernel
/-- TelegraphHouse.clock()I -/
def B144 : List (Nat × List EEy) := [
  (0, [(0, .aload_n 0, 1, 0, 0, 0, .null), (1, .getfield 52, 3, 11, 8, 258, .null), (4, .getfield 256, 3, 7, 8, 224, .int 0), (7, .ireturn, 1, 0, 0, 0, .null)])]
set_option maxRecDepth 100000 in
theorem okB144 : okB 144 B144 = true := by decide +kernel
/-- TelegraphHouse.where(II)I -/
def B145 : List (Nat × List EEy) := [
  (0, [(0, .aload_n 0, 1, 0, 0, 0, .null), (1, .getfield 52, 3, 11, 8, 258, .null), (4, .iload_n 1, 1, 1, 0, 0, .null), (5, .invokevirtual 262, 3, 0, 69, 2, .ref 7), (8, .astore_n 3, 1, 3, 0, 0, .null), (9, .aload_n 3, 1, 3, 0, 0, .null), (10, .ifnonnull 5, 3, 15, 0, 0, .null), (13, .iconst (-1), 1, 0, 0, 0, .int (-1)), (14, .ireturn, 1, 0, 0, 0, .null)]),
  (15, [(15, .iload_n 2, 1, 2, 0, 0, .null), (16, .tableswitch 52 0 3 #[32, 37, 42, 47], 32, 0, 0, 0, .null)]),
  (48, [(48, .aload_n 3, 1, 3, 0, 0, .null), (49, .getfield 266, 3, 4, 2, 429, .int 0), (52, .ireturn, 1, 0, 0, 0, .null)]),
  (53, [(53, .aload_n 3, 1, 3, 0, 0, .null), (54, .getfield 271, 3, 4, 3, 432, .int 0), (57, .ireturn, 1, 0, 0, 0, .null)]),
  (58, [(58, .aload_n 3, 1, 3, 0, 0, .null), (59, .getfield 274, 3, 4, 4, 435, .int 0), (62, .ireturn, 1, 0, 0, 0, .null)]),
  (63, [(63, .aload_n 3, 1, 3, 0, 0, .null), (64, .getfield 277, 3, 4, 5, 437, .int 0), (67, .ireturn, 1, 0, 0, 0, .null)]),
  (68, [(68, .bipush (-2), 2, 0, 0, 0, .int (-2)), (70, .ireturn, 1, 0, 0, 0, .null)])]
set_option maxRecDepth 100000 in
theorem okB145 : okB 145 B145 = true := by decide +kernel
/-- TelegraphHouse.queue(II)I -/
def B146 : List (Nat × List EEy) := [
  (0, [(0, .aload_n 0, 1, 0, 0, 0, .null), (1, .getfield 52, 3, 11, 8, 258, .null), (4, .iload_n 1, 1, 1, 0, 0, .null), (5, .invokevirtual 230, 3, 0, 65, 2, .ref 7), (8, .ifCond .eq 15, 3, 23, 0, 0, .null), (11, .aload_n 0, 1, 0, 0, 0, .null), (12, .getfield 52, 3, 11, 8, 258, .null), (15, .iload_n 1, 1, 1, 0, 0, .null), (16, .iload_n 2, 1, 2, 0, 0, .null), (17, .invokevirtual 280, 3, 0, 91, 3, .ref 7), (20, .goto 4, 3, 24, 0, 0, .null)]),
  (23, [(23, .iconst (-1), 1, 0, 0, 0, .int (-1))]),
  (24, [(24, .ireturn, 1, 0, 0, 0, .null)])]
set_option maxRecDepth 100000 in
theorem okB146 : okB 146 B146 = true := by decide +kernel
/-- TelegraphHouse.lose(I)I -/
def B147 : List (Nat × List EEy) := [
  (0, [(0, .aload_n 0, 1, 0, 0, 0, .null), (1, .getfield 52, 3, 11, 8, 258, .null), (4, .iload_n 1, 1, 1, 0, 0, .null), (5, .invokevirtual 283, 3, 0, 68, 2, .ref 7), (8, .astore_n 2, 1, 2, 0, 0, .null), (9, .aload_n 2, 1, 2, 0, 0, .null), (10, .ifnonnull 5, 3, 15, 0, 0, .null), (13, .iconst (-1), 1, 0, 0, 0, .int (-1)), (14, .ireturn, 1, 0, 0, 0, .null)]),
  (15, [(15, .aload_n 2, 1, 2, 0, 0, .null), (16, .dup, 1, 0, 0, 0, .null), (17, .getfield 287, 3, 5, 8, 900, .int 0), (20, .iconst 1, 1, 0, 0, 0, .int (nI 1)), (21, .iadd, 1, 0, 0, 0, .null), (22, .putfield 287, 3, 5, 8, 900, .int 0), (25, .aload_n 2, 1, 2, 0, 0, .null), (26, .getfield 287, 3, 5, 8, 900, .int 0), (29, .ireturn, 1, 0, 0, 0, .null)])]
set_option maxRecDepth 100000 in
theorem okB147 : okB 147 B147 = true := by decide +kernel
/-- TelegraphHouse.ask(I)I -/
def B148 : List (Nat × List EEy) := [
  (0, [(0, .aload_n 0, 1, 0, 0, 0, .null), (1, .getfield 52, 3, 11, 8, 258, .null), (4, .iload_n 1, 1, 1, 0, 0, .null), (5, .invokevirtual 230, 3, 0, 65, 2, .ref 7), (8, .ifCond .eq 14, 3, 22, 0, 0, .null), (11, .aload_n 0, 1, 0, 0, 0, .null), (12, .getfield 52, 3, 11, 8, 258, .null), (15, .iload_n 1, 1, 1, 0, 0, .null), (16, .invokevirtual 292, 3, 0, 83, 2, .ref 7), (19, .goto 4, 3, 23, 0, 0, .null)]),
  (22, [(22, .iconst (-1), 1, 0, 0, 0, .int (-1))]),
  (23, [(23, .ireturn, 1, 0, 0, 0, .null)])]
set_option maxRecDepth 100000 in
theorem okB148 : okB 148 B148 = true := by decide +kernel
/-- TelegraphHouse.ledger(II)I -/
def B149 : List (Nat × List EEy) := [
  (0, [(0, .aload_n 0, 1, 0, 0, 0, .null), (1, .getfield 52, 3, 11, 8, 258, .null), (4, .iload_n 1, 1, 1, 0, 0, .null), (5, .iload_n 2, 1, 2, 0, 0, .null), (6, .invokevirtual 295, 3, 0, 66, 3, .ref 7), (9, .ireturn, 1, 0, 0, 0, .null)])]
set_option maxRecDepth 100000 in
theorem okB149 : okB 149 B149 = true := by decide +kernel
/-- TelegraphHouse.count(I)I -/
def B150 : List (Nat × List EEy) := [
  (0, [(0, .iload_n 1, 1, 1, 0, 0, .null), (1, .tableswitch 121 0 8 #[51, 56, 61, 69, 77, 85, 94, 103, 112], 51, 0, 0, 0, .null)]),
  (52, [(52, .aload_n 0, 1, 0, 0, 0, .null), (53, .getfield 92, 3, 11, 3, 253, .int 0), (56, .ireturn, 1, 0, 0, 0, .null)]),
  (57, [(57, .aload_n 0, 1, 0, 0, 0, .null), (58, .getfield 64, 3, 11, 5, 255, .int 0), (61, .ireturn, 1, 0, 0, 0, .null)]),
  (62, [(62, .aload_n 0, 1, 0, 0, 0, .null), (63, .getfield 52, 3, 11, 8, 258, .null), (66, .getfield 298, 3, 7, 0, 213, .int 0), (69, .ireturn, 1, 0, 0, 0, .null)]),
  (70, [(70, .aload_n 0, 1, 0, 0, 0, .null), (71, .getfield 52, 3, 11, 8, 258, .null), (74, .getfield 301, 3, 7, 3, 217, .int 0), (77, .ireturn, 1, 0, 0, 0, .null)]),
  (78, [(78, .aload_n 0, 1, 0, 0, 0, .null), (79, .getfield 12, 3, 11, 0, 250, .null), (82, .getfield 304, 3, 10, 1, 105, .int 0), (85, .ireturn, 1, 0, 0, 0, .null)]),
  (86, [(86, .aload_n 0, 1, 0, 0, 0, .null), (87, .getfield 52, 3, 11, 8, 258, .null), (90, .iconst 1, 1, 0, 0, 0, .int (nI 1)), (91, .invokevirtual 307, 3, 0, 71, 2, .ref 7), (94, .ireturn, 1, 0, 0, 0, .null)]),
  (95, [(95, .aload_n 0, 1, 0, 0, 0, .null), (96, .getfield 52, 3, 11, 8, 258, .null), (99, .iconst 2, 1, 0, 0, 0, .int (nI 2)), (100, .invokevirtual 307, 3, 0, 71, 2, .ref 7), (103, .ireturn, 1, 0, 0, 0, .null)]),
  (104, [(104, .aload_n 0, 1, 0, 0, 0, .null), (105, .getfield 52, 3, 11, 8, 258, .null), (108, .iconst 3, 1, 0, 0, 0, .int (nI 3)), (109, .invokevirtual 307, 3, 0, 71, 2, .ref 7), (112, .ireturn, 1, 0, 0, 0, .null)]),
  (113, [(113, .aload_n 0, 1, 0, 0, 0, .null), (114, .getfield 52, 3, 11, 8, 258, .null), (117, .iconst 4, 1, 0, 0, 0, .int (nI 4)), (118, .invokevirtual 307, 3, 0, 71, 2, .ref 7), (121, .ireturn, 1, 0, 0, 0, .null)]),
  (122, [(122, .bipush (-2), 2, 0, 0, 0, .int (-2)), (124, .ireturn, 1, 0, 0, 0, .null)])]
set_option maxRecDepth 100000 in
theorem okB150 : okB 150 B150 = true := by decide +kernel
/-- TelegraphHouse.bookAt(I)LTelegraphHouse$Book; -/
def B151 : List (Nat × List EEy) := [
  (0, [(0, .iload_n 1, 1, 1, 0, 0, .null), (1, .iconst 0, 1, 0, 0, 0, .int (nI 0)), (2, .aload_n 0, 1, 0, 0, 0, .null), (3, .getfield 92, 3, 11, 3, 253, .int 0), (6, .iconst 1, 1, 0, 0, 0, .int (nI 1)), (7, .isub, 1, 0, 0, 0, .null), (8, .invokestatic 88, 3, 1, 153, 3, .ref 11), (11, .ifCond .eq 12, 3, 23, 0, 0, .null), (14, .aload_n 0, 1, 0, 0, 0, .null), (15, .getfield 25, 3, 11, 2, 252, .null), (18, .iload_n 1, 1, 1, 0, 0, .null), (19, .aaload, 1, 0, 0, 0, .null), (20, .goto 4, 3, 24, 0, 0, .null)]),
  (23, [(23, .aconst_null, 1, 0, 0, 0, .null)]),
  (24, [(24, .areturn, 1, 0, 0, 0, .null)])]
set_option maxRecDepth 100000 in
theorem okB151 : okB 151 B151 = true := by decide +kernel
/-- TelegraphHouse.messageAt(I)LTelegraphHouse$Message; -/
def B152 : List (Nat × List EEy) := [
  (0, [(0, .iload_n 1, 1, 1, 0, 0, .null), (1, .iconst 0, 1, 0, 0, 0, .int (nI 0)), (2, .aload_n 0, 1, 0, 0, 0, .null), (3, .getfield 64, 3, 11, 5, 255, .int 0), (6, .iconst 1, 1, 0, 0, 0, .int (nI 1)), (7, .isub, 1, 0, 0, 0, .null), (8, .invokestatic 88, 3, 1, 153, 3, .ref 11), (11, .ifCond .eq 12, 3, 23, 0, 0, .null), (14, .aload_n 0, 1, 0, 0, 0, .null), (15, .getfield 31, 3, 11, 4, 254, .null), (18, .iload_n 1, 1, 1, 0, 0, .null), (19, .aaload, 1, 0, 0, 0, .null), (20, .goto 4, 3, 24, 0, 0, .null)]),
  (23, [(23, .aconst_null, 1, 0, 0, 0, .null)]),
  (24, [(24, .areturn, 1, 0, 0, 0, .null)])]
set_option maxRecDepth 100000 in
theorem okB152 : okB 152 B152 = true := by decide +kernel
/-- TelegraphHouse.within(III)Z -/
def B153 : List (Nat × List EEy) := [
  (0, [(0, .iload_n 0, 1, 0, 0, 0, .null), (1, .iload_n 1, 1, 1, 0, 0, .null), (2, .if_icmp .lt 12, 3, 14, 0, 0, .null), (5, .iload_n 0, 1, 0, 0, 0, .null), (6, .iload_n 2, 1, 2, 0, 0, .null), (7, .if_icmp .gt 7, 3, 14, 0, 0, .null), (10, .iconst 1, 1, 0, 0, 0, .int (nI 1)), (11, .goto 4, 3, 15, 0, 0, .null)]),
  (14, [(14, .iconst 0, 1, 0, 0, 0, .int (nI 0))]),
  (15, [(15, .ireturn, 1, 0, 0, 0, .null)])]
set_option maxRecDepth 100000 in
theorem okB153 : okB 153 B153 = true := by decide +kernel
/-- TelegraphHouse.isNumber(J)Z -/
def B154 : List (Nat × List EEy) := [
  (0, [(0, .lload_n 0, 1, 0, 0, 0, .null), (1, .lconst 0, 1, 0, 0, 0, .long (lN 0)), (2, .lcmp, 1, 0, 0, 0, .null), (3, .ifCond .ge 7, 3, 10, 0, 0, .null), (6, .iconst 1, 1, 0, 0, 0, .int (nI 1)), (7, .goto 4, 3, 11, 0, 0, .null)]),
  (10, [(10, .iconst 0, 1, 0, 0, 0, .int (nI 0))]),
  (11, [(11, .ireturn, 1, 0, 0, 0, .null)])]
set_option maxRecDepth 100000 in
theorem okB154 : okB 154 B154 = true := by decide +kernel
/-- TelegraphHouse.numberToken(J)J -/
def B155 : List (Nat × List EEy) := [
  (0, [(0, .ldc2_w 310, 3, 0, 334, 0, .long (-1)), (3, .lload_n 0, 1, 0, 0, 0, .null), (4, .lsub, 1, 0, 0, 0, .null), (5, .lreturn, 1, 0, 0, 0, .null)])]
set_option maxRecDepth 100000 in
theorem okB155 : okB 155 B155 = true := by decide +kernel
/-- TelegraphHouse.numberValue(J)I -/
def B156 : List (Nat × List EEy) := [
  (0, [(0, .ldc2_w 310, 3, 0, 334, 0, .long (-1)), (3, .lload_n 0, 1, 0, 0, 0, .null), (4, .lsub, 1, 0, 0, 0, .null), (5, .l2i, 1, 0, 0, 0, .null), (6, .ireturn, 1, 0, 0, 0, .null)])]
set_option maxRecDepth 100000 in
theorem okB156 : okB 156 B156 = true := by decide +kernel
/-- TelegraphHouse.withLetter(JI)J -/
def B157 : List (Nat × List EEy) := [
  (0, [(0, .lload_n 0, 1, 0, 0, 0, .null), (1, .iconst 5, 1, 0, 0, 0, .int (nI 5)), (2, .lshl, 1, 0, 0, 0, .null), (3, .iload_n 2, 1, 2, 0, 0, .null), (4, .i2l, 1, 0, 0, 0, .null), (5, .ladd, 1, 0, 0, 0, .null), (6, .lconst 1, 1, 0, 0, 0, .long (lN 1)), (7, .ladd, 1, 0, 0, 0, .null), (8, .lreturn, 1, 0, 0, 0, .null)])]
set_option maxRecDepth 100000 in
theorem okB157 : okB 157 B157 = true := by decide +kernel
/-- TelegraphHouse.lettersIn(J)I -/
def B158 : List (Nat × List EEy) := [
  (0, [(0, .iconst 0, 1, 0, 0, 0, .int (nI 0)), (1, .istore_n 2, 1, 2, 0, 0, .null)]),
  (2, [(2, .iload_n 2, 1, 2, 0, 0, .null), (3, .bipush 12, 2, 0, 0, 0, .int (nI 12)), (5, .if_icmp .ge 19, 3, 24, 0, 0, .null), (8, .lload_n 0, 1, 0, 0, 0, .null), (9, .iconst 5, 1, 0, 0, 0, .int (nI 5)), (10, .iload_n 2, 1, 2, 0, 0, .null), (11, .imul, 1, 0, 0, 0, .null), (12, .lushr, 1, 0, 0, 0, .null), (13, .lconst 0, 1, 0, 0, 0, .long (lN 0)), (14, .lcmp, 1, 0, 0, 0, .null), (15, .ifCond .eq 9, 3, 24, 0, 0, .null), (18, .iinc 2 1, 3, 0, 0, 0, .int (nI 1)), (21, .goto (-19), 3, 2, 0, 0, .null)]),
  (24, [(24, .iload_n 2, 1, 2, 0, 0, .null), (25, .ireturn, 1, 0, 0, 0, .null)])]
set_option maxRecDepth 100000 in
theorem okB158 : okB 158 B158 = true := by decide +kernel
/-- TelegraphHouse.letterOf(JII)I -/
def B159 : List (Nat × List EEy) := [
  (0, [(0, .iload_n 3, 1, 3, 0, 0, .null), (1, .ifCond .lt 8, 3, 9, 0, 0, .null), (4, .iload_n 3, 1, 3, 0, 0, .null), (5, .iload_n 2, 1, 2, 0, 0, .null), (6, .if_icmp .lt 5, 3, 11, 0, 0, .null)]),
  (9, [(9, .iconst 0, 1, 0, 0, 0, .int (nI 0)), (10, .ireturn, 1, 0, 0, 0, .null)]),
  (11, [(11, .lload_n 0, 1, 0, 0, 0, .null), (12, .iconst 5, 1, 0, 0, 0, .int (nI 5)), (13, .iload_n 2, 1, 2, 0, 0, .null), (14, .iconst 1, 1, 0, 0, 0, .int (nI 1)), (15, .isub, 1, 0, 0, 0, .null), (16, .iload_n 3, 1, 3, 0, 0, .null), (17, .isub, 1, 0, 0, 0, .null), (18, .imul, 1, 0, 0, 0, .null), (19, .lushr, 1, 0, 0, 0, .null), (20, .ldc2_w 312, 3, 0, 688, 0, .long (lN 31)), (23, .land, 1, 0, 0, 0, .null), (24, .l2i, 1, 0, 0, 0, .null), (25, .iconst 1, 1, 0, 0, 0, .int (nI 1)), (26, .isub, 1, 0, 0, 0, .null), (27, .ireturn, 1, 0, 0, 0, .null)])]
set_option maxRecDepth 100000 in
theorem okB159 : okB 159 B159 = true := by decide +kernel
/-- TelegraphHouse.digitsIn(I)I -/
def B160 : List (Nat × List EEy) := [
  (0, [(0, .iconst 1, 1, 0, 0, 0, .int (nI 1)), (1, .istore_n 1, 1, 1, 0, 0, .null), (2, .iload_n 0, 1, 0, 0, 0, .null), (3, .bipush 10, 2, 0, 0, 0, .int (nI 10)), (5, .idiv, 1, 0, 0, 0, .null), (6, .istore_n 2, 1, 2, 0, 0, .null)]),
  (7, [(7, .iload_n 1, 1, 1, 0, 0, .null), (8, .bipush 9, 2, 0, 0, 0, .int (nI 9)), (10, .if_icmp .ge 18, 3, 28, 0, 0, .null), (13, .iload_n 2, 1, 2, 0, 0, .null), (14, .ifCond .le 14, 3, 28, 0, 0, .null), (17, .iinc 1 1, 3, 0, 0, 0, .int (nI 1)), (20, .iload_n 2, 1, 2, 0, 0, .null), (21, .bipush 10, 2, 0, 0, 0, .int (nI 10)), (23, .idiv, 1, 0, 0, 0, .null), (24, .istore_n 2, 1, 2, 0, 0, .null), (25, .goto (-18), 3, 7, 0, 0, .null)]),
  (28, [(28, .iload_n 1, 1, 1, 0, 0, .null), (29, .ireturn, 1, 0, 0, 0, .null)])]
set_option maxRecDepth 100000 in
theorem okB160 : okB 160 B160 = true := by decide +kernel
/-- TelegraphHouse.groupsFor(J)I -/
def B161 : List (Nat × List EEy) := [
  (0, [(0, .lload_n 0, 1, 0, 0, 0, .null), (1, .invokestatic 314, 3, 1, 154, 1, .ref 11), (4, .ifCond .eq 19, 3, 23, 0, 0, .null), (7, .lload_n 0, 1, 0, 0, 0, .null), (8, .invokestatic 318, 3, 1, 156, 1, .ref 11), (11, .ldc_w 321, 3, 0, 632, 0, .int (nI 331776)), (14, .if_icmp .ge 7, 3, 21, 0, 0, .null), (17, .iconst 1, 1, 0, 0, 0, .int (nI 1)), (18, .goto 4, 3, 22, 0, 0, .null)]),
  (21, [(21, .iconst 2, 1, 0, 0, 0, .int (nI 2))]),
  (22, [(22, .ireturn, 1, 0, 0, 0, .null)]),
  (23, [(23, .iconst 1, 1, 0, 0, 0, .int (nI 1)), (24, .lload_n 0, 1, 0, 0, 0, .null), (25, .invokestatic 322, 3, 1, 158, 1, .ref 11), (28, .iconst 4, 1, 0, 0, 0, .int (nI 4)), (29, .idiv, 1, 0, 0, 0, .null), (30, .iadd, 1, 0, 0, 0, .null), (31, .ireturn, 1, 0, 0, 0, .null)])]
set_option maxRecDepth 100000 in
theorem okB161 : okB 161 B161 = true := by decide +kernel
/-- TelegraphHouse.chargedWords(J)I -/
def B162 : List (Nat × List EEy) := [
  (0, [(0, .lload_n 0, 1, 0, 0, 0, .null), (1, .invokestatic 314, 3, 1, 154, 1, .ref 11), (4, .ifCond .eq 15, 3, 19, 0, 0, .null), (7, .lload_n 0, 1, 0, 0, 0, .null), (8, .invokestatic 318, 3, 1, 156, 1, .ref 11), (11, .invokestatic 325, 3, 1, 160, 1, .ref 11), (14, .iconst 4, 1, 0, 0, 0, .int (nI 4)), (15, .iadd, 1, 0, 0, 0, .null), (16, .iconst 5, 1, 0, 0, 0, .int (nI 5)), (17, .idiv, 1, 0, 0, 0, .null), (18, .ireturn, 1, 0, 0, 0, .null)]),
  (19, [(19, .lload_n 0, 1, 0, 0, 0, .null), (20, .invokestatic 322, 3, 1, 158, 1, .ref 11), (23, .bipush 9, 2, 0, 0, 0, .int (nI 9)), (25, .iadd, 1, 0, 0, 0, .null), (26, .bipush 10, 2, 0, 0, 0, .int (nI 10)), (28, .idiv, 1, 0, 0, 0, .null), (29, .ireturn, 1, 0, 0, 0, .null)])]
set_option maxRecDepth 100000 in
theorem okB162 : okB 162 B162 = true := by decide +kernel
