/-! the code, 10 -/
/-- TelegraphHouseModel.count(I)I -/
def B233 : List (Nat × List EEy) := [
  (0, [(0, .iload_n 1, 1, 1, 0, 0, .null), (1, .tableswitch 100 0 8 #[51, 56, 61, 66, 71, 76, 82, 88, 94], 51, 0, 0, 0, .null)]),
  (52, [(52, .aload_n 0, 1, 0, 0, 0, .null), (53, .getfield 211, 3, 12, 20, 1146, .int 0), (56, .ireturn, 1, 0, 0, 0, .null)]),
  (57, [(57, .aload_n 0, 1, 0, 0, 0, .null), (58, .getfield 204, 3, 12, 5, 1131, .int 0), (61, .ireturn, 1, 0, 0, 0, .null)]),
  (62, [(62, .aload_n 0, 1, 0, 0, 0, .null), (63, .getfield 327, 3, 12, 37, 1163, .int 0), (66, .ireturn, 1, 0, 0, 0, .null)]),
  (67, [(67, .aload_n 0, 1, 0, 0, 0, .null), (68, .getfield 337, 3, 12, 38, 1164, .int 0), (71, .ireturn, 1, 0, 0, 0, .null)]),
  (72, [(72, .aload_n 0, 1, 0, 0, 0, .null), (73, .getfield 183, 3, 12, 1, 1127, .int 0), (76, .ireturn, 1, 0, 0, 0, .null)]),
  (77, [(77, .aload_n 0, 1, 0, 0, 0, .null), (78, .iconst 1, 1, 0, 0, 0, .int (nI 1)), (79, .invokevirtual 377, 3, 0, 232, 2, .ref 12), (82, .ireturn, 1, 0, 0, 0, .null)]),
  (83, [(83, .aload_n 0, 1, 0, 0, 0, .null), (84, .iconst 2, 1, 0, 0, 0, .int (nI 2)), (85, .invokevirtual 377, 3, 0, 232, 2, .ref 12), (88, .ireturn, 1, 0, 0, 0, .null)]),
  (89, [(89, .aload_n 0, 1, 0, 0, 0, .null), (90, .iconst 3, 1, 0, 0, 0, .int (nI 3)), (91, .invokevirtual 377, 3, 0, 232, 2, .ref 12), (94, .ireturn, 1, 0, 0, 0, .null)]),
  (95, [(95, .aload_n 0, 1, 0, 0, 0, .null), (96, .iconst 4, 1, 0, 0, 0, .int (nI 4)), (97, .invokevirtual 377, 3, 0, 232, 2, .ref 12), (100, .ireturn, 1, 0, 0, 0, .null)]),
  (101, [(101, .bipush (-2), 2, 0, 0, 0, .int (-2)), (103, .ireturn, 1, 0, 0, 0, .null)])]
set_option maxRecDepth 100000 in
theorem okB233 : okB 233 B233 = true := by decide +kernel
/-- java/lang/Math.floorMod(II)I -/
def B234 : List (Nat × List EEy) := [
  (0, [(0, .iload_n 0, 1, 0, 0, 0, .null), (1, .iload_n 1, 1, 1, 0, 0, .null), (2, .irem, 1, 0, 0, 0, .null), (3, .istore_n 2, 1, 2, 0, 0, .null), (4, .iload_n 0, 1, 0, 0, 0, .null), (5, .iload_n 1, 1, 1, 0, 0, .null), (6, .ixor, 1, 0, 0, 0, .null), (7, .ifCond .ge 11, 3, 18, 0, 0, .null), (10, .iload_n 2, 1, 2, 0, 0, .null), (11, .ifCond .eq 7, 3, 18, 0, 0, .null), (14, .iload_n 2, 1, 2, 0, 0, .null), (15, .iload_n 1, 1, 1, 0, 0, .null), (16, .iadd, 1, 0, 0, 0, .null), (17, .ireturn, 1, 0, 0, 0, .null)]),
  (18, [(18, .iload_n 2, 1, 2, 0, 0, .null), (19, .ireturn, 1, 0, 0, 0, .null)])]
set_option maxRecDepth 100000 in
theorem okB234 : okB 234 B234 = true := by decide +kernel
/-- java/lang/Math.abs(I)I -/
def B235 : List (Nat × List EEy) := [
  (0, [(0, .iload_n 0, 1, 0, 0, 0, .null), (1, .ifCond .ge 8, 3, 9, 0, 0, .null), (4, .iload_n 0, 1, 0, 0, 0, .null), (5, .ineg, 1, 0, 0, 0, .null), (6, .goto 4, 3, 10, 0, 0, .null)]),
  (9, [(9, .iload_n 0, 1, 0, 0, 0, .null)]),
  (10, [(10, .ireturn, 1, 0, 0, 0, .null)])]
set_option maxRecDepth 100000 in
theorem okB235 : okB 235 B235 = true := by decide +kernel
/-- java/lang/Math.max(II)I -/
def B236 : List (Nat × List EEy) := [
  (0, [(0, .iload_n 0, 1, 0, 0, 0, .null), (1, .iload_n 1, 1, 1, 0, 0, .null), (2, .if_icmp .lt 7, 3, 9, 0, 0, .null), (5, .iload_n 0, 1, 0, 0, 0, .null), (6, .goto 4, 3, 10, 0, 0, .null)]),
  (9, [(9, .iload_n 1, 1, 1, 0, 0, .null)]),
  (10, [(10, .ireturn, 1, 0, 0, 0, .null)])]
set_option maxRecDepth 100000 in
theorem okB236 : okB 236 B236 = true := by decide +kernel
/-- java/lang/Math.min(II)I -/
def B237 : List (Nat × List EEy) := [
  (0, [(0, .iload_n 0, 1, 0, 0, 0, .null), (1, .iload_n 1, 1, 1, 0, 0, .null), (2, .if_icmp .gt 7, 3, 9, 0, 0, .null), (5, .iload_n 0, 1, 0, 0, 0, .null), (6, .goto 4, 3, 10, 0, 0, .null)]),
  (9, [(9, .iload_n 1, 1, 1, 0, 0, .null)]),
  (10, [(10, .ireturn, 1, 0, 0, 0, .null)])]
set_option maxRecDepth 100000 in
theorem okB237 : okB 237 B237 = true := by decide +kernel
/-- java/util/Arrays.fill([II)V -/
def B238 : List (Nat × List EEy) := [
  (0, [(0, .iconst 0, 1, 0, 0, 0, .int (nI 0)), (1, .istore_n 2, 1, 2, 0, 0, .null), (2, .aload_n 0, 1, 0, 0, 0, .null), (3, .arraylength, 1, 0, 0, 0, .null), (4, .istore_n 3, 1, 3, 0, 0, .null)]),
  (5, [(5, .iload_n 2, 1, 2, 0, 0, .null), (6, .iload_n 3, 1, 3, 0, 0, .null), (7, .if_icmp .ge 13, 3, 20, 0, 0, .null), (10, .aload_n 0, 1, 0, 0, 0, .null), (11, .iload_n 2, 1, 2, 0, 0, .null), (12, .iload_n 1, 1, 1, 0, 0, .null), (13, .iastore, 1, 0, 0, 0, .null), (14, .iinc 2 1, 3, 0, 0, 0, .int (nI 1)), (17, .goto (-12), 3, 5, 0, 0, .null)]),
  (20, [(20, .return_, 1, 0, 0, 0, .null)])]
set_option maxRecDepth 100000 in
theorem okB238 : okB 238 B238 = true := by decide +kernel
