def fn_Md_close_97 (l0 : Int) (l3 : Int) (h : qz_H) : Option qz_R :=
  qz_ck ((0 : Int) < l0) <|
  qz_bn (qz_up h l0 60 (qz_w ((h l0 60) + l3))) fun h1 =>
  some (0, h1)
def fn_Md_close_78 (l0 : Int) (l1 : Int) (l2 : Int) (l3 : Int) (s0 : Int) (s1 : Int) (s2 : Int) (h : qz_H) : Option qz_R :=
  qz_ck ((s0 : Int) ≠ 0) <|
  qz_ck (0 < s0 ∧ (0 : Int) ≤ s1 ∧ s1 < h s0 (-1)) <|
  qz_bn (qz_up h s0 s1 s2) fun h1 =>
  if l2 ≤ 127 then
    fn_Md_close_97 l0 l3 h1
  else
    qz_ck ((h1 l0 61 : Int) ≠ 0) <|
    qz_ck (0 < h1 l0 61 ∧ (0 : Int) ≤ qz_w (l1 + 1) ∧ qz_w (l1 + 1) < h1 (h1 l0 61) (-1)) <|
    qz_bn (qz_up h1 (h1 l0 61) (qz_w (l1 + 1)) (qz_shr l2 7)) fun h2 =>
    fn_Md_close_97 l0 l3 h2
def fn_Md_close_27_b (k27 : Int → Int → Int → Int → Int → qz_H → Option qz_R) (l0 : Int) (l1 : Int) (l2 : Int) (l3 : Int) (l4 : Int) (h : qz_H) : Option qz_R :=
  if l4 < l1 then
    if l2 ≤ 127 then
      fn_Md_close_78 l0 l1 l2 l3 (h l0 61) l1 l2 h
    else
      fn_Md_close_78 l0 l1 l2 l3 (h l0 61) l1 (qz_or (qz_and l2 127) 128) h
  else
    qz_ck ((h l0 61 : Int) ≠ 0) <|
    qz_ck ((0 : Int) ≤ l4 ∧ l4 < h (h l0 61) (-1)) <|
    qz_ck ((h l0 61 : Int) ≠ 0) <|
    qz_ck (0 < h l0 61 ∧ (0 : Int) ≤ qz_w (l4 + l3) ∧ qz_w (l4 + l3) < h (h l0 61) (-1)) <|
    qz_bn (qz_up h (h l0 61) (qz_w (l4 + l3)) (h (h l0 61) l4)) fun h1 =>
    qz_bn (qz_w (l4 + (-1))) fun x2 =>
    k27 l0 l1 l2 l3 x2 h1
def fn_Md_close_27 : Nat → Int → Int → Int → Int → Int → qz_H → Option qz_R
  | 0, _, _, _, _, _, _ => none
  | n + 1, l0, l1, l2, l3, l4, h => fn_Md_close_27_b (fn_Md_close_27 n) l0 l1 l2 l3 l4 h
def fn_Md_close_18 (l0 : Int) (l1 : Int) (l2 : Int) (s0 : Int) (h : qz_H) : Option qz_R :=
  qz_bn (s0 : Int) fun x1 =>
  qz_bn (qz_w ((h l0 60) - 1) : Int) fun x2 =>
  fn_Md_close_27 qz_NF l0 l1 l2 x1 x2 h
set_option maxRecDepth 20000 in
def fn_Md_close (l0 : Int) (l1 : Int) (h : qz_H) : Option qz_R :=
  qz_bn (qz_w ((h l0 60) - l1) : Int) fun x1 =>
  if x1 ≤ 127 then
    fn_Md_close_18 l0 l1 x1 1 h
  else
    fn_Md_close_18 l0 l1 x1 2 h
def bk_Md_close_0 : List (Instr × Nat) := [(.aload_n 0, 1), (.getfield 476, 3), (.iload_n 1, 1), (.isub, 1), (.istore_n 2, 1), (.iload_n 2, 1), (.bipush 127, 2), (.if_icmp .le 7, 3), (.iconst 2, 1), (.goto 4, 3)]
def bk_Md_close_17 : List (Instr × Nat) := [(.iconst 1, 1)]
def bk_Md_close_18 : List (Instr × Nat) := [(.istore_n 3, 1), (.aload_n 0, 1), (.getfield 476, 3), (.iconst 1, 1), (.isub, 1), (.istore 4, 2)]
def bk_Md_close_27 : List (Instr × Nat) := [(.iload 4, 2), (.iload_n 1, 1), (.if_icmp .lt 25, 3), (.aload_n 0, 1), (.getfield 200, 3), (.iload 4, 2), (.iload_n 3, 1), (.iadd, 1), (.aload_n 0, 1), (.getfield 200, 3), (.iload 4, 2), (.iaload, 1), (.iastore, 1), (.iinc 4 (-1), 3), (.goto (-25), 3)]
def bk_Md_close_55 : List (Instr × Nat) := [(.aload_n 0, 1), (.getfield 200, 3), (.iload_n 1, 1), (.iload_n 2, 1), (.bipush 127, 2), (.if_icmp .le 14, 3), (.iload_n 2, 1), (.bipush 127, 2), (.iand, 1), (.sipush 128, 3), (.ior, 1), (.goto 4, 3)]
def bk_Md_close_77 : List (Instr × Nat) := [(.iload_n 2, 1)]
def bk_Md_close_78 : List (Instr × Nat) := [(.iastore, 1), (.iload_n 2, 1), (.bipush 127, 2), (.if_icmp .le 15, 3), (.aload_n 0, 1), (.getfield 200, 3), (.iload_n 1, 1), (.iconst 1, 1), (.iadd, 1), (.iload_n 2, 1), (.bipush 7, 2), (.ishr, 1), (.iastore, 1)]
def bk_Md_close_97 : List (Instr × Nat) := [(.aload_n 0, 1), (.dup, 1), (.getfield 476, 3), (.iload_n 3, 1), (.iadd, 1), (.putfield 476, 3), (.return_, 1)]
theorem ca_Md_close_0 : qz_ca yd_Md_close.2.1 0 bk_Md_close_0 := qz_cab_ok _ _ (by decide +kernel)
theorem ca_Md_close_17 : qz_ca yd_Md_close.2.1 17 bk_Md_close_17 := qz_cab_ok _ _ (by decide +kernel)
theorem ca_Md_close_18 : qz_ca yd_Md_close.2.1 18 bk_Md_close_18 := qz_cab_ok _ _ (by decide +kernel)
theorem ca_Md_close_27 : qz_ca yd_Md_close.2.1 27 bk_Md_close_27 := qz_cab_ok _ _ (by decide +kernel)
theorem ca_Md_close_55 : qz_ca yd_Md_close.2.1 55 bk_Md_close_55 := qz_cab_ok _ _ (by decide +kernel)
theorem ca_Md_close_77 : qz_ca yd_Md_close.2.1 77 bk_Md_close_77 := qz_cab_ok _ _ (by decide +kernel)
theorem ca_Md_close_78 : qz_ca yd_Md_close.2.1 78 bk_Md_close_78 := qz_cab_ok _ _ (by decide +kernel)
theorem ca_Md_close_97 : qz_ca yd_Md_close.2.1 97 bk_Md_close_97 := qz_cab_ok _ _ (by decide +kernel)
set_option maxRecDepth 20000 in
theorem jb_Md_close_97 (G : qz_G) (l0 : Int) (l3 : Int) (h : qz_H) : qz_J yd_Md_close G bk_Md_close_97 97 [qz_r true 12 l0, qz_u, qz_u, qz_i l3, qz_u] [] h 0 0 (fn_Md_close_97 l0 l3 h) := by
  unfold fn_Md_close_97 bk_Md_close_97; exact
    qz_aload_n rfl <|
    qz_dup rfl <|
    qz_getI kg_12 fl_Md_476 rfl rfl <|
    qz_iload_n rfl <|
    qz_iadd <|
    qz_putI kw_12 fp_Md_476_Md_close rfl rfl fun h1 =>
    qz_return ⟨rfl, rfl⟩ rfl
set_option maxRecDepth 20000 in
theorem jb_Md_close_78 (G : qz_G) (l0 : Int) (l1 : Int) (l2 : Int) (l3 : Int) (s0 : Int) (s1 : Int) (s2 : Int) (h : qz_H) : qz_J yd_Md_close G bk_Md_close_78 78 [qz_r true 12 l0, qz_i l1, qz_i l2, qz_i l3, qz_u] [qz_i s2, qz_i s1, qz_r false 40 s0] h 0 0 (fn_Md_close_78 l0 l1 l2 l3 s0 s1 s2 h) := by
  unfold fn_Md_close_78 bk_Md_close_78; exact
    qz_nnd 2 rfl <|
    qz_iast rfl rfl rfl fun h1 =>
    qz_iload_n rfl <|
    qz_bipush rfl <|
    qz_icmp_le rfl ca_Md_close_97
      (qz_fgt [1, 0, 0, 1, 0] <| jb_Md_close_97 G l0 l3 h1)
      (qz_aload_n rfl <|
        qz_getR (k1 := 40) kg_12 fl_Md_200 rfl rfl <|
        qz_iload_n rfl <|
        qz_iconst rfl <|
        qz_iadd <|
        qz_iload_n rfl <|
        qz_bipush rfl <|
        qz_ishr <|
        qz_nnd 2 rfl <|
        qz_iast rfl rfl rfl fun h2 =>
        qz_fall rfl ca_Md_close_97 <|
        qz_fgt [1, 0, 0, 1, 0] <| jb_Md_close_97 G l0 l3 h2)
set_option maxRecDepth 20000 in
theorem jb_Md_close_27_b (G : qz_G) (k27 : Int → Int → Int → Int → Int → qz_H → Option qz_R) (jk27 : ∀ (l0 : Int) (l1 : Int) (l2 : Int) (l3 : Int) (l4 : Int) (h : qz_H), qz_J yd_Md_close G bk_Md_close_27 27 [qz_r true 12 l0, qz_i l1, qz_i l2, qz_i l3, qz_i l4] [] h 0 0 (k27 l0 l1 l2 l3 l4 h)) (l0 : Int) (l1 : Int) (l2 : Int) (l3 : Int) (l4 : Int) (h : qz_H) : qz_J yd_Md_close G bk_Md_close_27 27 [qz_r true 12 l0, qz_i l1, qz_i l2, qz_i l3, qz_i l4] [] h 0 0 (fn_Md_close_27_b k27 l0 l1 l2 l3 l4 h) := by
  unfold fn_Md_close_27_b bk_Md_close_27; exact
    qz_iload rfl <|
    qz_iload_n rfl <|
    qz_icmp_lt rfl ca_Md_close_55
      (qz_aload_n rfl <|
        qz_getR (k1 := 40) kg_12 fl_Md_200 rfl rfl <|
        qz_iload_n rfl <|
        qz_iload_n rfl <|
        qz_bipush rfl <|
        qz_icmp_le rfl ca_Md_close_77
          (qz_iload_n rfl <|
            qz_fall rfl ca_Md_close_78 <|
            qz_fgt [1, 1, 1, 1, 0] <| jb_Md_close_78 G l0 l1 l2 l3 (h l0 61) l1 l2 h)
          (qz_iload_n rfl <|
            qz_bipush rfl <|
            qz_iand <|
            qz_sipush rfl <|
            qz_ior <|
            qz_goto rfl ca_Md_close_78 <|
            qz_fgt [1, 1, 1, 1, 0] <| jb_Md_close_78 G l0 l1 l2 l3 (h l0 61) l1 (qz_or (qz_and l2 127) 128) h))
      (qz_aload_n rfl <|
        qz_getR (k1 := 40) kg_12 fl_Md_200 rfl rfl <|
        qz_iload rfl <|
        qz_iload_n rfl <|
        qz_iadd <|
        qz_aload_n rfl <|
        qz_getR (k1 := 40) kg_12 fl_Md_200 rfl rfl <|
        qz_iload rfl <|
        qz_nnd 1 rfl <|
        qz_iald (k0 := 40) rfl rfl rfl <|
        qz_nnd 2 rfl <|
        qz_iast rfl rfl rfl fun h1 =>
        qz_iinc rfl (by decide) fun x2 =>
        qz_goto rfl ca_Md_close_27 <|
        qz_fgt [1, 1, 1, 1, 1] <| jk27 l0 l1 l2 l3 x2 h1)
theorem jb_Md_close_27 (G : qz_G) : ∀ (n : Nat) (l0 l1 l2 l3 l4 : Int) (h : qz_H), qz_J yd_Md_close G bk_Md_close_27 27 [qz_r true 12 l0, qz_i l1, qz_i l2, qz_i l3, qz_i l4] [] h 0 0 (fn_Md_close_27 n l0 l1 l2 l3 l4 h)
  | 0, _, _, _, _, _, _ => qz_none
  | n + 1, l0, l1, l2, l3, l4, h => jb_Md_close_27_b G (fn_Md_close_27 n) (jb_Md_close_27 G n) l0 l1 l2 l3 l4 h
set_option maxRecDepth 20000 in
theorem jb_Md_close_18 (G : qz_G) (l0 : Int) (l1 : Int) (l2 : Int) (s0 : Int) (h : qz_H) : qz_J yd_Md_close G bk_Md_close_18 18 [qz_r true 12 l0, qz_i l1, qz_i l2, qz_u, qz_u] [qz_i s0] h 0 0 (fn_Md_close_18 l0 l1 l2 s0 h) := by
  unfold fn_Md_close_18 bk_Md_close_18; exact
    qz_istore_n (by decide) fun x1 =>
    qz_aload_n rfl <|
    qz_getI kg_12 fl_Md_476 rfl rfl <|
    qz_iconst rfl <|
    qz_isub <|
    qz_istore (by decide) fun x2 =>
    qz_fall rfl ca_Md_close_27 <|
    qz_fgt [1, 1, 1, 1, 1] <| jb_Md_close_27 G qz_NF l0 l1 l2 x1 x2 h
set_option maxRecDepth 20000 in
theorem cn_Md_close (l0 : Int) (l1 : Int) (h : qz_H) : qz_C yd_Md_close [qz_r true 12 l0, qz_i l1] h (fn_Md_close l0 l1 h) := by
  refine qz_con (is := bk_Md_close_0) (ls := [qz_r true 12 l0, qz_i l1, qz_u, qz_u, qz_u]) mw_Md_close.2.2.2 ca_Md_close_0 rfl rfl rfl fun G => ?_
  unfold fn_Md_close bk_Md_close_0; exact
    qz_aload_n rfl <|
    qz_getI kg_12 fl_Md_476 rfl rfl <|
    qz_iload_n rfl <|
    qz_isub <|
    qz_istore_n (by decide) fun x1 =>
    qz_iload_n rfl <|
    qz_bipush rfl <|
    qz_icmp_le rfl ca_Md_close_17
      (qz_iconst rfl <|
        qz_fall rfl ca_Md_close_18 <|
        qz_fgt [1, 1, 1, 0, 0] <| jb_Md_close_18 G l0 l1 x1 1 h)
      (qz_iconst rfl <|
        qz_goto rfl ca_Md_close_18 <|
        qz_fgt [1, 1, 1, 0, 0] <| jb_Md_close_18 G l0 l1 x1 2 h)
def fn_Md_sameSignature_93 (l3 : Int) (h : qz_H) : Option qz_R :=
  qz_ck ((l3 : Int) = 0 ∨ (l3 : Int) = 1) (some (l3, h))
def fn_Md_sameSignature_86 (k39 : Int → Int → Int → Int → Int → qz_H → Option qz_R) (l0 : Int) (l1 : Int) (l2 : Int) (l4 : Int) (s0 : Int) (h : qz_H) : Option qz_R :=
  qz_bn (s0 : Int) fun x1 =>
  qz_bn (qz_w (l4 + 1)) fun x2 =>
  k39 l0 l1 l2 x1 x2 h
def fn_Md_sameSignature_39_b (k39 : Int → Int → Int → Int → Int → qz_H → Option qz_R) (l0 : Int) (l1 : Int) (l2 : Int) (l3 : Int) (l4 : Int) (h : qz_H) : Option qz_R :=
  qz_ck ((h l0 8 : Int) ≠ 0) <|
  qz_ck ((0 : Int) ≤ l1 ∧ l1 < h (h l0 8) (-1)) <|
  if h (h l0 8) l1 ≤ l4 then
    fn_Md_sameSignature_93 l3 h
  else
    if l3 = 0 then
      fn_Md_sameSignature_93 l3 h
    else
      qz_ck ((h l0 11 : Int) ≠ 0) <|
      qz_ck ((0 : Int) ≤ qz_w ((qz_w (8 * l1)) + l4) ∧ qz_w ((qz_w (8 * l1)) + l4) < h (h l0 11) (-1)) <|
      qz_ck ((h l0 11 : Int) ≠ 0) <|
      qz_ck ((0 : Int) ≤ qz_w ((qz_w (8 * l2)) + l4) ∧ qz_w ((qz_w (8 * l2)) + l4) < h (h l0 11) (-1)) <|
      if ¬ h (h l0 11) (qz_w ((qz_w (8 * l1)) + l4)) = h (h l0 11) (qz_w ((qz_w (8 * l2)) + l4)) then
        fn_Md_sameSignature_86 k39 l0 l1 l2 l4 0 h
      else
        fn_Md_sameSignature_86 k39 l0 l1 l2 l4 1 h
def fn_Md_sameSignature_39 : Nat → Int → Int → Int → Int → Int → qz_H → Option qz_R
  | 0, _, _, _, _, _, _ => none
  | n + 1, l0, l1, l2, l3, l4, h => fn_Md_sameSignature_39_b (fn_Md_sameSignature_39 n) l0 l1 l2 l3 l4 h
def fn_Md_sameSignature_35 (l0 : Int) (l1 : Int) (l2 : Int) (s0 : Int) (h : qz_H) : Option qz_R :=
  qz_bn (s0 : Int) fun x1 =>
  qz_bn (0 : Int) fun x2 =>
  fn_Md_sameSignature_39 qz_NF l0 l1 l2 x1 x2 h
def fn_Md_sameSignature_34 (l0 : Int) (l1 : Int) (l2 : Int) (h : qz_H) : Option qz_R :=
  fn_Md_sameSignature_35 l0 l1 l2 0 h
set_option maxRecDepth 20000 in
def fn_Md_sameSignature (l0 : Int) (l1 : Int) (l2 : Int) (h : qz_H) : Option qz_R :=
  qz_ck ((h l0 8 : Int) ≠ 0) <|
  qz_ck ((0 : Int) ≤ l1 ∧ l1 < h (h l0 8) (-1)) <|
  qz_ck ((h l0 8 : Int) ≠ 0) <|
  qz_ck ((0 : Int) ≤ l2 ∧ l2 < h (h l0 8) (-1)) <|
  if ¬ h (h l0 8) l1 = h (h l0 8) l2 then
    fn_Md_sameSignature_34 l0 l1 l2 h
  else
    qz_ck ((h l0 10 : Int) ≠ 0) <|
    qz_ck ((0 : Int) ≤ l1 ∧ l1 < h (h l0 10) (-1)) <|
    qz_ck ((h l0 10 : Int) ≠ 0) <|
    qz_ck ((0 : Int) ≤ l2 ∧ l2 < h (h l0 10) (-1)) <|
    if ¬ h (h l0 10) l1 = h (h l0 10) l2 then
      fn_Md_sameSignature_34 l0 l1 l2 h
    else
      fn_Md_sameSignature_35 l0 l1 l2 1 h
def bk_Md_sameSignature_0 : List (Instr × Nat) := [(.aload_n 0, 1), (.getfield 94, 3), (.iload_n 1, 1), (.iaload, 1), (.aload_n 0, 1), (.getfield 94, 3), (.iload_n 2, 1), (.iaload, 1), (.if_icmp .ne 22, 3), (.aload_n 0, 1), (.getfield 100, 3), (.iload_n 1, 1), (.iaload, 1), (.aload_n 0, 1), (.getfield 100, 3), (.iload_n 2, 1), (.iaload, 1), (.if_icmp .ne 7, 3), (.iconst 1, 1), (.goto 4, 3)]
def bk_Md_sameSignature_34 : List (Instr × Nat) := [(.iconst 0, 1)]
def bk_Md_sameSignature_35 : List (Instr × Nat) := [(.istore_n 3, 1), (.iconst 0, 1), (.istore 4, 2)]
def bk_Md_sameSignature_39 : List (Instr × Nat) := [(.iload 4, 2), (.aload_n 0, 1), (.getfield 94, 3), (.iload_n 1, 1), (.iaload, 1), (.if_icmp .ge 46, 3), (.iload_n 3, 1), (.ifCond .eq 42, 3), (.aload_n 0, 1), (.getfield 103, 3), (.bipush 8, 2), (.iload_n 1, 1), (.imul, 1), (.iload 4, 2), (.iadd, 1), (.iaload, 1), (.aload_n 0, 1), (.getfield 103, 3), (.bipush 8, 2), (.iload_n 2, 1), (.imul, 1), (.iload 4, 2), (.iadd, 1), (.iaload, 1), (.if_icmp .ne 7, 3), (.iconst 1, 1), (.goto 4, 3)]
def bk_Md_sameSignature_93 : List (Instr × Nat) := [(.iload_n 3, 1), (.ireturn, 1)]
def bk_Md_sameSignature_85 : List (Instr × Nat) := [(.iconst 0, 1)]
def bk_Md_sameSignature_86 : List (Instr × Nat) := [(.istore_n 3, 1), (.iinc 4 1, 3), (.goto (-51), 3)]
theorem ca_Md_sameSignature_0 : qz_ca yd_Md_sameSignature.2.1 0 bk_Md_sameSignature_0 := qz_cab_ok _ _ (by decide +kernel)
theorem ca_Md_sameSignature_34 : qz_ca yd_Md_sameSignature.2.1 34 bk_Md_sameSignature_34 := qz_cab_ok _ _ (by decide +kernel)
theorem ca_Md_sameSignature_35 : qz_ca yd_Md_sameSignature.2.1 35 bk_Md_sameSignature_35 := qz_cab_ok _ _ (by decide +kernel)
theorem ca_Md_sameSignature_39 : qz_ca yd_Md_sameSignature.2.1 39 bk_Md_sameSignature_39 := qz_cab_ok _ _ (by decide +kernel)
theorem ca_Md_sameSignature_93 : qz_ca yd_Md_sameSignature.2.1 93 bk_Md_sameSignature_93 := qz_cab_ok _ _ (by decide +kernel)
theorem ca_Md_sameSignature_85 : qz_ca yd_Md_sameSignature.2.1 85 bk_Md_sameSignature_85 := qz_cab_ok _ _ (by decide +kernel)
theorem ca_Md_sameSignature_86 : qz_ca yd_Md_sameSignature.2.1 86 bk_Md_sameSignature_86 := qz_cab_ok _ _ (by decide +kernel)
set_option maxRecDepth 20000 in
theorem jb_Md_sameSignature_93 (G : qz_G) (l3 : Int) (h : qz_H) : qz_J yd_Md_sameSignature G bk_Md_sameSignature_93 93 [qz_u, qz_u, qz_u, qz_i l3, qz_u] [] h 0 0 (fn_Md_sameSignature_93 l3 h) := by
  unfold fn_Md_sameSignature_93 bk_Md_sameSignature_93; exact
    qz_iload_n rfl <|
    qz_zreturn ⟨rfl, rfl⟩ rfl
set_option maxRecDepth 20000 in
theorem jb_Md_sameSignature_86 (G : qz_G) (k39 : Int → Int → Int → Int → Int → qz_H → Option qz_R) (jk39 : ∀ (l0 : Int) (l1 : Int) (l2 : Int) (l3 : Int) (l4 : Int) (h : qz_H), qz_J yd_Md_sameSignature G bk_Md_sameSignature_39 39 [qz_r true 12 l0, qz_i l1, qz_i l2, qz_i l3, qz_i l4] [] h 0 0 (k39 l0 l1 l2 l3 l4 h)) (l0 : Int) (l1 : Int) (l2 : Int) (l4 : Int) (s0 : Int) (h : qz_H) : qz_J yd_Md_sameSignature G bk_Md_sameSignature_86 86 [qz_r true 12 l0, qz_i l1, qz_i l2, qz_u, qz_i l4] [qz_i s0] h 0 0 (fn_Md_sameSignature_86 k39 l0 l1 l2 l4 s0 h) := by
  unfold fn_Md_sameSignature_86 bk_Md_sameSignature_86; exact
    qz_istore_n (by decide) fun x1 =>
    qz_iinc rfl (by decide) fun x2 =>
    qz_goto rfl ca_Md_sameSignature_39 <|
    qz_fgt [1, 1, 1, 1, 1] <| jk39 l0 l1 l2 x1 x2 h
set_option maxRecDepth 20000 in
theorem jb_Md_sameSignature_39_b (G : qz_G) (k39 : Int → Int → Int → Int → Int → qz_H → Option qz_R) (jk39 : ∀ (l0 : Int) (l1 : Int) (l2 : Int) (l3 : Int) (l4 : Int) (h : qz_H), qz_J yd_Md_sameSignature G bk_Md_sameSignature_39 39 [qz_r true 12 l0, qz_i l1, qz_i l2, qz_i l3, qz_i l4] [] h 0 0 (k39 l0 l1 l2 l3 l4 h)) (l0 : Int) (l1 : Int) (l2 : Int) (l3 : Int) (l4 : Int) (h : qz_H) : qz_J yd_Md_sameSignature G bk_Md_sameSignature_39 39 [qz_r true 12 l0, qz_i l1, qz_i l2, qz_i l3, qz_i l4] [] h 0 0 (fn_Md_sameSignature_39_b k39 l0 l1 l2 l3 l4 h) := by
  unfold fn_Md_sameSignature_39_b bk_Md_sameSignature_39; exact
    qz_iload rfl <|
    qz_aload_n rfl <|
    qz_getR (k1 := 40) kg_12 fl_Md_94 rfl rfl <|
    qz_iload_n rfl <|
    qz_nnd 1 rfl <|
    qz_iald (k0 := 40) rfl rfl rfl <|
    qz_icmp_ge rfl ca_Md_sameSignature_93
      (qz_fgt [0, 0, 0, 1, 0] <| jb_Md_sameSignature_93 G l3 h)
      (qz_iload_n rfl <|
        qz_if_eq rfl ca_Md_sameSignature_93
          (qz_fgt [0, 0, 0, 1, 0] <| jb_Md_sameSignature_93 G l3 h)
          (qz_aload_n rfl <|
            qz_getR (k1 := 40) kg_12 fl_Md_103 rfl rfl <|
            qz_bipush rfl <|
            qz_iload_n rfl <|
            qz_imul <|
            qz_iload rfl <|
            qz_iadd <|
            qz_nnd 1 rfl <|
            qz_iald (k0 := 40) rfl rfl rfl <|
            qz_aload_n rfl <|
            qz_getR (k1 := 40) kg_12 fl_Md_103 rfl rfl <|
            qz_bipush rfl <|
            qz_iload_n rfl <|
            qz_imul <|
            qz_iload rfl <|
            qz_iadd <|
            qz_nnd 1 rfl <|
            qz_iald (k0 := 40) rfl rfl rfl <|
            qz_icmp_ne rfl ca_Md_sameSignature_85
              (qz_iconst rfl <|
                qz_fall rfl ca_Md_sameSignature_86 <|
                qz_fgt [1, 1, 1, 0, 1] <| jb_Md_sameSignature_86 G k39 jk39 l0 l1 l2 l4 0 h)
              (qz_iconst rfl <|
                qz_goto rfl ca_Md_sameSignature_86 <|
                qz_fgt [1, 1, 1, 0, 1] <| jb_Md_sameSignature_86 G k39 jk39 l0 l1 l2 l4 1 h)))
theorem jb_Md_sameSignature_39 (G : qz_G) : ∀ (n : Nat) (l0 l1 l2 l3 l4 : Int) (h : qz_H), qz_J yd_Md_sameSignature G bk_Md_sameSignature_39 39 [qz_r true 12 l0, qz_i l1, qz_i l2, qz_i l3, qz_i l4] [] h 0 0 (fn_Md_sameSignature_39 n l0 l1 l2 l3 l4 h)
  | 0, _, _, _, _, _, _ => qz_none
  | n + 1, l0, l1, l2, l3, l4, h => jb_Md_sameSignature_39_b G (fn_Md_sameSignature_39 n) (jb_Md_sameSignature_39 G n) l0 l1 l2 l3 l4 h
set_option maxRecDepth 20000 in
theorem jb_Md_sameSignature_35 (G : qz_G) (l0 : Int) (l1 : Int) (l2 : Int) (s0 : Int) (h : qz_H) : qz_J yd_Md_sameSignature G bk_Md_sameSignature_35 35 [qz_r true 12 l0, qz_i l1, qz_i l2, qz_u, qz_u] [qz_i s0] h 0 0 (fn_Md_sameSignature_35 l0 l1 l2 s0 h) := by
  unfold fn_Md_sameSignature_35 bk_Md_sameSignature_35; exact
    qz_istore_n (by decide) fun x1 =>
    qz_iconst rfl <|
    qz_istore (by decide) fun x2 =>
    qz_fall rfl ca_Md_sameSignature_39 <|
    qz_fgt [1, 1, 1, 1, 1] <| jb_Md_sameSignature_39 G qz_NF l0 l1 l2 x1 x2 h
set_option maxRecDepth 20000 in
theorem jb_Md_sameSignature_34 (G : qz_G) (l0 : Int) (l1 : Int) (l2 : Int) (h : qz_H) : qz_J yd_Md_sameSignature G bk_Md_sameSignature_34 34 [qz_r true 12 l0, qz_i l1, qz_i l2, qz_u, qz_u] [] h 0 0 (fn_Md_sameSignature_34 l0 l1 l2 h) := by
  unfold fn_Md_sameSignature_34 bk_Md_sameSignature_34; exact
    qz_iconst rfl <|
    qz_fall rfl ca_Md_sameSignature_35 <|
    qz_fgt [1, 1, 1, 0, 0] <| jb_Md_sameSignature_35 G l0 l1 l2 0 h
set_option maxRecDepth 20000 in
theorem cn_Md_sameSignature (l0 : Int) (l1 : Int) (l2 : Int) (h : qz_H) : qz_C yd_Md_sameSignature [qz_r true 12 l0, qz_i l1, qz_i l2] h (fn_Md_sameSignature l0 l1 l2 h) := by
  refine qz_con (is := bk_Md_sameSignature_0) (ls := [qz_r true 12 l0, qz_i l1, qz_i l2, qz_u, qz_u]) mw_Md_sameSignature.2.2.2 ca_Md_sameSignature_0 rfl rfl rfl fun G => ?_
  unfold fn_Md_sameSignature bk_Md_sameSignature_0; exact
    qz_aload_n rfl <|
    qz_getR (k1 := 40) kg_12 fl_Md_94 rfl rfl <|
    qz_iload_n rfl <|
    qz_nnd 1 rfl <|
    qz_iald (k0 := 40) rfl rfl rfl <|
    qz_aload_n rfl <|
    qz_getR (k1 := 40) kg_12 fl_Md_94 rfl rfl <|
    qz_iload_n rfl <|
    qz_nnd 1 rfl <|
    qz_iald (k0 := 40) rfl rfl rfl <|
    qz_icmp_ne rfl ca_Md_sameSignature_34
      (qz_fgt [1, 1, 1, 0, 0] <| jb_Md_sameSignature_34 G l0 l1 l2 h)
      (qz_aload_n rfl <|
        qz_getR (k1 := 40) kg_12 fl_Md_100 rfl rfl <|
        qz_iload_n rfl <|
        qz_nnd 1 rfl <|
        qz_iald (k0 := 40) rfl rfl rfl <|
        qz_aload_n rfl <|
        qz_getR (k1 := 40) kg_12 fl_Md_100 rfl rfl <|
        qz_iload_n rfl <|
        qz_nnd 1 rfl <|
        qz_iald (k0 := 40) rfl rfl rfl <|
        qz_icmp_ne rfl ca_Md_sameSignature_34
          (qz_fgt [1, 1, 1, 0, 0] <| jb_Md_sameSignature_34 G l0 l1 l2 h)
          (qz_iconst rfl <|
            qz_goto rfl ca_Md_sameSignature_35 <|
            qz_fgt [1, 1, 1, 0, 0] <| jb_Md_sameSignature_35 G l0 l1 l2 1 h))
def fn_Md_firstLike_2_b (k2 : Int → Int → Int → qz_H → Option qz_R) (l0 : Int) (l1 : Int) (l2 : Int) (h : qz_H) : Option qz_R :=
  qz_bc (fn_Md_sameSignature l0 l1 l2 h) fun r1 h2 =>
  if ¬ r1 = 0 then
    some (l2, h2)
  else
    qz_bn (qz_w (l2 + 1)) fun x3 =>
    k2 l0 l1 x3 h2
def fn_Md_firstLike_2 : Nat → Int → Int → Int → qz_H → Option qz_R
  | 0, _, _, _, _ => none
  | n + 1, l0, l1, l2, h => fn_Md_firstLike_2_b (fn_Md_firstLike_2 n) l0 l1 l2 h
set_option maxRecDepth 20000 in
def fn_Md_firstLike (l0 : Int) (l1 : Int) (h : qz_H) : Option qz_R :=
  qz_bn (0 : Int) fun x1 =>
  fn_Md_firstLike_2 qz_NF l0 l1 x1 h
def bk_Md_firstLike_0 : List (Instr × Nat) := [(.iconst 0, 1), (.istore_n 2, 1)]
def bk_Md_firstLike_2 : List (Instr × Nat) := [(.aload_n 0, 1), (.iload_n 1, 1), (.iload_n 2, 1), (.invokevirtual 488, 3), (.ifCond .ne 9, 3), (.iinc 2 1, 3), (.goto (-12), 3)]
def bk_Md_firstLike_17 : List (Instr × Nat) := [(.iload_n 2, 1), (.ireturn, 1)]
theorem ca_Md_firstLike_0 : qz_ca yd_Md_firstLike.2.1 0 bk_Md_firstLike_0 := qz_cab_ok _ _ (by decide +kernel)
theorem ca_Md_firstLike_2 : qz_ca yd_Md_firstLike.2.1 2 bk_Md_firstLike_2 := qz_cab_ok _ _ (by decide +kernel)
theorem ca_Md_firstLike_17 : qz_ca yd_Md_firstLike.2.1 17 bk_Md_firstLike_17 := qz_cab_ok _ _ (by decide +kernel)
set_option maxRecDepth 20000 in
theorem jb_Md_firstLike_2_b (G : qz_G) (k2 : Int → Int → Int → qz_H → Option qz_R) (jk2 : ∀ (l0 : Int) (l1 : Int) (l2 : Int) (h : qz_H), qz_J yd_Md_firstLike G bk_Md_firstLike_2 2 [qz_r true 12 l0, qz_i l1, qz_i l2] [] h 0 0 (k2 l0 l1 l2 h)) (l0 : Int) (l1 : Int) (l2 : Int) (h : qz_H) : qz_J yd_Md_firstLike G bk_Md_firstLike_2 2 [qz_r true 12 l0, qz_i l1, qz_i l2] [] h 0 0 (fn_Md_firstLike_2_b k2 l0 l1 l2 h) := by
  unfold fn_Md_firstLike_2_b bk_Md_firstLike_2; exact
    qz_aload_n rfl <|
    qz_iload_n rfl <|
    qz_iload_n rfl <|
    qz_invvI [qz_i l1, qz_i l2] rfl (cn_Md_sameSignature l0 l1 l2 h) mw_Md_sameSignature vw_Md_sameSignature ⟨_, rfl, rfl, by decide⟩ rfl rfl ln_Md_488 rfl fun r1 h2 =>
    qz_if_ne rfl ca_Md_firstLike_17
      (qz_iload_n rfl <|
        qz_ireturn ⟨rfl, rfl⟩ rfl)
      (qz_iinc rfl (by decide) fun x3 =>
        qz_goto rfl ca_Md_firstLike_2 <|
        qz_fgt [1, 1, 1] <| jk2 l0 l1 x3 h2)
theorem jb_Md_firstLike_2 (G : qz_G) : ∀ (n : Nat) (l0 l1 l2 : Int) (h : qz_H), qz_J yd_Md_firstLike G bk_Md_firstLike_2 2 [qz_r true 12 l0, qz_i l1, qz_i l2] [] h 0 0 (fn_Md_firstLike_2 n l0 l1 l2 h)
  | 0, _, _, _, _ => qz_none
  | n + 1, l0, l1, l2, h => jb_Md_firstLike_2_b G (fn_Md_firstLike_2 n) (jb_Md_firstLike_2 G n) l0 l1 l2 h
set_option maxRecDepth 20000 in
theorem cn_Md_firstLike (l0 : Int) (l1 : Int) (h : qz_H) : qz_C yd_Md_firstLike [qz_r true 12 l0, qz_i l1] h (fn_Md_firstLike l0 l1 h) := by
  refine qz_con (is := bk_Md_firstLike_0) (ls := [qz_r true 12 l0, qz_i l1, qz_u]) mw_Md_firstLike.2.2.2 ca_Md_firstLike_0 rfl rfl rfl fun G => ?_
  unfold fn_Md_firstLike bk_Md_firstLike_0; exact
    qz_iconst rfl <|
    qz_istore_n (by decide) fun x1 =>
    qz_fall rfl ca_Md_firstLike_2 <|
    qz_fgt [1, 1, 1] <| jb_Md_firstLike_2 G qz_NF l0 l1 x1 h
def fn_Md_signaturesBefore_24 (k4 : Int → Int → Int → Int → qz_H → Option qz_R) (l0 : Int) (l1 : Int) (l3 : Int) (s0 : Int) (s1 : Int) (h : qz_H) : Option qz_R :=
  qz_bn (qz_w (s0 + s1) : Int) fun x1 =>
  qz_bn (qz_w (l3 + 1)) fun x2 =>
  k4 l0 l1 x1 x2 h
def fn_Md_signaturesBefore_4_b (k4 : Int → Int → Int → Int → qz_H → Option qz_R) (l0 : Int) (l1 : Int) (l2 : Int) (l3 : Int) (h : qz_H) : Option qz_R :=
  if l1 ≤ l3 then
    some (l2, h)
  else
    qz_bc (fn_Md_firstLike l0 l3 h) fun r1 h2 =>
    if ¬ r1 = l3 then
      fn_Md_signaturesBefore_24 k4 l0 l1 l3 l2 0 h2
    else
      fn_Md_signaturesBefore_24 k4 l0 l1 l3 l2 1 h2
def fn_Md_signaturesBefore_4 : Nat → Int → Int → Int → Int → qz_H → Option qz_R
  | 0, _, _, _, _, _ => none
  | n + 1, l0, l1, l2, l3, h => fn_Md_signaturesBefore_4_b (fn_Md_signaturesBefore_4 n) l0 l1 l2 l3 h
set_option maxRecDepth 20000 in
def fn_Md_signaturesBefore (l0 : Int) (l1 : Int) (h : qz_H) : Option qz_R :=
  qz_bn (0 : Int) fun x1 =>
  qz_bn (0 : Int) fun x2 =>
  fn_Md_signaturesBefore_4 qz_NF l0 l1 x1 x2 h
def bk_Md_signaturesBefore_0 : List (Instr × Nat) := [(.iconst 0, 1), (.istore_n 2, 1), (.iconst 0, 1), (.istore_n 3, 1)]
def bk_Md_signaturesBefore_4 : List (Instr × Nat) := [(.iload_n 3, 1), (.iload_n 1, 1), (.if_icmp .ge 26, 3), (.iload_n 2, 1), (.aload_n 0, 1), (.iload_n 3, 1), (.invokevirtual 491, 3), (.iload_n 3, 1), (.if_icmp .ne 7, 3), (.iconst 1, 1), (.goto 4, 3)]
def bk_Md_signaturesBefore_32 : List (Instr × Nat) := [(.iload_n 2, 1), (.ireturn, 1)]
def bk_Md_signaturesBefore_23 : List (Instr × Nat) := [(.iconst 0, 1)]
def bk_Md_signaturesBefore_24 : List (Instr × Nat) := [(.iadd, 1), (.istore_n 2, 1), (.iinc 3 1, 3), (.goto (-25), 3)]
theorem ca_Md_signaturesBefore_0 : qz_ca yd_Md_signaturesBefore.2.1 0 bk_Md_signaturesBefore_0 := qz_cab_ok _ _ (by decide +kernel)
theorem ca_Md_signaturesBefore_4 : qz_ca yd_Md_signaturesBefore.2.1 4 bk_Md_signaturesBefore_4 := qz_cab_ok _ _ (by decide +kernel)
theorem ca_Md_signaturesBefore_32 : qz_ca yd_Md_signaturesBefore.2.1 32 bk_Md_signaturesBefore_32 := qz_cab_ok _ _ (by decide +kernel)
theorem ca_Md_signaturesBefore_23 : qz_ca yd_Md_signaturesBefore.2.1 23 bk_Md_signaturesBefore_23 := qz_cab_ok _ _ (by decide +kernel)
theorem ca_Md_signaturesBefore_24 : qz_ca yd_Md_signaturesBefore.2.1 24 bk_Md_signaturesBefore_24 := qz_cab_ok _ _ (by decide +kernel)
set_option maxRecDepth 20000 in
theorem jb_Md_signaturesBefore_24 (G : qz_G) (k4 : Int → Int → Int → Int → qz_H → Option qz_R) (jk4 : ∀ (l0 : Int) (l1 : Int) (l2 : Int) (l3 : Int) (h : qz_H), qz_J yd_Md_signaturesBefore G bk_Md_signaturesBefore_4 4 [qz_r true 12 l0, qz_i l1, qz_i l2, qz_i l3] [] h 0 0 (k4 l0 l1 l2 l3 h)) (l0 : Int) (l1 : Int) (l3 : Int) (s0 : Int) (s1 : Int) (h : qz_H) : qz_J yd_Md_signaturesBefore G bk_Md_signaturesBefore_24 24 [qz_r true 12 l0, qz_i l1, qz_u, qz_i l3] [qz_i s1, qz_i s0] h 0 0 (fn_Md_signaturesBefore_24 k4 l0 l1 l3 s0 s1 h) := by
  unfold fn_Md_signaturesBefore_24 bk_Md_signaturesBefore_24; exact
    qz_iadd <|
    qz_istore_n (by decide) fun x1 =>
    qz_iinc rfl (by decide) fun x2 =>
    qz_goto rfl ca_Md_signaturesBefore_4 <|
    qz_fgt [1, 1, 1, 1] <| jk4 l0 l1 x1 x2 h
set_option maxRecDepth 20000 in
theorem jb_Md_signaturesBefore_4_b (G : qz_G) (k4 : Int → Int → Int → Int → qz_H → Option qz_R) (jk4 : ∀ (l0 : Int) (l1 : Int) (l2 : Int) (l3 : Int) (h : qz_H), qz_J yd_Md_signaturesBefore G bk_Md_signaturesBefore_4 4 [qz_r true 12 l0, qz_i l1, qz_i l2, qz_i l3] [] h 0 0 (k4 l0 l1 l2 l3 h)) (l0 : Int) (l1 : Int) (l2 : Int) (l3 : Int) (h : qz_H) : qz_J yd_Md_signaturesBefore G bk_Md_signaturesBefore_4 4 [qz_r true 12 l0, qz_i l1, qz_i l2, qz_i l3] [] h 0 0 (fn_Md_signaturesBefore_4_b k4 l0 l1 l2 l3 h) := by
  unfold fn_Md_signaturesBefore_4_b bk_Md_signaturesBefore_4; exact
    qz_iload_n rfl <|
    qz_iload_n rfl <|
    qz_icmp_ge rfl ca_Md_signaturesBefore_32
      (qz_iload_n rfl <|
        qz_ireturn ⟨rfl, rfl⟩ rfl)
      (qz_iload_n rfl <|
        qz_aload_n rfl <|
        qz_iload_n rfl <|
        qz_invvI [qz_i l3] rfl (cn_Md_firstLike l0 l3 h) mw_Md_firstLike vw_Md_firstLike ⟨_, rfl, rfl, by decide⟩ rfl rfl ln_Md_491 rfl fun r1 h2 =>
        qz_iload_n rfl <|
        qz_icmp_ne rfl ca_Md_signaturesBefore_23
          (qz_iconst rfl <|
            qz_fall rfl ca_Md_signaturesBefore_24 <|
            qz_fgt [1, 1, 0, 1] <| jb_Md_signaturesBefore_24 G k4 jk4 l0 l1 l3 l2 0 h2)
          (qz_iconst rfl <|
            qz_goto rfl ca_Md_signaturesBefore_24 <|
            qz_fgt [1, 1, 0, 1] <| jb_Md_signaturesBefore_24 G k4 jk4 l0 l1 l3 l2 1 h2))
theorem jb_Md_signaturesBefore_4 (G : qz_G) : ∀ (n : Nat) (l0 l1 l2 l3 : Int) (h : qz_H), qz_J yd_Md_signaturesBefore G bk_Md_signaturesBefore_4 4 [qz_r true 12 l0, qz_i l1, qz_i l2, qz_i l3] [] h 0 0 (fn_Md_signaturesBefore_4 n l0 l1 l2 l3 h)
  | 0, _, _, _, _, _ => qz_none
  | n + 1, l0, l1, l2, l3, h => jb_Md_signaturesBefore_4_b G (fn_Md_signaturesBefore_4 n) (jb_Md_signaturesBefore_4 G n) l0 l1 l2 l3 h
set_option maxRecDepth 20000 in
theorem cn_Md_signaturesBefore (l0 : Int) (l1 : Int) (h : qz_H) : qz_C yd_Md_signaturesBefore [qz_r true 12 l0, qz_i l1] h (fn_Md_signaturesBefore l0 l1 h) := by
  refine qz_con (is := bk_Md_signaturesBefore_0) (ls := [qz_r true 12 l0, qz_i l1, qz_u, qz_u]) mw_Md_signaturesBefore.2.2.2 ca_Md_signaturesBefore_0 rfl rfl rfl fun G => ?_
  unfold fn_Md_signaturesBefore bk_Md_signaturesBefore_0; exact
    qz_iconst rfl <|
    qz_istore_n (by decide) fun x1 =>
    qz_iconst rfl <|
    qz_istore_n (by decide) fun x2 =>
    qz_fall rfl ca_Md_signaturesBefore_4 <|
    qz_fgt [1, 1, 1, 1] <| jb_Md_signaturesBefore_4 G qz_NF l0 l1 x1 x2 h
def fn_Md_signatureSection_135 (k25 : Int → Int → Int → qz_H → Option qz_R) (l0 : Int) (l1 : Int) (l2 : Int) (h : qz_H) : Option qz_R :=
  qz_bn (qz_w (l2 + 1)) fun x1 =>
  k25 l0 l1 x1 h
def fn_Md_signatureSection_110 (k25 : Int → Int → Int → qz_H → Option qz_R) (l0 : Int) (l1 : Int) (l2 : Int) (s0 : Int) (s1 : Int) (h : qz_H) : Option qz_R :=
  qz_bc (fn_Md_add s0 s1 h) fun _ h2 =>
  qz_ck ((h2 l0 10 : Int) ≠ 0) <|
  qz_ck ((0 : Int) ≤ l2 ∧ l2 < h2 (h2 l0 10) (-1)) <|
  if h2 (h2 l0 10) l2 ≤ 0 then
    fn_Md_signatureSection_135 k25 l0 l1 l2 h2
  else
    qz_ck ((h2 l0 10 : Int) ≠ 0) <|
    qz_ck ((0 : Int) ≤ l2 ∧ l2 < h2 (h2 l0 10) (-1)) <|
    qz_bc (fn_Md_typeByte (h2 (h2 l0 10) l2) h2) fun r3 h4 =>
    qz_bc (fn_Md_add l0 r3 h4) fun _ h6 =>
    fn_Md_signatureSection_135 k25 l0 l1 l2 h6
def fn_Md_signatureSection_61_b (k25 : Int → Int → Int → qz_H → Option qz_R) (k61 : Int → Int → Int → Int → qz_H → Option qz_R) (l0 : Int) (l1 : Int) (l2 : Int) (l3 : Int) (h : qz_H) : Option qz_R :=
  qz_ck ((h l0 8 : Int) ≠ 0) <|
  qz_ck ((0 : Int) ≤ l2 ∧ l2 < h (h l0 8) (-1)) <|
  if h (h l0 8) l2 ≤ l3 then
    qz_ck ((h l0 10 : Int) ≠ 0) <|
    qz_ck ((0 : Int) ≤ l2 ∧ l2 < h (h l0 10) (-1)) <|
    if h (h l0 10) l2 ≤ 0 then
      fn_Md_signatureSection_110 k25 l0 l1 l2 l0 0 h
    else
      fn_Md_signatureSection_110 k25 l0 l1 l2 l0 1 h
  else
    qz_ck ((h l0 11 : Int) ≠ 0) <|
    qz_ck ((0 : Int) ≤ qz_w ((qz_w (8 * l2)) + l3) ∧ qz_w ((qz_w (8 * l2)) + l3) < h (h l0 11) (-1)) <|
    qz_bc (fn_Md_typeByte (h (h l0 11) (qz_w ((qz_w (8 * l2)) + l3))) h) fun r1 h2 =>
    qz_bc (fn_Md_add l0 r1 h2) fun _ h4 =>
    qz_bn (qz_w (l3 + 1)) fun x5 =>
    k61 l0 l1 l2 x5 h4
def fn_Md_signatureSection_61 (k25 : Int → Int → Int → qz_H → Option qz_R) : Nat → Int → Int → Int → Int → qz_H → Option qz_R
  | 0, _, _, _, _, _ => none
  | n + 1, l0, l1, l2, l3, h => fn_Md_signatureSection_61_b k25 (fn_Md_signatureSection_61 k25 n) l0 l1 l2 l3 h
def fn_Md_signatureSection_25_b (k25 : Int → Int → Int → qz_H → Option qz_R) (l0 : Int) (l1 : Int) (l2 : Int) (h : qz_H) : Option qz_R :=
  if h l0 7 ≤ l2 then
    qz_bc (fn_Md_close l0 l1 h) fun _ h2 =>
    some (0, h2)
  else
    qz_bc (fn_Md_firstLike l0 l2 h) fun r3 h4 =>
    if ¬ r3 = l2 then
      fn_Md_signatureSection_135 k25 l0 l1 l2 h4
    else
      qz_bc (fn_Md_add l0 96 h4) fun _ h6 =>
      qz_ck ((h6 l0 8 : Int) ≠ 0) <|
      qz_ck ((0 : Int) ≤ l2 ∧ l2 < h6 (h6 l0 8) (-1)) <|
      qz_bc (fn_Md_unsigned l0 (h6 (h6 l0 8) l2) h6) fun _ h8 =>
      qz_bn (0 : Int) fun x9 =>
      fn_Md_signatureSection_61 k25 qz_NF l0 l1 l2 x9 h8
def fn_Md_signatureSection_25 : Nat → Int → Int → Int → qz_H → Option qz_R
  | 0, _, _, _, _ => none
  | n + 1, l0, l1, l2, h => fn_Md_signatureSection_25_b (fn_Md_signatureSection_25 n) l0 l1 l2 h
set_option maxRecDepth 20000 in
def fn_Md_signatureSection (l0 : Int) (h : qz_H) : Option qz_R :=
  qz_bc (fn_Md_add l0 1 h) fun _ h2 =>
  qz_bn (h2 l0 60 : Int) fun x3 =>
  qz_bc (fn_Md_signaturesBefore l0 (h2 l0 7) h2) fun r4 h5 =>
  qz_bc (fn_Md_unsigned l0 r4 h5) fun _ h7 =>
  qz_bn (0 : Int) fun x8 =>
  fn_Md_signatureSection_25 qz_NF l0 x3 x8 h7
def bk_Md_signatureSection_0 : List (Instr × Nat) := [(.aload_n 0, 1), (.iconst 1, 1), (.invokevirtual 481, 3), (.aload_n 0, 1), (.getfield 476, 3), (.istore_n 1, 1), (.aload_n 0, 1), (.aload_n 0, 1), (.aload_n 0, 1), (.getfield 458, 3), (.invokevirtual 494, 3), (.i2l, 1), (.invokevirtual 497, 3), (.iconst 0, 1), (.istore_n 2, 1)]
def bk_Md_signatureSection_25 : List (Instr × Nat) := [(.iload_n 2, 1), (.aload_n 0, 1), (.getfield 458, 3), (.if_icmp .ge 111, 3), (.aload_n 0, 1), (.iload_n 2, 1), (.invokevirtual 491, 3), (.iload_n 2, 1), (.if_icmp .ne 96, 3), (.aload_n 0, 1), (.bipush 96, 2), (.invokevirtual 481, 3), (.aload_n 0, 1), (.aload_n 0, 1), (.getfield 94, 3), (.iload_n 2, 1), (.iaload, 1), (.i2l, 1), (.invokevirtual 497, 3), (.iconst 0, 1), (.istore_n 3, 1)]
def bk_Md_signatureSection_141 : List (Instr × Nat) := [(.aload_n 0, 1), (.iload_n 1, 1), (.invokevirtual 503, 3), (.return_, 1)]
def bk_Md_signatureSection_135 : List (Instr × Nat) := [(.iinc 2 1, 3), (.goto (-113), 3)]
def bk_Md_signatureSection_61 : List (Instr × Nat) := [(.iload_n 3, 1), (.aload_n 0, 1), (.getfield 94, 3), (.iload_n 2, 1), (.iaload, 1), (.if_icmp .ge 27, 3), (.aload_n 0, 1), (.aload_n 0, 1), (.getfield 103, 3), (.bipush 8, 2), (.iload_n 2, 1), (.imul, 1), (.iload_n 3, 1), (.iadd, 1), (.iaload, 1), (.invokestatic 500, 3), (.invokevirtual 481, 3), (.iinc 3 1, 3), (.goto (-31), 3)]
def bk_Md_signatureSection_95 : List (Instr × Nat) := [(.aload_n 0, 1), (.aload_n 0, 1), (.getfield 100, 3), (.iload_n 2, 1), (.iaload, 1), (.ifCond .le 7, 3), (.iconst 1, 1), (.goto 4, 3)]
def bk_Md_signatureSection_109 : List (Instr × Nat) := [(.iconst 0, 1)]
def bk_Md_signatureSection_110 : List (Instr × Nat) := [(.invokevirtual 481, 3), (.aload_n 0, 1), (.getfield 100, 3), (.iload_n 2, 1), (.iaload, 1), (.ifCond .le 16, 3), (.aload_n 0, 1), (.aload_n 0, 1), (.getfield 100, 3), (.iload_n 2, 1), (.iaload, 1), (.invokestatic 500, 3), (.invokevirtual 481, 3)]
theorem ca_Md_signatureSection_0 : qz_ca yd_Md_signatureSection.2.1 0 bk_Md_signatureSection_0 := qz_cab_ok _ _ (by decide +kernel)
theorem ca_Md_signatureSection_25 : qz_ca yd_Md_signatureSection.2.1 25 bk_Md_signatureSection_25 := qz_cab_ok _ _ (by decide +kernel)
theorem ca_Md_signatureSection_141 : qz_ca yd_Md_signatureSection.2.1 141 bk_Md_signatureSection_141 := qz_cab_ok _ _ (by decide +kernel)
theorem ca_Md_signatureSection_135 : qz_ca yd_Md_signatureSection.2.1 135 bk_Md_signatureSection_135 := qz_cab_ok _ _ (by decide +kernel)
theorem ca_Md_signatureSection_61 : qz_ca yd_Md_signatureSection.2.1 61 bk_Md_signatureSection_61 := qz_cab_ok _ _ (by decide +kernel)
theorem ca_Md_signatureSection_95 : qz_ca yd_Md_signatureSection.2.1 95 bk_Md_signatureSection_95 := qz_cab_ok _ _ (by decide +kernel)
theorem ca_Md_signatureSection_109 : qz_ca yd_Md_signatureSection.2.1 109 bk_Md_signatureSection_109 := qz_cab_ok _ _ (by decide +kernel)
theorem ca_Md_signatureSection_110 : qz_ca yd_Md_signatureSection.2.1 110 bk_Md_signatureSection_110 := qz_cab_ok _ _ (by decide +kernel)
set_option maxRecDepth 20000 in
theorem jb_Md_signatureSection_135 (G : qz_G) (k25 : Int → Int → Int → qz_H → Option qz_R) (jk25 : ∀ (l0 : Int) (l1 : Int) (l2 : Int) (h : qz_H), qz_J yd_Md_signatureSection G bk_Md_signatureSection_25 25 [qz_r true 12 l0, qz_i l1, qz_i l2, qz_u] [] h 0 0 (k25 l0 l1 l2 h)) (l0 : Int) (l1 : Int) (l2 : Int) (h : qz_H) : qz_J yd_Md_signatureSection G bk_Md_signatureSection_135 135 [qz_r true 12 l0, qz_i l1, qz_i l2, qz_u] [] h 0 0 (fn_Md_signatureSection_135 k25 l0 l1 l2 h) := by
  unfold fn_Md_signatureSection_135 bk_Md_signatureSection_135; exact
    qz_iinc rfl (by decide) fun x1 =>
    qz_goto rfl ca_Md_signatureSection_25 <|
    qz_fgt [1, 1, 1, 0] <| jk25 l0 l1 x1 h
set_option maxRecDepth 20000 in
theorem jb_Md_signatureSection_110 (G : qz_G) (k25 : Int → Int → Int → qz_H → Option qz_R) (jk25 : ∀ (l0 : Int) (l1 : Int) (l2 : Int) (h : qz_H), qz_J yd_Md_signatureSection G bk_Md_signatureSection_25 25 [qz_r true 12 l0, qz_i l1, qz_i l2, qz_u] [] h 0 0 (k25 l0 l1 l2 h)) (l0 : Int) (l1 : Int) (l2 : Int) (s0 : Int) (s1 : Int) (h : qz_H) : qz_J yd_Md_signatureSection G bk_Md_signatureSection_110 110 [qz_r true 12 l0, qz_i l1, qz_i l2, qz_u] [qz_i s1, qz_r true 12 s0] h 0 0 (fn_Md_signatureSection_110 k25 l0 l1 l2 s0 s1 h) := by
  unfold fn_Md_signatureSection_110 bk_Md_signatureSection_110; exact
    qz_invvV [qz_i s1] rfl (cn_Md_add s0 s1 h) mw_Md_add vw_Md_add ⟨_, rfl, rfl, by decide⟩ rfl rfl ln_Md_481 rfl fun _ h2 =>
    qz_aload_n rfl <|
    qz_getR (k1 := 40) kg_12 fl_Md_100 rfl rfl <|
    qz_iload_n rfl <|
    qz_nnd 1 rfl <|
    qz_iald (k0 := 40) rfl rfl rfl <|
    qz_if_le rfl ca_Md_signatureSection_135
      (qz_fgt [1, 1, 1, 0] <| jb_Md_signatureSection_135 G k25 jk25 l0 l1 l2 h2)
      (qz_aload_n rfl <|
        qz_aload_n rfl <|
        qz_getR (k1 := 40) kg_12 fl_Md_100 rfl rfl <|
        qz_iload_n rfl <|
        qz_nnd 1 rfl <|
        qz_iald (k0 := 40) rfl rfl rfl <|
        qz_invsI [qz_i (h2 (h2 l0 10) l2)] rfl (cn_Md_typeByte (h2 (h2 l0 10) l2) h2) mw_Md_typeByte vs_Md_typeByte rfl rfl ln_Md_500 rfl fun r3 h4 =>
        qz_invvV [qz_i r3] rfl (cn_Md_add l0 r3 h4) mw_Md_add vw_Md_add ⟨_, rfl, rfl, by decide⟩ rfl rfl ln_Md_481 rfl fun _ h6 =>
        qz_fall rfl ca_Md_signatureSection_135 <|
        qz_fgt [1, 1, 1, 0] <| jb_Md_signatureSection_135 G k25 jk25 l0 l1 l2 h6)
set_option maxRecDepth 20000 in
theorem jb_Md_signatureSection_61_b (G : qz_G) (k25 : Int → Int → Int → qz_H → Option qz_R) (jk25 : ∀ (l0 : Int) (l1 : Int) (l2 : Int) (h : qz_H), qz_J yd_Md_signatureSection G bk_Md_signatureSection_25 25 [qz_r true 12 l0, qz_i l1, qz_i l2, qz_u] [] h 0 0 (k25 l0 l1 l2 h)) (k61 : Int → Int → Int → Int → qz_H → Option qz_R) (jk61 : ∀ (l0 : Int) (l1 : Int) (l2 : Int) (l3 : Int) (h : qz_H), qz_J yd_Md_signatureSection G bk_Md_signatureSection_61 61 [qz_r true 12 l0, qz_i l1, qz_i l2, qz_i l3] [] h 0 0 (k61 l0 l1 l2 l3 h)) (l0 : Int) (l1 : Int) (l2 : Int) (l3 : Int) (h : qz_H) : qz_J yd_Md_signatureSection G bk_Md_signatureSection_61 61 [qz_r true 12 l0, qz_i l1, qz_i l2, qz_i l3] [] h 0 0 (fn_Md_signatureSection_61_b k25 k61 l0 l1 l2 l3 h) := by
  unfold fn_Md_signatureSection_61_b bk_Md_signatureSection_61; exact
    qz_iload_n rfl <|
    qz_aload_n rfl <|
    qz_getR (k1 := 40) kg_12 fl_Md_94 rfl rfl <|
    qz_iload_n rfl <|
    qz_nnd 1 rfl <|
    qz_iald (k0 := 40) rfl rfl rfl <|
    qz_icmp_ge rfl ca_Md_signatureSection_95
      (qz_aload_n rfl <|
        qz_aload_n rfl <|
        qz_getR (k1 := 40) kg_12 fl_Md_100 rfl rfl <|
        qz_iload_n rfl <|
        qz_nnd 1 rfl <|
        qz_iald (k0 := 40) rfl rfl rfl <|
        qz_if_le rfl ca_Md_signatureSection_109
          (qz_iconst rfl <|
            qz_fall rfl ca_Md_signatureSection_110 <|
            qz_fgt [1, 1, 1, 0] <| jb_Md_signatureSection_110 G k25 jk25 l0 l1 l2 l0 0 h)
          (qz_iconst rfl <|
            qz_goto rfl ca_Md_signatureSection_110 <|
            qz_fgt [1, 1, 1, 0] <| jb_Md_signatureSection_110 G k25 jk25 l0 l1 l2 l0 1 h))
      (qz_aload_n rfl <|
        qz_aload_n rfl <|
        qz_getR (k1 := 40) kg_12 fl_Md_103 rfl rfl <|
        qz_bipush rfl <|
        qz_iload_n rfl <|
        qz_imul <|
        qz_iload_n rfl <|
        qz_iadd <|
        qz_nnd 1 rfl <|
        qz_iald (k0 := 40) rfl rfl rfl <|
        qz_invsI [qz_i (h (h l0 11) (qz_w ((qz_w (8 * l2)) + l3)))] rfl (cn_Md_typeByte (h (h l0 11) (qz_w ((qz_w (8 * l2)) + l3))) h) mw_Md_typeByte vs_Md_typeByte rfl rfl ln_Md_500 rfl fun r1 h2 =>
        qz_invvV [qz_i r1] rfl (cn_Md_add l0 r1 h2) mw_Md_add vw_Md_add ⟨_, rfl, rfl, by decide⟩ rfl rfl ln_Md_481 rfl fun _ h4 =>
        qz_iinc rfl (by decide) fun x5 =>
        qz_goto rfl ca_Md_signatureSection_61 <|
        qz_fgt [1, 1, 1, 1] <| jk61 l0 l1 l2 x5 h4)
theorem jb_Md_signatureSection_61 (G : qz_G) (k25 : Int → Int → Int → qz_H → Option qz_R) (jk25 : ∀ (l0 : Int) (l1 : Int) (l2 : Int) (h : qz_H), qz_J yd_Md_signatureSection G bk_Md_signatureSection_25 25 [qz_r true 12 l0, qz_i l1, qz_i l2, qz_u] [] h 0 0 (k25 l0 l1 l2 h)) : ∀ (n : Nat) (l0 l1 l2 l3 : Int) (h : qz_H), qz_J yd_Md_signatureSection G bk_Md_signatureSection_61 61 [qz_r true 12 l0, qz_i l1, qz_i l2, qz_i l3] [] h 0 0 (fn_Md_signatureSection_61 k25 n l0 l1 l2 l3 h)
  | 0, _, _, _, _, _ => qz_none
  | n + 1, l0, l1, l2, l3, h => jb_Md_signatureSection_61_b G k25 jk25 (fn_Md_signatureSection_61 k25 n) (jb_Md_signatureSection_61 G k25 jk25 n) l0 l1 l2 l3 h
set_option maxRecDepth 20000 in
theorem jb_Md_signatureSection_25_b (G : qz_G) (k25 : Int → Int → Int → qz_H → Option qz_R) (jk25 : ∀ (l0 : Int) (l1 : Int) (l2 : Int) (h : qz_H), qz_J yd_Md_signatureSection G bk_Md_signatureSection_25 25 [qz_r true 12 l0, qz_i l1, qz_i l2, qz_u] [] h 0 0 (k25 l0 l1 l2 h)) (l0 : Int) (l1 : Int) (l2 : Int) (h : qz_H) : qz_J yd_Md_signatureSection G bk_Md_signatureSection_25 25 [qz_r true 12 l0, qz_i l1, qz_i l2, qz_u] [] h 0 0 (fn_Md_signatureSection_25_b k25 l0 l1 l2 h) := by
  unfold fn_Md_signatureSection_25_b bk_Md_signatureSection_25; exact
    qz_iload_n rfl <|
    qz_aload_n rfl <|
    qz_getI kg_12 fl_Md_458 rfl rfl <|
    qz_icmp_ge rfl ca_Md_signatureSection_141
      (qz_aload_n rfl <|
        qz_iload_n rfl <|
        qz_invvV [qz_i l1] rfl (cn_Md_close l0 l1 h) mw_Md_close vw_Md_close ⟨_, rfl, rfl, by decide⟩ rfl rfl ln_Md_503 rfl fun _ h2 =>
        qz_return ⟨rfl, rfl⟩ rfl)
      (qz_aload_n rfl <|
        qz_iload_n rfl <|
        qz_invvI [qz_i l2] rfl (cn_Md_firstLike l0 l2 h) mw_Md_firstLike vw_Md_firstLike ⟨_, rfl, rfl, by decide⟩ rfl rfl ln_Md_491 rfl fun r3 h4 =>
        qz_iload_n rfl <|
        qz_icmp_ne rfl ca_Md_signatureSection_135
          (qz_fgt [1, 1, 1, 0] <| jb_Md_signatureSection_135 G k25 jk25 l0 l1 l2 h4)
          (qz_aload_n rfl <|
            qz_bipush rfl <|
            qz_invvV [qz_i 96] rfl (cn_Md_add l0 96 h4) mw_Md_add vw_Md_add ⟨_, rfl, rfl, by decide⟩ rfl rfl ln_Md_481 rfl fun _ h6 =>
            qz_aload_n rfl <|
            qz_aload_n rfl <|
            qz_getR (k1 := 40) kg_12 fl_Md_94 rfl rfl <|
            qz_iload_n rfl <|
            qz_nnd 1 rfl <|
            qz_iald (k0 := 40) rfl rfl rfl <|
            qz_i2l <|
            qz_invvV [qz_j (h6 (h6 l0 8) l2)] rfl (cn_Md_unsigned l0 (h6 (h6 l0 8) l2) h6) mw_Md_unsigned vw_Md_unsigned ⟨_, rfl, rfl, by decide⟩ rfl rfl ln_Md_497 rfl fun _ h8 =>
            qz_iconst rfl <|
            qz_istore_n (by decide) fun x9 =>
            qz_fall rfl ca_Md_signatureSection_61 <|
            qz_fgt [1, 1, 1, 1] <| jb_Md_signatureSection_61 G k25 jk25 qz_NF l0 l1 l2 x9 h8))
theorem jb_Md_signatureSection_25 (G : qz_G) : ∀ (n : Nat) (l0 l1 l2 : Int) (h : qz_H), qz_J yd_Md_signatureSection G bk_Md_signatureSection_25 25 [qz_r true 12 l0, qz_i l1, qz_i l2, qz_u] [] h 0 0 (fn_Md_signatureSection_25 n l0 l1 l2 h)
  | 0, _, _, _, _ => qz_none
  | n + 1, l0, l1, l2, h => jb_Md_signatureSection_25_b G (fn_Md_signatureSection_25 n) (jb_Md_signatureSection_25 G n) l0 l1 l2 h
set_option maxRecDepth 20000 in
theorem cn_Md_signatureSection (l0 : Int) (h : qz_H) : qz_C yd_Md_signatureSection [qz_r true 12 l0] h (fn_Md_signatureSection l0 h) := by
  refine qz_con (is := bk_Md_signatureSection_0) (ls := [qz_r true 12 l0, qz_u, qz_u, qz_u]) mw_Md_signatureSection.2.2.2 ca_Md_signatureSection_0 rfl rfl rfl fun G => ?_
  unfold fn_Md_signatureSection bk_Md_signatureSection_0; exact
    qz_aload_n rfl <|
    qz_iconst rfl <|
    qz_invvV [qz_i 1] rfl (cn_Md_add l0 1 h) mw_Md_add vw_Md_add ⟨_, rfl, rfl, by decide⟩ rfl rfl ln_Md_481 rfl fun _ h2 =>
    qz_aload_n rfl <|
    qz_getI kg_12 fl_Md_476 rfl rfl <|
    qz_istore_n (by decide) fun x3 =>
    qz_aload_n rfl <|
    qz_aload_n rfl <|
    qz_aload_n rfl <|
    qz_getI kg_12 fl_Md_458 rfl rfl <|
    qz_invvI [qz_i (h2 l0 7)] rfl (cn_Md_signaturesBefore l0 (h2 l0 7) h2) mw_Md_signaturesBefore vw_Md_signaturesBefore ⟨_, rfl, rfl, by decide⟩ rfl rfl ln_Md_494 rfl fun r4 h5 =>
    qz_i2l <|
    qz_invvV [qz_j r4] rfl (cn_Md_unsigned l0 r4 h5) mw_Md_unsigned vw_Md_unsigned ⟨_, rfl, rfl, by decide⟩ rfl rfl ln_Md_497 rfl fun _ h7 =>
    qz_iconst rfl <|
    qz_istore_n (by decide) fun x8 =>
    qz_fall rfl ca_Md_signatureSection_25 <|
    qz_fgt [1, 1, 1, 0] <| jb_Md_signatureSection_25 G qz_NF l0 x3 x8 h7
def fn_Md_functionSection_21_b (k21 : Int → Int → Int → qz_H → Option qz_R) (l0 : Int) (l1 : Int) (l2 : Int) (h : qz_H) : Option qz_R :=
  if h l0 7 ≤ l2 then
    qz_bc (fn_Md_close l0 l1 h) fun _ h2 =>
    some (0, h2)
  else
    qz_bc (fn_Md_firstLike l0 l2 h) fun r3 h4 =>
    qz_bc (fn_Md_signaturesBefore l0 r3 h4) fun r5 h6 =>
    qz_bc (fn_Md_unsigned l0 r5 h6) fun _ h8 =>
    qz_bn (qz_w (l2 + 1)) fun x9 =>
    k21 l0 l1 x9 h8
def fn_Md_functionSection_21 : Nat → Int → Int → Int → qz_H → Option qz_R
  | 0, _, _, _, _ => none
  | n + 1, l0, l1, l2, h => fn_Md_functionSection_21_b (fn_Md_functionSection_21 n) l0 l1 l2 h
set_option maxRecDepth 20000 in
def fn_Md_functionSection (l0 : Int) (h : qz_H) : Option qz_R :=
  qz_bc (fn_Md_add l0 3 h) fun _ h2 =>
  qz_bn (h2 l0 60 : Int) fun x3 =>
  qz_bc (fn_Md_unsigned l0 (h2 l0 7) h2) fun _ h5 =>
  qz_bn (0 : Int) fun x6 =>
  fn_Md_functionSection_21 qz_NF l0 x3 x6 h5
def bk_Md_functionSection_0 : List (Instr × Nat) := [(.aload_n 0, 1), (.iconst 3, 1), (.invokevirtual 481, 3), (.aload_n 0, 1), (.getfield 476, 3), (.istore_n 1, 1), (.aload_n 0, 1), (.aload_n 0, 1), (.getfield 458, 3), (.i2l, 1), (.invokevirtual 497, 3), (.iconst 0, 1), (.istore_n 2, 1)]
def bk_Md_functionSection_21 : List (Instr × Nat) := [(.iload_n 2, 1), (.aload_n 0, 1), (.getfield 458, 3), (.if_icmp .ge 23, 3), (.aload_n 0, 1), (.aload_n 0, 1), (.aload_n 0, 1), (.iload_n 2, 1), (.invokevirtual 491, 3), (.invokevirtual 494, 3), (.i2l, 1), (.invokevirtual 497, 3), (.iinc 2 1, 3), (.goto (-25), 3)]
def bk_Md_functionSection_49 : List (Instr × Nat) := [(.aload_n 0, 1), (.iload_n 1, 1), (.invokevirtual 503, 3), (.return_, 1)]
theorem ca_Md_functionSection_0 : qz_ca yd_Md_functionSection.2.1 0 bk_Md_functionSection_0 := qz_cab_ok _ _ (by decide +kernel)
theorem ca_Md_functionSection_21 : qz_ca yd_Md_functionSection.2.1 21 bk_Md_functionSection_21 := qz_cab_ok _ _ (by decide +kernel)
theorem ca_Md_functionSection_49 : qz_ca yd_Md_functionSection.2.1 49 bk_Md_functionSection_49 := qz_cab_ok _ _ (by decide +kernel)
set_option maxRecDepth 20000 in
theorem jb_Md_functionSection_21_b (G : qz_G) (k21 : Int → Int → Int → qz_H → Option qz_R) (jk21 : ∀ (l0 : Int) (l1 : Int) (l2 : Int) (h : qz_H), qz_J yd_Md_functionSection G bk_Md_functionSection_21 21 [qz_r true 12 l0, qz_i l1, qz_i l2] [] h 0 0 (k21 l0 l1 l2 h)) (l0 : Int) (l1 : Int) (l2 : Int) (h : qz_H) : qz_J yd_Md_functionSection G bk_Md_functionSection_21 21 [qz_r true 12 l0, qz_i l1, qz_i l2] [] h 0 0 (fn_Md_functionSection_21_b k21 l0 l1 l2 h) := by
  unfold fn_Md_functionSection_21_b bk_Md_functionSection_21; exact
    qz_iload_n rfl <|
    qz_aload_n rfl <|
    qz_getI kg_12 fl_Md_458 rfl rfl <|
    qz_icmp_ge rfl ca_Md_functionSection_49
      (qz_aload_n rfl <|
        qz_iload_n rfl <|
        qz_invvV [qz_i l1] rfl (cn_Md_close l0 l1 h) mw_Md_close vw_Md_close ⟨_, rfl, rfl, by decide⟩ rfl rfl ln_Md_503 rfl fun _ h2 =>
        qz_return ⟨rfl, rfl⟩ rfl)
      (qz_aload_n rfl <|
        qz_aload_n rfl <|
        qz_aload_n rfl <|
        qz_iload_n rfl <|
        qz_invvI [qz_i l2] rfl (cn_Md_firstLike l0 l2 h) mw_Md_firstLike vw_Md_firstLike ⟨_, rfl, rfl, by decide⟩ rfl rfl ln_Md_491 rfl fun r3 h4 =>
        qz_invvI [qz_i r3] rfl (cn_Md_signaturesBefore l0 r3 h4) mw_Md_signaturesBefore vw_Md_signaturesBefore ⟨_, rfl, rfl, by decide⟩ rfl rfl ln_Md_494 rfl fun r5 h6 =>
        qz_i2l <|
        qz_invvV [qz_j r5] rfl (cn_Md_unsigned l0 r5 h6) mw_Md_unsigned vw_Md_unsigned ⟨_, rfl, rfl, by decide⟩ rfl rfl ln_Md_497 rfl fun _ h8 =>
        qz_iinc rfl (by decide) fun x9 =>
        qz_goto rfl ca_Md_functionSection_21 <|
        qz_fgt [1, 1, 1] <| jk21 l0 l1 x9 h8)
theorem jb_Md_functionSection_21 (G : qz_G) : ∀ (n : Nat) (l0 l1 l2 : Int) (h : qz_H), qz_J yd_Md_functionSection G bk_Md_functionSection_21 21 [qz_r true 12 l0, qz_i l1, qz_i l2] [] h 0 0 (fn_Md_functionSection_21 n l0 l1 l2 h)
  | 0, _, _, _, _ => qz_none
  | n + 1, l0, l1, l2, h => jb_Md_functionSection_21_b G (fn_Md_functionSection_21 n) (jb_Md_functionSection_21 G n) l0 l1 l2 h
set_option maxRecDepth 20000 in
theorem cn_Md_functionSection (l0 : Int) (h : qz_H) : qz_C yd_Md_functionSection [qz_r true 12 l0] h (fn_Md_functionSection l0 h) := by
  refine qz_con (is := bk_Md_functionSection_0) (ls := [qz_r true 12 l0, qz_u, qz_u]) mw_Md_functionSection.2.2.2 ca_Md_functionSection_0 rfl rfl rfl fun G => ?_
  unfold fn_Md_functionSection bk_Md_functionSection_0; exact
    qz_aload_n rfl <|
    qz_iconst rfl <|
    qz_invvV [qz_i 3] rfl (cn_Md_add l0 3 h) mw_Md_add vw_Md_add ⟨_, rfl, rfl, by decide⟩ rfl rfl ln_Md_481 rfl fun _ h2 =>
    qz_aload_n rfl <|
    qz_getI kg_12 fl_Md_476 rfl rfl <|
    qz_istore_n (by decide) fun x3 =>
    qz_aload_n rfl <|
    qz_aload_n rfl <|
    qz_getI kg_12 fl_Md_458 rfl rfl <|
    qz_i2l <|
    qz_invvV [qz_j (h2 l0 7)] rfl (cn_Md_unsigned l0 (h2 l0 7) h2) mw_Md_unsigned vw_Md_unsigned ⟨_, rfl, rfl, by decide⟩ rfl rfl ln_Md_497 rfl fun _ h5 =>
    qz_iconst rfl <|
    qz_istore_n (by decide) fun x6 =>
    qz_fall rfl ca_Md_functionSection_21 <|
    qz_fgt [1, 1, 1] <| jb_Md_functionSection_21 G qz_NF l0 x3 x6 h5
def fn_Md_runBegins_42 (s0 : Int) (h : qz_H) : Option qz_R :=
  qz_ck ((s0 : Int) = 0 ∨ (s0 : Int) = 1) (some (s0, h))
def fn_Md_runBegins_37 (h : qz_H) : Option qz_R :=
  fn_Md_runBegins_42 1 h
set_option maxRecDepth 20000 in
def fn_Md_runBegins (l0 : Int) (l1 : Int) (l2 : Int) (h : qz_H) : Option qz_R :=
  qz_ck ((h l0 8 : Int) ≠ 0) <|
  qz_ck ((0 : Int) ≤ l1 ∧ l1 < h (h l0 8) (-1)) <|
  if l2 = h (h l0 8) l1 then
    fn_Md_runBegins_37 h
  else
    qz_ck ((h l0 11 : Int) ≠ 0) <|
    qz_ck ((0 : Int) ≤ qz_w ((qz_w (8 * l1)) + l2) ∧ qz_w ((qz_w (8 * l1)) + l2) < h (h l0 11) (-1)) <|
    qz_ck ((h l0 11 : Int) ≠ 0) <|
    qz_ck ((0 : Int) ≤ qz_w ((qz_w ((qz_w (8 * l1)) + l2)) - 1) ∧ qz_w ((qz_w ((qz_w (8 * l1)) + l2)) - 1) < h (h l0 11) (-1)) <|
    if h (h l0 11) (qz_w ((qz_w (8 * l1)) + l2)) = h (h l0 11) (qz_w ((qz_w ((qz_w (8 * l1)) + l2)) - 1)) then
      fn_Md_runBegins_42 0 h
    else
      fn_Md_runBegins_37 h
def bk_Md_runBegins_0 : List (Instr × Nat) := [(.iload_n 2, 1), (.aload_n 0, 1), (.getfield 94, 3), (.iload_n 1, 1), (.iaload, 1), (.if_icmp .eq 30, 3), (.aload_n 0, 1), (.getfield 103, 3), (.bipush 8, 2), (.iload_n 1, 1), (.imul, 1), (.iload_n 2, 1), (.iadd, 1), (.iaload, 1), (.aload_n 0, 1), (.getfield 103, 3), (.bipush 8, 2), (.iload_n 1, 1), (.imul, 1), (.iload_n 2, 1), (.iadd, 1), (.iconst 1, 1), (.isub, 1), (.iaload, 1), (.if_icmp .eq 7, 3)]
def bk_Md_runBegins_37 : List (Instr × Nat) := [(.iconst 1, 1), (.goto 4, 3)]
def bk_Md_runBegins_41 : List (Instr × Nat) := [(.iconst 0, 1)]
def bk_Md_runBegins_42 : List (Instr × Nat) := [(.ireturn, 1)]
theorem ca_Md_runBegins_0 : qz_ca yd_Md_runBegins.2.1 0 bk_Md_runBegins_0 := qz_cab_ok _ _ (by decide +kernel)
theorem ca_Md_runBegins_37 : qz_ca yd_Md_runBegins.2.1 37 bk_Md_runBegins_37 := qz_cab_ok _ _ (by decide +kernel)
theorem ca_Md_runBegins_41 : qz_ca yd_Md_runBegins.2.1 41 bk_Md_runBegins_41 := qz_cab_ok _ _ (by decide +kernel)
theorem ca_Md_runBegins_42 : qz_ca yd_Md_runBegins.2.1 42 bk_Md_runBegins_42 := qz_cab_ok _ _ (by decide +kernel)
set_option maxRecDepth 20000 in
theorem jb_Md_runBegins_42 (G : qz_G) (s0 : Int) (h : qz_H) : qz_J yd_Md_runBegins G bk_Md_runBegins_42 42 [qz_u, qz_u, qz_u] [qz_i s0] h 0 0 (fn_Md_runBegins_42 s0 h) := by
  unfold fn_Md_runBegins_42 bk_Md_runBegins_42; exact
    qz_zreturn ⟨rfl, rfl⟩ rfl
set_option maxRecDepth 20000 in
theorem jb_Md_runBegins_37 (G : qz_G) (h : qz_H) : qz_J yd_Md_runBegins G bk_Md_runBegins_37 37 [qz_u, qz_u, qz_u] [] h 0 0 (fn_Md_runBegins_37 h) := by
  unfold fn_Md_runBegins_37 bk_Md_runBegins_37; exact
    qz_iconst rfl <|
    qz_goto rfl ca_Md_runBegins_42 <|
    qz_fgt [0, 0, 0] <| jb_Md_runBegins_42 G 1 h
set_option maxRecDepth 20000 in
theorem cn_Md_runBegins (l0 : Int) (l1 : Int) (l2 : Int) (h : qz_H) : qz_C yd_Md_runBegins [qz_r true 12 l0, qz_i l1, qz_i l2] h (fn_Md_runBegins l0 l1 l2 h) := by
  refine qz_con (is := bk_Md_runBegins_0) (ls := [qz_r true 12 l0, qz_i l1, qz_i l2]) mw_Md_runBegins.2.2.2 ca_Md_runBegins_0 rfl rfl rfl fun G => ?_
  unfold fn_Md_runBegins bk_Md_runBegins_0; exact
    qz_iload_n rfl <|
    qz_aload_n rfl <|
    qz_getR (k1 := 40) kg_12 fl_Md_94 rfl rfl <|
    qz_iload_n rfl <|
    qz_nnd 1 rfl <|
    qz_iald (k0 := 40) rfl rfl rfl <|
    qz_icmp_eq rfl ca_Md_runBegins_37
      (qz_fgt [0, 0, 0] <| jb_Md_runBegins_37 G h)
      (qz_aload_n rfl <|
        qz_getR (k1 := 40) kg_12 fl_Md_103 rfl rfl <|
        qz_bipush rfl <|
        qz_iload_n rfl <|
        qz_imul <|
        qz_iload_n rfl <|
        qz_iadd <|
        qz_nnd 1 rfl <|
        qz_iald (k0 := 40) rfl rfl rfl <|
        qz_aload_n rfl <|
        qz_getR (k1 := 40) kg_12 fl_Md_103 rfl rfl <|
        qz_bipush rfl <|
        qz_iload_n rfl <|
        qz_imul <|
        qz_iload_n rfl <|
        qz_iadd <|
        qz_iconst rfl <|
        qz_isub <|
        qz_nnd 1 rfl <|
        qz_iald (k0 := 40) rfl rfl rfl <|
        qz_icmp_eq rfl ca_Md_runBegins_41
          (qz_iconst rfl <|
            qz_fall rfl ca_Md_runBegins_42 <|
            qz_fgt [0, 0, 0] <| jb_Md_runBegins_42 G 0 h)
          (qz_fall rfl ca_Md_runBegins_37 <|
            qz_fgt [0, 0, 0] <| jb_Md_runBegins_37 G h))
def fn_Md_runs_133 (k55 : Int → Int → Int → qz_H → Option qz_R) (l0 : Int) (l1 : Int) (l3 : Int) (h : qz_H) : Option qz_R :=
  qz_bn (qz_w (l3 + 1)) fun x1 =>
  k55 l0 l1 x1 h
def fn_Md_runs_106 (k55 : Int → Int → Int → qz_H → Option qz_R) (l0 : Int) (l1 : Int) (l3 : Int) (l4 : Int) (h : qz_H) : Option qz_R :=
  qz_bc (fn_Md_unsigned l0 (qz_w (l4 - l3)) h) fun _ h2 =>
  qz_ck ((h2 l0 11 : Int) ≠ 0) <|
  qz_ck ((0 : Int) ≤ qz_w ((qz_w (8 * l1)) + l3) ∧ qz_w ((qz_w (8 * l1)) + l3) < h2 (h2 l0 11) (-1)) <|
  qz_bc (fn_Md_typeByte (h2 (h2 l0 11) (qz_w ((qz_w (8 * l1)) + l3))) h2) fun r3 h4 =>
  qz_bc (fn_Md_add l0 r3 h4) fun _ h6 =>
  fn_Md_runs_133 k55 l0 l1 l3 h6
def fn_Md_runs_79_b (k55 : Int → Int → Int → qz_H → Option qz_R) (k79 : Int → Int → Int → Int → qz_H → Option qz_R) (l0 : Int) (l1 : Int) (l3 : Int) (l4 : Int) (h : qz_H) : Option qz_R :=
  qz_ck ((h l0 9 : Int) ≠ 0) <|
  qz_ck ((0 : Int) ≤ l1 ∧ l1 < h (h l0 9) (-1)) <|
  if h (h l0 9) l1 ≤ l4 then
    fn_Md_runs_106 k55 l0 l1 l3 l4 h
  else
    qz_bc (fn_Md_runBegins l0 l1 l4 h) fun r1 h2 =>
    if ¬ r1 = 0 then
      fn_Md_runs_106 k55 l0 l1 l3 l4 h2
    else
      qz_bn (qz_w (l4 + 1)) fun x3 =>
      k79 l0 l1 l3 x3 h2
def fn_Md_runs_79 (k55 : Int → Int → Int → qz_H → Option qz_R) : Nat → Int → Int → Int → Int → qz_H → Option qz_R
  | 0, _, _, _, _, _ => none
  | n + 1, l0, l1, l3, l4, h => fn_Md_runs_79_b k55 (fn_Md_runs_79 k55 n) l0 l1 l3 l4 h
def fn_Md_runs_55_b (k55 : Int → Int → Int → qz_H → Option qz_R) (l0 : Int) (l1 : Int) (l3 : Int) (h : qz_H) : Option qz_R :=
  qz_ck ((h l0 9 : Int) ≠ 0) <|
  qz_ck ((0 : Int) ≤ l1 ∧ l1 < h (h l0 9) (-1)) <|
  if h (h l0 9) l1 ≤ l3 then
    some (0, h)
  else
    qz_bc (fn_Md_runBegins l0 l1 l3 h) fun r1 h2 =>
    if r1 = 0 then
      fn_Md_runs_133 k55 l0 l1 l3 h2
    else
      qz_bn (qz_w (l3 + 1) : Int) fun x3 =>
      fn_Md_runs_79 k55 qz_NF l0 l1 l3 x3 h2
def fn_Md_runs_55 : Nat → Int → Int → Int → qz_H → Option qz_R
  | 0, _, _, _, _ => none
  | n + 1, l0, l1, l3, h => fn_Md_runs_55_b (fn_Md_runs_55 n) l0 l1 l3 h
def fn_Md_runs_34 (k9 : Int → Int → Int → Int → qz_H → Option qz_R) (l0 : Int) (l1 : Int) (l3 : Int) (s0 : Int) (s1 : Int) (h : qz_H) : Option qz_R :=
  qz_bn (qz_w (s0 + s1) : Int) fun x1 =>
  qz_bn (qz_w (l3 + 1)) fun x2 =>
  k9 l0 l1 x1 x2 h
def fn_Md_runs_9_b (k9 : Int → Int → Int → Int → qz_H → Option qz_R) (l0 : Int) (l1 : Int) (l2 : Int) (l3 : Int) (h : qz_H) : Option qz_R :=
  qz_ck ((h l0 9 : Int) ≠ 0) <|
  qz_ck ((0 : Int) ≤ l1 ∧ l1 < h (h l0 9) (-1)) <|
  if h (h l0 9) l1 ≤ l3 then
    qz_bc (fn_Md_unsigned l0 l2 h) fun _ h2 =>
    qz_ck ((h2 l0 8 : Int) ≠ 0) <|
    qz_ck ((0 : Int) ≤ l1 ∧ l1 < h2 (h2 l0 8) (-1)) <|
    qz_bn (h2 (h2 l0 8) l1 : Int) fun x3 =>
    fn_Md_runs_55 qz_NF l0 l1 x3 h2
  else
    qz_bc (fn_Md_runBegins l0 l1 l3 h) fun r4 h5 =>
    if r4 = 0 then
      fn_Md_runs_34 k9 l0 l1 l3 l2 0 h5
    else
      fn_Md_runs_34 k9 l0 l1 l3 l2 1 h5
def fn_Md_runs_9 : Nat → Int → Int → Int → Int → qz_H → Option qz_R
  | 0, _, _, _, _, _ => none
  | n + 1, l0, l1, l2, l3, h => fn_Md_runs_9_b (fn_Md_runs_9 n) l0 l1 l2 l3 h
set_option maxRecDepth 20000 in
def fn_Md_runs (l0 : Int) (l1 : Int) (h : qz_H) : Option qz_R :=
  qz_bn (0 : Int) fun x1 =>
  qz_ck ((h l0 8 : Int) ≠ 0) <|
  qz_ck ((0 : Int) ≤ l1 ∧ l1 < h (h l0 8) (-1)) <|
  qz_bn (h (h l0 8) l1 : Int) fun x2 =>
  fn_Md_runs_9 qz_NF l0 l1 x1 x2 h
def bk_Md_runs_0 : List (Instr × Nat) := [(.iconst 0, 1), (.istore_n 2, 1), (.aload_n 0, 1), (.getfield 94, 3), (.iload_n 1, 1), (.iaload, 1), (.istore_n 3, 1)]
def bk_Md_runs_9 : List (Instr × Nat) := [(.iload_n 3, 1), (.aload_n 0, 1), (.getfield 97, 3), (.iload_n 1, 1), (.iaload, 1), (.if_icmp .ge 26, 3), (.iload_n 2, 1), (.aload_n 0, 1), (.iload_n 1, 1), (.iload_n 3, 1), (.invokevirtual 506, 3), (.ifCond .eq 7, 3), (.iconst 1, 1), (.goto 4, 3)]
def bk_Md_runs_42 : List (Instr × Nat) := [(.aload_n 0, 1), (.iload_n 2, 1), (.i2l, 1), (.invokevirtual 497, 3), (.aload_n 0, 1), (.getfield 94, 3), (.iload_n 1, 1), (.iaload, 1), (.istore_n 3, 1)]
def bk_Md_runs_55 : List (Instr × Nat) := [(.iload_n 3, 1), (.aload_n 0, 1), (.getfield 97, 3), (.iload_n 1, 1), (.iaload, 1), (.if_icmp .ge 77, 3), (.aload_n 0, 1), (.iload_n 1, 1), (.iload_n 3, 1), (.invokevirtual 506, 3), (.ifCond .eq 62, 3), (.iload_n 3, 1), (.iconst 1, 1), (.iadd, 1), (.istore 4, 2)]
def bk_Md_runs_33 : List (Instr × Nat) := [(.iconst 0, 1)]
def bk_Md_runs_34 : List (Instr × Nat) := [(.iadd, 1), (.istore_n 2, 1), (.iinc 3 1, 3), (.goto (-30), 3)]
def bk_Md_runs_139 : List (Instr × Nat) := [(.return_, 1)]
def bk_Md_runs_133 : List (Instr × Nat) := [(.iinc 3 1, 3), (.goto (-81), 3)]
def bk_Md_runs_79 : List (Instr × Nat) := [(.iload 4, 2), (.aload_n 0, 1), (.getfield 97, 3), (.iload_n 1, 1), (.iaload, 1), (.if_icmp .ge 19, 3), (.aload_n 0, 1), (.iload_n 1, 1), (.iload 4, 2), (.invokevirtual 506, 3), (.ifCond .ne 9, 3), (.iinc 4 1, 3), (.goto (-24), 3)]
def bk_Md_runs_106 : List (Instr × Nat) := [(.aload_n 0, 1), (.iload 4, 2), (.iload_n 3, 1), (.isub, 1), (.i2l, 1), (.invokevirtual 497, 3), (.aload_n 0, 1), (.aload_n 0, 1), (.getfield 103, 3), (.bipush 8, 2), (.iload_n 1, 1), (.imul, 1), (.iload_n 3, 1), (.iadd, 1), (.iaload, 1), (.invokestatic 500, 3), (.invokevirtual 481, 3)]
theorem ca_Md_runs_0 : qz_ca yd_Md_runs.2.1 0 bk_Md_runs_0 := qz_cab_ok _ _ (by decide +kernel)
theorem ca_Md_runs_9 : qz_ca yd_Md_runs.2.1 9 bk_Md_runs_9 := qz_cab_ok _ _ (by decide +kernel)
theorem ca_Md_runs_42 : qz_ca yd_Md_runs.2.1 42 bk_Md_runs_42 := qz_cab_ok _ _ (by decide +kernel)
theorem ca_Md_runs_55 : qz_ca yd_Md_runs.2.1 55 bk_Md_runs_55 := qz_cab_ok _ _ (by decide +kernel)
theorem ca_Md_runs_33 : qz_ca yd_Md_runs.2.1 33 bk_Md_runs_33 := qz_cab_ok _ _ (by decide +kernel)
theorem ca_Md_runs_34 : qz_ca yd_Md_runs.2.1 34 bk_Md_runs_34 := qz_cab_ok _ _ (by decide +kernel)
theorem ca_Md_runs_139 : qz_ca yd_Md_runs.2.1 139 bk_Md_runs_139 := qz_cab_ok _ _ (by decide +kernel)
theorem ca_Md_runs_133 : qz_ca yd_Md_runs.2.1 133 bk_Md_runs_133 := qz_cab_ok _ _ (by decide +kernel)
theorem ca_Md_runs_79 : qz_ca yd_Md_runs.2.1 79 bk_Md_runs_79 := qz_cab_ok _ _ (by decide +kernel)
theorem ca_Md_runs_106 : qz_ca yd_Md_runs.2.1 106 bk_Md_runs_106 := qz_cab_ok _ _ (by decide +kernel)
set_option maxRecDepth 20000 in
theorem jb_Md_runs_133 (G : qz_G) (k55 : Int → Int → Int → qz_H → Option qz_R) (jk55 : ∀ (l0 : Int) (l1 : Int) (l3 : Int) (h : qz_H), qz_J yd_Md_runs G bk_Md_runs_55 55 [qz_r true 12 l0, qz_i l1, qz_u, qz_i l3, qz_u] [] h 0 0 (k55 l0 l1 l3 h)) (l0 : Int) (l1 : Int) (l3 : Int) (h : qz_H) : qz_J yd_Md_runs G bk_Md_runs_133 133 [qz_r true 12 l0, qz_i l1, qz_u, qz_i l3, qz_u] [] h 0 0 (fn_Md_runs_133 k55 l0 l1 l3 h) := by
  unfold fn_Md_runs_133 bk_Md_runs_133; exact
    qz_iinc rfl (by decide) fun x1 =>
    qz_goto rfl ca_Md_runs_55 <|
    qz_fgt [1, 1, 0, 1, 0] <| jk55 l0 l1 x1 h
set_option maxRecDepth 20000 in
theorem jb_Md_runs_106 (G : qz_G) (k55 : Int → Int → Int → qz_H → Option qz_R) (jk55 : ∀ (l0 : Int) (l1 : Int) (l3 : Int) (h : qz_H), qz_J yd_Md_runs G bk_Md_runs_55 55 [qz_r true 12 l0, qz_i l1, qz_u, qz_i l3, qz_u] [] h 0 0 (k55 l0 l1 l3 h)) (l0 : Int) (l1 : Int) (l3 : Int) (l4 : Int) (h : qz_H) : qz_J yd_Md_runs G bk_Md_runs_106 106 [qz_r true 12 l0, qz_i l1, qz_u, qz_i l3, qz_i l4] [] h 0 0 (fn_Md_runs_106 k55 l0 l1 l3 l4 h) := by
  unfold fn_Md_runs_106 bk_Md_runs_106; exact
    qz_aload_n rfl <|
    qz_iload rfl <|
    qz_iload_n rfl <|
    qz_isub <|
    qz_i2l <|
    qz_invvV [qz_j (qz_w (l4 - l3))] rfl (cn_Md_unsigned l0 (qz_w (l4 - l3)) h) mw_Md_unsigned vw_Md_unsigned ⟨_, rfl, rfl, by decide⟩ rfl rfl ln_Md_497 rfl fun _ h2 =>
    qz_aload_n rfl <|
    qz_aload_n rfl <|
    qz_getR (k1 := 40) kg_12 fl_Md_103 rfl rfl <|
    qz_bipush rfl <|
    qz_iload_n rfl <|
    qz_imul <|
    qz_iload_n rfl <|
    qz_iadd <|
    qz_nnd 1 rfl <|
    qz_iald (k0 := 40) rfl rfl rfl <|
    qz_invsI [qz_i (h2 (h2 l0 11) (qz_w ((qz_w (8 * l1)) + l3)))] rfl (cn_Md_typeByte (h2 (h2 l0 11) (qz_w ((qz_w (8 * l1)) + l3))) h2) mw_Md_typeByte vs_Md_typeByte rfl rfl ln_Md_500 rfl fun r3 h4 =>
    qz_invvV [qz_i r3] rfl (cn_Md_add l0 r3 h4) mw_Md_add vw_Md_add ⟨_, rfl, rfl, by decide⟩ rfl rfl ln_Md_481 rfl fun _ h6 =>
    qz_fall rfl ca_Md_runs_133 <|
    qz_fgt [1, 1, 0, 1, 0] <| jb_Md_runs_133 G k55 jk55 l0 l1 l3 h6
set_option maxRecDepth 20000 in
theorem jb_Md_runs_79_b (G : qz_G) (k55 : Int → Int → Int → qz_H → Option qz_R) (jk55 : ∀ (l0 : Int) (l1 : Int) (l3 : Int) (h : qz_H), qz_J yd_Md_runs G bk_Md_runs_55 55 [qz_r true 12 l0, qz_i l1, qz_u, qz_i l3, qz_u] [] h 0 0 (k55 l0 l1 l3 h)) (k79 : Int → Int → Int → Int → qz_H → Option qz_R) (jk79 : ∀ (l0 : Int) (l1 : Int) (l3 : Int) (l4 : Int) (h : qz_H), qz_J yd_Md_runs G bk_Md_runs_79 79 [qz_r true 12 l0, qz_i l1, qz_u, qz_i l3, qz_i l4] [] h 0 0 (k79 l0 l1 l3 l4 h)) (l0 : Int) (l1 : Int) (l3 : Int) (l4 : Int) (h : qz_H) : qz_J yd_Md_runs G bk_Md_runs_79 79 [qz_r true 12 l0, qz_i l1, qz_u, qz_i l3, qz_i l4] [] h 0 0 (fn_Md_runs_79_b k55 k79 l0 l1 l3 l4 h) := by
  unfold fn_Md_runs_79_b bk_Md_runs_79; exact
    qz_iload rfl <|
    qz_aload_n rfl <|
    qz_getR (k1 := 40) kg_12 fl_Md_97 rfl rfl <|
    qz_iload_n rfl <|
    qz_nnd 1 rfl <|
    qz_iald (k0 := 40) rfl rfl rfl <|
    qz_icmp_ge rfl ca_Md_runs_106
      (qz_fgt [1, 1, 0, 1, 1] <| jb_Md_runs_106 G k55 jk55 l0 l1 l3 l4 h)
      (qz_aload_n rfl <|
        qz_iload_n rfl <|
        qz_iload rfl <|
        qz_invvI [qz_i l1, qz_i l4] rfl (cn_Md_runBegins l0 l1 l4 h) mw_Md_runBegins vw_Md_runBegins ⟨_, rfl, rfl, by decide⟩ rfl rfl ln_Md_506 rfl fun r1 h2 =>
        qz_if_ne rfl ca_Md_runs_106
          (qz_fgt [1, 1, 0, 1, 1] <| jb_Md_runs_106 G k55 jk55 l0 l1 l3 l4 h2)
          (qz_iinc rfl (by decide) fun x3 =>
            qz_goto rfl ca_Md_runs_79 <|
            qz_fgt [1, 1, 0, 1, 1] <| jk79 l0 l1 l3 x3 h2))
theorem jb_Md_runs_79 (G : qz_G) (k55 : Int → Int → Int → qz_H → Option qz_R) (jk55 : ∀ (l0 : Int) (l1 : Int) (l3 : Int) (h : qz_H), qz_J yd_Md_runs G bk_Md_runs_55 55 [qz_r true 12 l0, qz_i l1, qz_u, qz_i l3, qz_u] [] h 0 0 (k55 l0 l1 l3 h)) : ∀ (n : Nat) (l0 l1 l3 l4 : Int) (h : qz_H), qz_J yd_Md_runs G bk_Md_runs_79 79 [qz_r true 12 l0, qz_i l1, qz_u, qz_i l3, qz_i l4] [] h 0 0 (fn_Md_runs_79 k55 n l0 l1 l3 l4 h)
  | 0, _, _, _, _, _ => qz_none
  | n + 1, l0, l1, l3, l4, h => jb_Md_runs_79_b G k55 jk55 (fn_Md_runs_79 k55 n) (jb_Md_runs_79 G k55 jk55 n) l0 l1 l3 l4 h
set_option maxRecDepth 20000 in
theorem jb_Md_runs_55_b (G : qz_G) (k55 : Int → Int → Int → qz_H → Option qz_R) (jk55 : ∀ (l0 : Int) (l1 : Int) (l3 : Int) (h : qz_H), qz_J yd_Md_runs G bk_Md_runs_55 55 [qz_r true 12 l0, qz_i l1, qz_u, qz_i l3, qz_u] [] h 0 0 (k55 l0 l1 l3 h)) (l0 : Int) (l1 : Int) (l3 : Int) (h : qz_H) : qz_J yd_Md_runs G bk_Md_runs_55 55 [qz_r true 12 l0, qz_i l1, qz_u, qz_i l3, qz_u] [] h 0 0 (fn_Md_runs_55_b k55 l0 l1 l3 h) := by
  unfold fn_Md_runs_55_b bk_Md_runs_55; exact
    qz_iload_n rfl <|
    qz_aload_n rfl <|
    qz_getR (k1 := 40) kg_12 fl_Md_97 rfl rfl <|
    qz_iload_n rfl <|
    qz_nnd 1 rfl <|
    qz_iald (k0 := 40) rfl rfl rfl <|
    qz_icmp_ge rfl ca_Md_runs_139
      (qz_return ⟨rfl, rfl⟩ rfl)
      (qz_aload_n rfl <|
        qz_iload_n rfl <|
        qz_iload_n rfl <|
        qz_invvI [qz_i l1, qz_i l3] rfl (cn_Md_runBegins l0 l1 l3 h) mw_Md_runBegins vw_Md_runBegins ⟨_, rfl, rfl, by decide⟩ rfl rfl ln_Md_506 rfl fun r1 h2 =>
        qz_if_eq rfl ca_Md_runs_133
          (qz_fgt [1, 1, 0, 1, 0] <| jb_Md_runs_133 G k55 jk55 l0 l1 l3 h2)
          (qz_iload_n rfl <|
            qz_iconst rfl <|
            qz_iadd <|
            qz_istore (by decide) fun x3 =>
            qz_fall rfl ca_Md_runs_79 <|
            qz_fgt [1, 1, 0, 1, 1] <| jb_Md_runs_79 G k55 jk55 qz_NF l0 l1 l3 x3 h2))
theorem jb_Md_runs_55 (G : qz_G) : ∀ (n : Nat) (l0 l1 l3 : Int) (h : qz_H), qz_J yd_Md_runs G bk_Md_runs_55 55 [qz_r true 12 l0, qz_i l1, qz_u, qz_i l3, qz_u] [] h 0 0 (fn_Md_runs_55 n l0 l1 l3 h)
  | 0, _, _, _, _ => qz_none
  | n + 1, l0, l1, l3, h => jb_Md_runs_55_b G (fn_Md_runs_55 n) (jb_Md_runs_55 G n) l0 l1 l3 h
set_option maxRecDepth 20000 in
theorem jb_Md_runs_34 (G : qz_G) (k9 : Int → Int → Int → Int → qz_H → Option qz_R) (jk9 : ∀ (l0 : Int) (l1 : Int) (l2 : Int) (l3 : Int) (h : qz_H), qz_J yd_Md_runs G bk_Md_runs_9 9 [qz_r true 12 l0, qz_i l1, qz_i l2, qz_i l3, qz_u] [] h 0 0 (k9 l0 l1 l2 l3 h)) (l0 : Int) (l1 : Int) (l3 : Int) (s0 : Int) (s1 : Int) (h : qz_H) : qz_J yd_Md_runs G bk_Md_runs_34 34 [qz_r true 12 l0, qz_i l1, qz_u, qz_i l3, qz_u] [qz_i s1, qz_i s0] h 0 0 (fn_Md_runs_34 k9 l0 l1 l3 s0 s1 h) := by
  unfold fn_Md_runs_34 bk_Md_runs_34; exact
    qz_iadd <|
    qz_istore_n (by decide) fun x1 =>
    qz_iinc rfl (by decide) fun x2 =>
    qz_goto rfl ca_Md_runs_9 <|
    qz_fgt [1, 1, 1, 1, 0] <| jk9 l0 l1 x1 x2 h
set_option maxRecDepth 20000 in
theorem jb_Md_runs_9_b (G : qz_G) (k9 : Int → Int → Int → Int → qz_H → Option qz_R) (jk9 : ∀ (l0 : Int) (l1 : Int) (l2 : Int) (l3 : Int) (h : qz_H), qz_J yd_Md_runs G bk_Md_runs_9 9 [qz_r true 12 l0, qz_i l1, qz_i l2, qz_i l3, qz_u] [] h 0 0 (k9 l0 l1 l2 l3 h)) (l0 : Int) (l1 : Int) (l2 : Int) (l3 : Int) (h : qz_H) : qz_J yd_Md_runs G bk_Md_runs_9 9 [qz_r true 12 l0, qz_i l1, qz_i l2, qz_i l3, qz_u] [] h 0 0 (fn_Md_runs_9_b k9 l0 l1 l2 l3 h) := by
  unfold fn_Md_runs_9_b bk_Md_runs_9; exact
    qz_iload_n rfl <|
    qz_aload_n rfl <|
    qz_getR (k1 := 40) kg_12 fl_Md_97 rfl rfl <|
    qz_iload_n rfl <|
    qz_nnd 1 rfl <|
    qz_iald (k0 := 40) rfl rfl rfl <|
    qz_icmp_ge rfl ca_Md_runs_42
      (qz_aload_n rfl <|
        qz_iload_n rfl <|
        qz_i2l <|
        qz_invvV [qz_j l2] rfl (cn_Md_unsigned l0 l2 h) mw_Md_unsigned vw_Md_unsigned ⟨_, rfl, rfl, by decide⟩ rfl rfl ln_Md_497 rfl fun _ h2 =>
        qz_aload_n rfl <|
        qz_getR (k1 := 40) kg_12 fl_Md_94 rfl rfl <|
        qz_iload_n rfl <|
        qz_nnd 1 rfl <|
        qz_iald (k0 := 40) rfl rfl rfl <|
        qz_istore_n (by decide) fun x3 =>
        qz_fall rfl ca_Md_runs_55 <|
        qz_fgt [1, 1, 0, 1, 0] <| jb_Md_runs_55 G qz_NF l0 l1 x3 h2)
      (qz_iload_n rfl <|
        qz_aload_n rfl <|
        qz_iload_n rfl <|
        qz_iload_n rfl <|
        qz_invvI [qz_i l1, qz_i l3] rfl (cn_Md_runBegins l0 l1 l3 h) mw_Md_runBegins vw_Md_runBegins ⟨_, rfl, rfl, by decide⟩ rfl rfl ln_Md_506 rfl fun r4 h5 =>
        qz_if_eq rfl ca_Md_runs_33
          (qz_iconst rfl <|
            qz_fall rfl ca_Md_runs_34 <|
            qz_fgt [1, 1, 0, 1, 0] <| jb_Md_runs_34 G k9 jk9 l0 l1 l3 l2 0 h5)
          (qz_iconst rfl <|
            qz_goto rfl ca_Md_runs_34 <|
            qz_fgt [1, 1, 0, 1, 0] <| jb_Md_runs_34 G k9 jk9 l0 l1 l3 l2 1 h5))
theorem jb_Md_runs_9 (G : qz_G) : ∀ (n : Nat) (l0 l1 l2 l3 : Int) (h : qz_H), qz_J yd_Md_runs G bk_Md_runs_9 9 [qz_r true 12 l0, qz_i l1, qz_i l2, qz_i l3, qz_u] [] h 0 0 (fn_Md_runs_9 n l0 l1 l2 l3 h)
  | 0, _, _, _, _, _ => qz_none
  | n + 1, l0, l1, l2, l3, h => jb_Md_runs_9_b G (fn_Md_runs_9 n) (jb_Md_runs_9 G n) l0 l1 l2 l3 h
set_option maxRecDepth 20000 in
theorem cn_Md_runs (l0 : Int) (l1 : Int) (h : qz_H) : qz_C yd_Md_runs [qz_r true 12 l0, qz_i l1] h (fn_Md_runs l0 l1 h) := by
  refine qz_con (is := bk_Md_runs_0) (ls := [qz_r true 12 l0, qz_i l1, qz_u, qz_u, qz_u]) mw_Md_runs.2.2.2 ca_Md_runs_0 rfl rfl rfl fun G => ?_
  unfold fn_Md_runs bk_Md_runs_0; exact
    qz_iconst rfl <|
    qz_istore_n (by decide) fun x1 =>
    qz_aload_n rfl <|
    qz_getR (k1 := 40) kg_12 fl_Md_94 rfl rfl <|
    qz_iload_n rfl <|
    qz_nnd 1 rfl <|
    qz_iald (k0 := 40) rfl rfl rfl <|
    qz_istore_n (by decide) fun x2 =>
    qz_fall rfl ca_Md_runs_9 <|
    qz_fgt [1, 1, 1, 1, 0] <| jb_Md_runs_9 G qz_NF l0 l1 x1 x2 h
def fn_Md_instructionBytes_104 (h : qz_H) : Option qz_R :=
  some (0, h)
def fn_Md_instructionBytes_51 (l0 : Int) (l1 : Int) (h : qz_H) : Option qz_R :=
  qz_ck ((h l0 14 : Int) ≠ 0) <|
  qz_ck ((0 : Int) ≤ l1 ∧ l1 < h (h l0 14) (-1)) <|
  qz_bc (fn_Md_signed l0 (h (h l0 14) l1) h) fun _ h2 =>
  fn_Md_instructionBytes_104 h2
def fn_Md_instructionBytes_94 (l0 : Int) (l1 : Int) (h : qz_H) : Option qz_R :=
  qz_ck ((h l0 14 : Int) ≠ 0) <|
  qz_ck ((0 : Int) ≤ l1 ∧ l1 < h (h l0 14) (-1)) <|
  qz_bc (fn_Md_unsigned l0 (h (h l0 14) l1) h) fun _ h2 =>
  fn_Md_instructionBytes_104 h2
def fn_Md_instructionBytes_39 (l0 : Int) (l1 : Int) (l2 : Int) (h : qz_H) : Option qz_R :=
  if l2 = 65 then
    fn_Md_instructionBytes_51 l0 l1 h
  else
    if ¬ l2 = 66 then
      if l2 = 12 then
        fn_Md_instructionBytes_94 l0 l1 h
      else
        if l2 = 13 then
          fn_Md_instructionBytes_94 l0 l1 h
        else
          if l2 = 16 then
            fn_Md_instructionBytes_94 l0 l1 h
          else
            if l2 < 32 then
              fn_Md_instructionBytes_104 h
            else
              if 34 < l2 then
                fn_Md_instructionBytes_104 h
              else
                fn_Md_instructionBytes_94 l0 l1 h
    else
      fn_Md_instructionBytes_51 l0 l1 h
set_option maxRecDepth 20000 in
def fn_Md_instructionBytes (l0 : Int) (l1 : Int) (h : qz_H) : Option qz_R :=
  qz_ck ((h l0 13 : Int) ≠ 0) <|
  qz_ck ((0 : Int) ≤ l1 ∧ l1 < h (h l0 13) (-1)) <|
  qz_bn (h (h l0 13) l1 : Int) fun x1 =>
  qz_bc (fn_Md_add l0 x1 h) fun _ h3 =>
  if x1 < 2 then
    fn_Md_instructionBytes_39 l0 l1 x1 h3
  else
    if 4 < x1 then
      fn_Md_instructionBytes_39 l0 l1 x1 h3
    else
      qz_ck ((h3 l0 14 : Int) ≠ 0) <|
      qz_ck ((0 : Int) ≤ l1 ∧ l1 < h3 (h3 l0 14) (-1)) <|
      qz_bc (fn_Md_typeByte (qz_w (h3 (h3 l0 14) l1)) h3) fun r4 h5 =>
      qz_bc (fn_Md_add l0 r4 h5) fun _ h7 =>
      fn_Md_instructionBytes_104 h7
def bk_Md_instructionBytes_0 : List (Instr × Nat) := [(.aload_n 0, 1), (.getfield 109, 3), (.iload_n 1, 1), (.iaload, 1), (.istore_n 2, 1), (.aload_n 0, 1), (.iload_n 2, 1), (.invokevirtual 481, 3), (.iload_n 2, 1), (.iconst 2, 1), (.if_icmp .lt 25, 3), (.iload_n 2, 1), (.iconst 4, 1), (.if_icmp .gt 20, 3), (.aload_n 0, 1), (.aload_n 0, 1), (.getfield 112, 3), (.iload_n 1, 1), (.laload, 1), (.l2i, 1), (.invokestatic 500, 3), (.invokevirtual 481, 3), (.goto 68, 3)]
def bk_Md_instructionBytes_39 : List (Instr × Nat) := [(.iload_n 2, 1), (.bipush 65, 2), (.if_icmp .eq 9, 3), (.iload_n 2, 1), (.bipush 66, 2), (.if_icmp .ne 16, 3)]
def bk_Md_instructionBytes_104 : List (Instr × Nat) := [(.return_, 1)]
def bk_Md_instructionBytes_51 : List (Instr × Nat) := [(.aload_n 0, 1), (.aload_n 0, 1), (.getfield 112, 3), (.iload_n 1, 1), (.laload, 1), (.invokevirtual 509, 3), (.goto 43, 3)]
def bk_Md_instructionBytes_64 : List (Instr × Nat) := [(.iload_n 2, 1), (.bipush 12, 2), (.if_icmp .eq 27, 3), (.iload_n 2, 1), (.bipush 13, 2), (.if_icmp .eq 21, 3), (.iload_n 2, 1), (.bipush 16, 2), (.if_icmp .eq 15, 3), (.iload_n 2, 1), (.bipush 32, 2), (.if_icmp .lt 19, 3), (.iload_n 2, 1), (.bipush 34, 2), (.if_icmp .gt 13, 3)]
def bk_Md_instructionBytes_94 : List (Instr × Nat) := [(.aload_n 0, 1), (.aload_n 0, 1), (.getfield 112, 3), (.iload_n 1, 1), (.laload, 1), (.invokevirtual 497, 3)]
theorem ca_Md_instructionBytes_0 : qz_ca yd_Md_instructionBytes.2.1 0 bk_Md_instructionBytes_0 := qz_cab_ok _ _ (by decide +kernel)
theorem ca_Md_instructionBytes_39 : qz_ca yd_Md_instructionBytes.2.1 39 bk_Md_instructionBytes_39 := qz_cab_ok _ _ (by decide +kernel)
theorem ca_Md_instructionBytes_104 : qz_ca yd_Md_instructionBytes.2.1 104 bk_Md_instructionBytes_104 := qz_cab_ok _ _ (by decide +kernel)
theorem ca_Md_instructionBytes_51 : qz_ca yd_Md_instructionBytes.2.1 51 bk_Md_instructionBytes_51 := qz_cab_ok _ _ (by decide +kernel)
theorem ca_Md_instructionBytes_64 : qz_ca yd_Md_instructionBytes.2.1 64 bk_Md_instructionBytes_64 := qz_cab_ok _ _ (by decide +kernel)
theorem ca_Md_instructionBytes_94 : qz_ca yd_Md_instructionBytes.2.1 94 bk_Md_instructionBytes_94 := qz_cab_ok _ _ (by decide +kernel)
set_option maxRecDepth 20000 in
theorem jb_Md_instructionBytes_104 (G : qz_G) (h : qz_H) : qz_J yd_Md_instructionBytes G bk_Md_instructionBytes_104 104 [qz_u, qz_u, qz_u] [] h 0 0 (fn_Md_instructionBytes_104 h) := by
  unfold fn_Md_instructionBytes_104 bk_Md_instructionBytes_104; exact
    qz_return ⟨rfl, rfl⟩ rfl
set_option maxRecDepth 20000 in
theorem jb_Md_instructionBytes_51 (G : qz_G) (l0 : Int) (l1 : Int) (h : qz_H) : qz_J yd_Md_instructionBytes G bk_Md_instructionBytes_51 51 [qz_r true 12 l0, qz_i l1, qz_u] [] h 0 0 (fn_Md_instructionBytes_51 l0 l1 h) := by
  unfold fn_Md_instructionBytes_51 bk_Md_instructionBytes_51; exact
    qz_aload_n rfl <|
    qz_aload_n rfl <|
    qz_getR (k1 := 41) kg_12 fl_Md_112 rfl rfl <|
    qz_iload_n rfl <|
    qz_nnd 1 rfl <|
    qz_lald (k0 := 41) rfl rfl rfl <|
    qz_invvV [qz_j (h (h l0 14) l1)] rfl (cn_Md_signed l0 (h (h l0 14) l1) h) mw_Md_signed vw_Md_signed ⟨_, rfl, rfl, by decide⟩ rfl rfl ln_Md_509 rfl fun _ h2 =>
    qz_goto rfl ca_Md_instructionBytes_104 <|
    qz_fgt [0, 0, 0] <| jb_Md_instructionBytes_104 G h2
set_option maxRecDepth 20000 in
theorem jb_Md_instructionBytes_94 (G : qz_G) (l0 : Int) (l1 : Int) (h : qz_H) : qz_J yd_Md_instructionBytes G bk_Md_instructionBytes_94 94 [qz_r true 12 l0, qz_i l1, qz_u] [] h 0 0 (fn_Md_instructionBytes_94 l0 l1 h) := by
  unfold fn_Md_instructionBytes_94 bk_Md_instructionBytes_94; exact
    qz_aload_n rfl <|
    qz_aload_n rfl <|
    qz_getR (k1 := 41) kg_12 fl_Md_112 rfl rfl <|
    qz_iload_n rfl <|
    qz_nnd 1 rfl <|
    qz_lald (k0 := 41) rfl rfl rfl <|
    qz_invvV [qz_j (h (h l0 14) l1)] rfl (cn_Md_unsigned l0 (h (h l0 14) l1) h) mw_Md_unsigned vw_Md_unsigned ⟨_, rfl, rfl, by decide⟩ rfl rfl ln_Md_497 rfl fun _ h2 =>
    qz_fall rfl ca_Md_instructionBytes_104 <|
    qz_fgt [0, 0, 0] <| jb_Md_instructionBytes_104 G h2
set_option maxRecDepth 20000 in
theorem jb_Md_instructionBytes_39 (G : qz_G) (l0 : Int) (l1 : Int) (l2 : Int) (h : qz_H) : qz_J yd_Md_instructionBytes G bk_Md_instructionBytes_39 39 [qz_r true 12 l0, qz_i l1, qz_i l2] [] h 0 0 (fn_Md_instructionBytes_39 l0 l1 l2 h) := by
  unfold fn_Md_instructionBytes_39 bk_Md_instructionBytes_39; exact
    qz_iload_n rfl <|
    qz_bipush rfl <|
    qz_icmp_eq rfl ca_Md_instructionBytes_51
      (qz_fgt [1, 1, 0] <| jb_Md_instructionBytes_51 G l0 l1 h)
      (qz_iload_n rfl <|
        qz_bipush rfl <|
        qz_icmp_ne rfl ca_Md_instructionBytes_64
          (qz_iload_n rfl <|
            qz_bipush rfl <|
            qz_icmp_eq rfl ca_Md_instructionBytes_94
              (qz_fgt [1, 1, 0] <| jb_Md_instructionBytes_94 G l0 l1 h)
              (qz_iload_n rfl <|
                qz_bipush rfl <|
                qz_icmp_eq rfl ca_Md_instructionBytes_94
                  (qz_fgt [1, 1, 0] <| jb_Md_instructionBytes_94 G l0 l1 h)
                  (qz_iload_n rfl <|
                    qz_bipush rfl <|
                    qz_icmp_eq rfl ca_Md_instructionBytes_94
                      (qz_fgt [1, 1, 0] <| jb_Md_instructionBytes_94 G l0 l1 h)
                      (qz_iload_n rfl <|
                        qz_bipush rfl <|
                        qz_icmp_lt rfl ca_Md_instructionBytes_104
                          (qz_fgt [0, 0, 0] <| jb_Md_instructionBytes_104 G h)
                          (qz_iload_n rfl <|
                            qz_bipush rfl <|
                            qz_icmp_gt rfl ca_Md_instructionBytes_104
                              (qz_fgt [0, 0, 0] <| jb_Md_instructionBytes_104 G h)
                              (qz_fall rfl ca_Md_instructionBytes_94 <|
                                qz_fgt [1, 1, 0] <| jb_Md_instructionBytes_94 G l0 l1 h))))))
          (qz_fall rfl ca_Md_instructionBytes_51 <|
            qz_fgt [1, 1, 0] <| jb_Md_instructionBytes_51 G l0 l1 h))
set_option maxRecDepth 20000 in
theorem cn_Md_instructionBytes (l0 : Int) (l1 : Int) (h : qz_H) : qz_C yd_Md_instructionBytes [qz_r true 12 l0, qz_i l1] h (fn_Md_instructionBytes l0 l1 h) := by
  refine qz_con (is := bk_Md_instructionBytes_0) (ls := [qz_r true 12 l0, qz_i l1, qz_u]) mw_Md_instructionBytes.2.2.2 ca_Md_instructionBytes_0 rfl rfl rfl fun G => ?_
  unfold fn_Md_instructionBytes bk_Md_instructionBytes_0; exact
    qz_aload_n rfl <|
    qz_getR (k1 := 40) kg_12 fl_Md_109 rfl rfl <|
    qz_iload_n rfl <|
    qz_nnd 1 rfl <|
    qz_iald (k0 := 40) rfl rfl rfl <|
    qz_istore_n (by decide) fun x1 =>
    qz_aload_n rfl <|
    qz_iload_n rfl <|
    qz_invvV [qz_i x1] rfl (cn_Md_add l0 x1 h) mw_Md_add vw_Md_add ⟨_, rfl, rfl, by decide⟩ rfl rfl ln_Md_481 rfl fun _ h3 =>
    qz_iload_n rfl <|
    qz_iconst rfl <|
    qz_icmp_lt rfl ca_Md_instructionBytes_39
      (qz_fgt [1, 1, 1] <| jb_Md_instructionBytes_39 G l0 l1 x1 h3)
      (qz_iload_n rfl <|
        qz_iconst rfl <|
        qz_icmp_gt rfl ca_Md_instructionBytes_39
          (qz_fgt [1, 1, 1] <| jb_Md_instructionBytes_39 G l0 l1 x1 h3)
          (qz_aload_n rfl <|
            qz_aload_n rfl <|
            qz_getR (k1 := 41) kg_12 fl_Md_112 rfl rfl <|
            qz_iload_n rfl <|
            qz_nnd 1 rfl <|
            qz_lald (k0 := 41) rfl rfl rfl <|
            qz_l2i <|
            qz_invsI [qz_i (qz_w (h3 (h3 l0 14) l1))] rfl (cn_Md_typeByte (qz_w (h3 (h3 l0 14) l1)) h3) mw_Md_typeByte vs_Md_typeByte rfl rfl ln_Md_500 rfl fun r4 h5 =>
            qz_invvV [qz_i r4] rfl (cn_Md_add l0 r4 h5) mw_Md_add vw_Md_add ⟨_, rfl, rfl, by decide⟩ rfl rfl ln_Md_481 rfl fun _ h7 =>
            qz_goto rfl ca_Md_instructionBytes_104 <|
            qz_fgt [0, 0, 0] <| jb_Md_instructionBytes_104 G h7))
def fn_Md_codeSection_48_b (k22 : Int → Int → Int → qz_H → Option qz_R) (k48 : Int → Int → Int → Int → Int → qz_H → Option qz_R) (l0 : Int) (l1 : Int) (l2 : Int) (l3 : Int) (l4 : Int) (h : qz_H) : Option qz_R :=
  qz_ck ((h l0 12 : Int) ≠ 0) <|
  qz_ck ((0 : Int) ≤ qz_w (l2 + 1) ∧ qz_w (l2 + 1) < h (h l0 12) (-1)) <|
  if h (h l0 12) (qz_w (l2 + 1)) ≤ l4 then
    qz_bc (fn_Md_add l0 11 h) fun _ h2 =>
    qz_bc (fn_Md_close l0 l3 h2) fun _ h4 =>
    qz_bn (qz_w (l2 + 1)) fun x5 =>
    k22 l0 l1 x5 h4
  else
    qz_bc (fn_Md_instructionBytes l0 l4 h) fun _ h7 =>
    qz_bn (qz_w (l4 + 1)) fun x8 =>
    k48 l0 l1 l2 l3 x8 h7
def fn_Md_codeSection_48 (k22 : Int → Int → Int → qz_H → Option qz_R) : Nat → Int → Int → Int → Int → Int → qz_H → Option qz_R
  | 0, _, _, _, _, _, _ => none
  | n + 1, l0, l1, l2, l3, l4, h => fn_Md_codeSection_48_b k22 (fn_Md_codeSection_48 k22 n) l0 l1 l2 l3 l4 h
def fn_Md_codeSection_22_b (k22 : Int → Int → Int → qz_H → Option qz_R) (l0 : Int) (l1 : Int) (l2 : Int) (h : qz_H) : Option qz_R :=
  if h l0 7 ≤ l2 then
    qz_bc (fn_Md_close l0 l1 h) fun _ h2 =>
    some (0, h2)
  else
    qz_bn (h l0 60 : Int) fun x3 =>
    qz_bc (fn_Md_runs l0 l2 h) fun _ h5 =>
    qz_ck ((h5 l0 12 : Int) ≠ 0) <|
    qz_ck ((0 : Int) ≤ l2 ∧ l2 < h5 (h5 l0 12) (-1)) <|
    qz_bn (h5 (h5 l0 12) l2 : Int) fun x6 =>
    fn_Md_codeSection_48 k22 qz_NF l0 l1 l2 x3 x6 h5
def fn_Md_codeSection_22 : Nat → Int → Int → Int → qz_H → Option qz_R
  | 0, _, _, _, _ => none
  | n + 1, l0, l1, l2, h => fn_Md_codeSection_22_b (fn_Md_codeSection_22 n) l0 l1 l2 h
set_option maxRecDepth 20000 in
def fn_Md_codeSection (l0 : Int) (h : qz_H) : Option qz_R :=
  qz_bc (fn_Md_add l0 10 h) fun _ h2 =>
  qz_bn (h2 l0 60 : Int) fun x3 =>
  qz_bc (fn_Md_unsigned l0 (h2 l0 7) h2) fun _ h5 =>
  qz_bn (0 : Int) fun x6 =>
  fn_Md_codeSection_22 qz_NF l0 x3 x6 h5
def bk_Md_codeSection_0 : List (Instr × Nat) := [(.aload_n 0, 1), (.bipush 10, 2), (.invokevirtual 481, 3), (.aload_n 0, 1), (.getfield 476, 3), (.istore_n 1, 1), (.aload_n 0, 1), (.aload_n 0, 1), (.getfield 458, 3), (.i2l, 1), (.invokevirtual 497, 3), (.iconst 0, 1), (.istore_n 2, 1)]
def bk_Md_codeSection_22 : List (Instr × Nat) := [(.iload_n 2, 1), (.aload_n 0, 1), (.getfield 458, 3), (.if_icmp .ge 63, 3), (.aload_n 0, 1), (.getfield 476, 3), (.istore_n 3, 1), (.aload_n 0, 1), (.iload_n 2, 1), (.invokevirtual 512, 3), (.aload_n 0, 1), (.getfield 106, 3), (.iload_n 2, 1), (.iaload, 1), (.istore 4, 2)]
def bk_Md_codeSection_90 : List (Instr × Nat) := [(.aload_n 0, 1), (.iload_n 1, 1), (.invokevirtual 503, 3), (.return_, 1)]
def bk_Md_codeSection_48 : List (Instr × Nat) := [(.iload 4, 2), (.aload_n 0, 1), (.getfield 106, 3), (.iload_n 2, 1), (.iconst 1, 1), (.iadd, 1), (.iaload, 1), (.if_icmp .ge 15, 3), (.aload_n 0, 1), (.iload 4, 2), (.invokevirtual 515, 3), (.iinc 4 1, 3), (.goto (-22), 3)]
def bk_Md_codeSection_73 : List (Instr × Nat) := [(.aload_n 0, 1), (.bipush 11, 2), (.invokevirtual 481, 3), (.aload_n 0, 1), (.iload_n 3, 1), (.invokevirtual 503, 3), (.iinc 2 1, 3), (.goto (-65), 3)]
theorem ca_Md_codeSection_0 : qz_ca yd_Md_codeSection.2.1 0 bk_Md_codeSection_0 := qz_cab_ok _ _ (by decide +kernel)
theorem ca_Md_codeSection_22 : qz_ca yd_Md_codeSection.2.1 22 bk_Md_codeSection_22 := qz_cab_ok _ _ (by decide +kernel)
theorem ca_Md_codeSection_90 : qz_ca yd_Md_codeSection.2.1 90 bk_Md_codeSection_90 := qz_cab_ok _ _ (by decide +kernel)
theorem ca_Md_codeSection_48 : qz_ca yd_Md_codeSection.2.1 48 bk_Md_codeSection_48 := qz_cab_ok _ _ (by decide +kernel)
theorem ca_Md_codeSection_73 : qz_ca yd_Md_codeSection.2.1 73 bk_Md_codeSection_73 := qz_cab_ok _ _ (by decide +kernel)
set_option maxRecDepth 20000 in
theorem jb_Md_codeSection_48_b (G : qz_G) (k22 : Int → Int → Int → qz_H → Option qz_R) (jk22 : ∀ (l0 : Int) (l1 : Int) (l2 : Int) (h : qz_H), qz_J yd_Md_codeSection G bk_Md_codeSection_22 22 [qz_r true 12 l0, qz_i l1, qz_i l2, qz_u, qz_u] [] h 0 0 (k22 l0 l1 l2 h)) (k48 : Int → Int → Int → Int → Int → qz_H → Option qz_R) (jk48 : ∀ (l0 : Int) (l1 : Int) (l2 : Int) (l3 : Int) (l4 : Int) (h : qz_H), qz_J yd_Md_codeSection G bk_Md_codeSection_48 48 [qz_r true 12 l0, qz_i l1, qz_i l2, qz_i l3, qz_i l4] [] h 0 0 (k48 l0 l1 l2 l3 l4 h)) (l0 : Int) (l1 : Int) (l2 : Int) (l3 : Int) (l4 : Int) (h : qz_H) : qz_J yd_Md_codeSection G bk_Md_codeSection_48 48 [qz_r true 12 l0, qz_i l1, qz_i l2, qz_i l3, qz_i l4] [] h 0 0 (fn_Md_codeSection_48_b k22 k48 l0 l1 l2 l3 l4 h) := by
  unfold fn_Md_codeSection_48_b bk_Md_codeSection_48; exact
    qz_iload rfl <|
    qz_aload_n rfl <|
    qz_getR (k1 := 40) kg_12 fl_Md_106 rfl rfl <|
    qz_iload_n rfl <|
    qz_iconst rfl <|
    qz_iadd <|
    qz_nnd 1 rfl <|
    qz_iald (k0 := 40) rfl rfl rfl <|
    qz_icmp_ge rfl ca_Md_codeSection_73
      (qz_aload_n rfl <|
        qz_bipush rfl <|
        qz_invvV [qz_i 11] rfl (cn_Md_add l0 11 h) mw_Md_add vw_Md_add ⟨_, rfl, rfl, by decide⟩ rfl rfl ln_Md_481 rfl fun _ h2 =>
        qz_aload_n rfl <|
        qz_iload_n rfl <|
        qz_invvV [qz_i l3] rfl (cn_Md_close l0 l3 h2) mw_Md_close vw_Md_close ⟨_, rfl, rfl, by decide⟩ rfl rfl ln_Md_503 rfl fun _ h4 =>
        qz_iinc rfl (by decide) fun x5 =>
        qz_goto rfl ca_Md_codeSection_22 <|
        qz_fgt [1, 1, 1, 0, 0] <| jk22 l0 l1 x5 h4)
      (qz_aload_n rfl <|
        qz_iload rfl <|
        qz_invvV [qz_i l4] rfl (cn_Md_instructionBytes l0 l4 h) mw_Md_instructionBytes vw_Md_instructionBytes ⟨_, rfl, rfl, by decide⟩ rfl rfl ln_Md_515 rfl fun _ h7 =>
        qz_iinc rfl (by decide) fun x8 =>
        qz_goto rfl ca_Md_codeSection_48 <|
        qz_fgt [1, 1, 1, 1, 1] <| jk48 l0 l1 l2 l3 x8 h7)
theorem jb_Md_codeSection_48 (G : qz_G) (k22 : Int → Int → Int → qz_H → Option qz_R) (jk22 : ∀ (l0 : Int) (l1 : Int) (l2 : Int) (h : qz_H), qz_J yd_Md_codeSection G bk_Md_codeSection_22 22 [qz_r true 12 l0, qz_i l1, qz_i l2, qz_u, qz_u] [] h 0 0 (k22 l0 l1 l2 h)) : ∀ (n : Nat) (l0 l1 l2 l3 l4 : Int) (h : qz_H), qz_J yd_Md_codeSection G bk_Md_codeSection_48 48 [qz_r true 12 l0, qz_i l1, qz_i l2, qz_i l3, qz_i l4] [] h 0 0 (fn_Md_codeSection_48 k22 n l0 l1 l2 l3 l4 h)
  | 0, _, _, _, _, _, _ => qz_none
  | n + 1, l0, l1, l2, l3, l4, h => jb_Md_codeSection_48_b G k22 jk22 (fn_Md_codeSection_48 k22 n) (jb_Md_codeSection_48 G k22 jk22 n) l0 l1 l2 l3 l4 h
set_option maxRecDepth 20000 in
theorem jb_Md_codeSection_22_b (G : qz_G) (k22 : Int → Int → Int → qz_H → Option qz_R) (jk22 : ∀ (l0 : Int) (l1 : Int) (l2 : Int) (h : qz_H), qz_J yd_Md_codeSection G bk_Md_codeSection_22 22 [qz_r true 12 l0, qz_i l1, qz_i l2, qz_u, qz_u] [] h 0 0 (k22 l0 l1 l2 h)) (l0 : Int) (l1 : Int) (l2 : Int) (h : qz_H) : qz_J yd_Md_codeSection G bk_Md_codeSection_22 22 [qz_r true 12 l0, qz_i l1, qz_i l2, qz_u, qz_u] [] h 0 0 (fn_Md_codeSection_22_b k22 l0 l1 l2 h) := by
  unfold fn_Md_codeSection_22_b bk_Md_codeSection_22; exact
    qz_iload_n rfl <|
    qz_aload_n rfl <|
    qz_getI kg_12 fl_Md_458 rfl rfl <|
    qz_icmp_ge rfl ca_Md_codeSection_90
      (qz_aload_n rfl <|
        qz_iload_n rfl <|
        qz_invvV [qz_i l1] rfl (cn_Md_close l0 l1 h) mw_Md_close vw_Md_close ⟨_, rfl, rfl, by decide⟩ rfl rfl ln_Md_503 rfl fun _ h2 =>
        qz_return ⟨rfl, rfl⟩ rfl)
      (qz_aload_n rfl <|
        qz_getI kg_12 fl_Md_476 rfl rfl <|
        qz_istore_n (by decide) fun x3 =>
        qz_aload_n rfl <|
        qz_iload_n rfl <|
        qz_invvV [qz_i l2] rfl (cn_Md_runs l0 l2 h) mw_Md_runs vw_Md_runs ⟨_, rfl, rfl, by decide⟩ rfl rfl ln_Md_512 rfl fun _ h5 =>
        qz_aload_n rfl <|
        qz_getR (k1 := 40) kg_12 fl_Md_106 rfl rfl <|
        qz_iload_n rfl <|
        qz_nnd 1 rfl <|
        qz_iald (k0 := 40) rfl rfl rfl <|
        qz_istore (by decide) fun x6 =>
        qz_fall rfl ca_Md_codeSection_48 <|
        qz_fgt [1, 1, 1, 1, 1] <| jb_Md_codeSection_48 G k22 jk22 qz_NF l0 l1 l2 x3 x6 h5)
theorem jb_Md_codeSection_22 (G : qz_G) : ∀ (n : Nat) (l0 l1 l2 : Int) (h : qz_H), qz_J yd_Md_codeSection G bk_Md_codeSection_22 22 [qz_r true 12 l0, qz_i l1, qz_i l2, qz_u, qz_u] [] h 0 0 (fn_Md_codeSection_22 n l0 l1 l2 h)
  | 0, _, _, _, _ => qz_none
  | n + 1, l0, l1, l2, h => jb_Md_codeSection_22_b G (fn_Md_codeSection_22 n) (jb_Md_codeSection_22 G n) l0 l1 l2 h
set_option maxRecDepth 20000 in
theorem cn_Md_codeSection (l0 : Int) (h : qz_H) : qz_C yd_Md_codeSection [qz_r true 12 l0] h (fn_Md_codeSection l0 h) := by
  refine qz_con (is := bk_Md_codeSection_0) (ls := [qz_r true 12 l0, qz_u, qz_u, qz_u, qz_u]) mw_Md_codeSection.2.2.2 ca_Md_codeSection_0 rfl rfl rfl fun G => ?_
  unfold fn_Md_codeSection bk_Md_codeSection_0; exact
    qz_aload_n rfl <|
    qz_bipush rfl <|
    qz_invvV [qz_i 10] rfl (cn_Md_add l0 10 h) mw_Md_add vw_Md_add ⟨_, rfl, rfl, by decide⟩ rfl rfl ln_Md_481 rfl fun _ h2 =>
    qz_aload_n rfl <|
    qz_getI kg_12 fl_Md_476 rfl rfl <|
    qz_istore_n (by decide) fun x3 =>
    qz_aload_n rfl <|
    qz_aload_n rfl <|
    qz_getI kg_12 fl_Md_458 rfl rfl <|
    qz_i2l <|
    qz_invvV [qz_j (h2 l0 7)] rfl (cn_Md_unsigned l0 (h2 l0 7) h2) mw_Md_unsigned vw_Md_unsigned ⟨_, rfl, rfl, by decide⟩ rfl rfl ln_Md_497 rfl fun _ h5 =>
    qz_iconst rfl <|
    qz_istore_n (by decide) fun x6 =>
    qz_fall rfl ca_Md_codeSection_22 <|
    qz_fgt [1, 1, 1, 0, 0] <| jb_Md_codeSection_22 G qz_NF l0 x3 x6 h5
def fn_Md_encode_74_b (k74 : Int → Int → qz_H → Option qz_R) (l0 : Int) (l1 : Int) (h : qz_H) : Option qz_R :=
  if h l0 60 ≤ l1 then
    qz_ck ((0 : Int) < l0) <|
    qz_bn (qz_up h l0 58 (h l0 60)) fun h1 =>
    some (h1 l0 58, h1)
  else
    qz_ck ((h l0 61 : Int) ≠ 0) <|
    qz_ck ((0 : Int) ≤ l1 ∧ l1 < h (h l0 61) (-1)) <|
    qz_ck ((h l0 59 : Int) ≠ 0) <|
    qz_ck (0 < h l0 59 ∧ (0 : Int) ≤ l1 ∧ l1 < h (h l0 59) (-1)) <|
    qz_bn (qz_up h (h l0 59) l1 (h (h l0 61) l1)) fun h2 =>
    qz_bn (qz_w (l1 + 1)) fun x3 =>
    k74 l0 x3 h2
def fn_Md_encode_74 : Nat → Int → Int → qz_H → Option qz_R
  | 0, _, _, _ => none
  | n + 1, l0, l1, h => fn_Md_encode_74_b (fn_Md_encode_74 n) l0 l1 h
def fn_Md_encode_72 (l0 : Int) (h : qz_H) : Option qz_R :=
  qz_bn (0 : Int) fun x1 =>
  fn_Md_encode_74 qz_NF l0 x1 h
set_option maxRecDepth 20000 in
def fn_Md_encode (l0 : Int) (h : qz_H) : Option qz_R :=
  qz_ck ((0 : Int) < l0) <|
  qz_bn (qz_up h l0 3 0) fun h1 =>
  qz_ck ((0 : Int) < l0) <|
  qz_bn (qz_up h1 l0 60 0) fun h2 =>
  qz_bc (fn_Md_add l0 0 h2) fun _ h4 =>
  qz_bc (fn_Md_add l0 97 h4) fun _ h6 =>
  qz_bc (fn_Md_add l0 115 h6) fun _ h8 =>
  qz_bc (fn_Md_add l0 109 h8) fun _ h10 =>
  qz_bc (fn_Md_add l0 1 h10) fun _ h12 =>
  qz_bc (fn_Md_add l0 0 h12) fun _ h14 =>
  qz_bc (fn_Md_add l0 0 h14) fun _ h16 =>
  qz_bc (fn_Md_add l0 0 h16) fun _ h18 =>
  if h18 l0 7 ≤ 0 then
    fn_Md_encode_72 l0 h18
  else
    qz_bc (fn_Md_signatureSection l0 h18) fun _ h20 =>
    qz_bc (fn_Md_functionSection l0 h20) fun _ h22 =>
    qz_bc (fn_Md_codeSection l0 h22) fun _ h24 =>
    fn_Md_encode_72 l0 h24
def bk_Md_encode_0 : List (Instr × Nat) := [(.aload_n 0, 1), (.iconst 0, 1), (.putfield 206, 3), (.aload_n 0, 1), (.iconst 0, 1), (.putfield 476, 3), (.aload_n 0, 1), (.iconst 0, 1), (.invokevirtual 481, 3), (.aload_n 0, 1), (.bipush 97, 2), (.invokevirtual 481, 3), (.aload_n 0, 1), (.bipush 115, 2), (.invokevirtual 481, 3), (.aload_n 0, 1), (.bipush 109, 2), (.invokevirtual 481, 3), (.aload_n 0, 1), (.iconst 1, 1), (.invokevirtual 481, 3), (.aload_n 0, 1), (.iconst 0, 1), (.invokevirtual 481, 3), (.aload_n 0, 1), (.iconst 0, 1), (.invokevirtual 481, 3), (.aload_n 0, 1), (.iconst 0, 1), (.invokevirtual 481, 3), (.aload_n 0, 1), (.getfield 458, 3), (.ifCond .le 15, 3), (.aload_n 0, 1), (.invokevirtual 518, 3), (.aload_n 0, 1), (.invokevirtual 521, 3), (.aload_n 0, 1), (.invokevirtual 524, 3)]
def bk_Md_encode_72 : List (Instr × Nat) := [(.iconst 0, 1), (.istore_n 1, 1)]
def bk_Md_encode_74 : List (Instr × Nat) := [(.iload_n 1, 1), (.aload_n 0, 1), (.getfield 476, 3), (.if_icmp .ge 21, 3), (.aload_n 0, 1), (.getfield 197, 3), (.iload_n 1, 1), (.aload_n 0, 1), (.getfield 200, 3), (.iload_n 1, 1), (.iaload, 1), (.iastore, 1), (.iinc 1 1, 3), (.goto (-23), 3)]
def bk_Md_encode_100 : List (Instr × Nat) := [(.aload_n 0, 1), (.aload_n 0, 1), (.getfield 476, 3), (.putfield 527, 3), (.aload_n 0, 1), (.getfield 527, 3), (.ireturn, 1)]
theorem ca_Md_encode_0 : qz_ca yd_Md_encode.2.1 0 bk_Md_encode_0 := qz_cab_ok _ _ (by decide +kernel)
theorem ca_Md_encode_72 : qz_ca yd_Md_encode.2.1 72 bk_Md_encode_72 := qz_cab_ok _ _ (by decide +kernel)
theorem ca_Md_encode_74 : qz_ca yd_Md_encode.2.1 74 bk_Md_encode_74 := qz_cab_ok _ _ (by decide +kernel)
theorem ca_Md_encode_100 : qz_ca yd_Md_encode.2.1 100 bk_Md_encode_100 := qz_cab_ok _ _ (by decide +kernel)
set_option maxRecDepth 20000 in
theorem jb_Md_encode_74_b (G : qz_G) (k74 : Int → Int → qz_H → Option qz_R) (jk74 : ∀ (l0 : Int) (l1 : Int) (h : qz_H), qz_J yd_Md_encode G bk_Md_encode_74 74 [qz_r true 12 l0, qz_i l1] [] h 0 0 (k74 l0 l1 h)) (l0 : Int) (l1 : Int) (h : qz_H) : qz_J yd_Md_encode G bk_Md_encode_74 74 [qz_r true 12 l0, qz_i l1] [] h 0 0 (fn_Md_encode_74_b k74 l0 l1 h) := by
  unfold fn_Md_encode_74_b bk_Md_encode_74; exact
    qz_iload_n rfl <|
    qz_aload_n rfl <|
    qz_getI kg_12 fl_Md_476 rfl rfl <|
    qz_icmp_ge rfl ca_Md_encode_100
      (qz_aload_n rfl <|
        qz_aload_n rfl <|
        qz_getI kg_12 fl_Md_476 rfl rfl <|
        qz_putI kw_12 fp_Md_527_Md_encode rfl rfl fun h1 =>
        qz_aload_n rfl <|
        qz_getI kg_12 fl_Md_527 rfl rfl <|
        qz_ireturn ⟨rfl, rfl⟩ rfl)
      (qz_aload_n rfl <|
        qz_getR (k1 := 40) kg_12 fl_Md_197 rfl rfl <|
        qz_iload_n rfl <|
        qz_aload_n rfl <|
        qz_getR (k1 := 40) kg_12 fl_Md_200 rfl rfl <|
        qz_iload_n rfl <|
        qz_nnd 1 rfl <|
        qz_iald (k0 := 40) rfl rfl rfl <|
        qz_nnd 2 rfl <|
        qz_iast rfl rfl rfl fun h2 =>
        qz_iinc rfl (by decide) fun x3 =>
        qz_goto rfl ca_Md_encode_74 <|
        qz_fgt [1, 1] <| jk74 l0 x3 h2)
theorem jb_Md_encode_74 (G : qz_G) : ∀ (n : Nat) (l0 l1 : Int) (h : qz_H), qz_J yd_Md_encode G bk_Md_encode_74 74 [qz_r true 12 l0, qz_i l1] [] h 0 0 (fn_Md_encode_74 n l0 l1 h)
  | 0, _, _, _ => qz_none
  | n + 1, l0, l1, h => jb_Md_encode_74_b G (fn_Md_encode_74 n) (jb_Md_encode_74 G n) l0 l1 h
set_option maxRecDepth 20000 in
theorem jb_Md_encode_72 (G : qz_G) (l0 : Int) (h : qz_H) : qz_J yd_Md_encode G bk_Md_encode_72 72 [qz_r true 12 l0, qz_u] [] h 0 0 (fn_Md_encode_72 l0 h) := by
  unfold fn_Md_encode_72 bk_Md_encode_72; exact
    qz_iconst rfl <|
    qz_istore_n (by decide) fun x1 =>
    qz_fall rfl ca_Md_encode_74 <|
    qz_fgt [1, 1] <| jb_Md_encode_74 G qz_NF l0 x1 h
set_option maxRecDepth 20000 in
theorem cn_Md_encode (l0 : Int) (h : qz_H) : qz_C yd_Md_encode [qz_r true 12 l0] h (fn_Md_encode l0 h) := by
  refine qz_con (is := bk_Md_encode_0) (ls := [qz_r true 12 l0, qz_u]) mw_Md_encode.2.2.2 ca_Md_encode_0 rfl rfl rfl fun G => ?_
  unfold fn_Md_encode bk_Md_encode_0; exact
    qz_aload_n rfl <|
    qz_iconst rfl <|
    qz_putI kw_12 fp_Md_206_Md_encode rfl rfl fun h1 =>
    qz_aload_n rfl <|
    qz_iconst rfl <|
    qz_putI kw_12 fp_Md_476_Md_encode rfl rfl fun h2 =>
    qz_aload_n rfl <|
    qz_iconst rfl <|
    qz_invvV [qz_i 0] rfl (cn_Md_add l0 0 h2) mw_Md_add vw_Md_add ⟨_, rfl, rfl, by decide⟩ rfl rfl ln_Md_481 rfl fun _ h4 =>
    qz_aload_n rfl <|
    qz_bipush rfl <|
    qz_invvV [qz_i 97] rfl (cn_Md_add l0 97 h4) mw_Md_add vw_Md_add ⟨_, rfl, rfl, by decide⟩ rfl rfl ln_Md_481 rfl fun _ h6 =>
    qz_aload_n rfl <|
    qz_bipush rfl <|
    qz_invvV [qz_i 115] rfl (cn_Md_add l0 115 h6) mw_Md_add vw_Md_add ⟨_, rfl, rfl, by decide⟩ rfl rfl ln_Md_481 rfl fun _ h8 =>
    qz_aload_n rfl <|
    qz_bipush rfl <|
    qz_invvV [qz_i 109] rfl (cn_Md_add l0 109 h8) mw_Md_add vw_Md_add ⟨_, rfl, rfl, by decide⟩ rfl rfl ln_Md_481 rfl fun _ h10 =>
    qz_aload_n rfl <|
    qz_iconst rfl <|
    qz_invvV [qz_i 1] rfl (cn_Md_add l0 1 h10) mw_Md_add vw_Md_add ⟨_, rfl, rfl, by decide⟩ rfl rfl ln_Md_481 rfl fun _ h12 =>
    qz_aload_n rfl <|
    qz_iconst rfl <|
    qz_invvV [qz_i 0] rfl (cn_Md_add l0 0 h12) mw_Md_add vw_Md_add ⟨_, rfl, rfl, by decide⟩ rfl rfl ln_Md_481 rfl fun _ h14 =>
    qz_aload_n rfl <|
    qz_iconst rfl <|
    qz_invvV [qz_i 0] rfl (cn_Md_add l0 0 h14) mw_Md_add vw_Md_add ⟨_, rfl, rfl, by decide⟩ rfl rfl ln_Md_481 rfl fun _ h16 =>
    qz_aload_n rfl <|
    qz_iconst rfl <|
    qz_invvV [qz_i 0] rfl (cn_Md_add l0 0 h16) mw_Md_add vw_Md_add ⟨_, rfl, rfl, by decide⟩ rfl rfl ln_Md_481 rfl fun _ h18 =>
    qz_aload_n rfl <|
    qz_getI kg_12 fl_Md_458 rfl rfl <|
    qz_if_le rfl ca_Md_encode_72
      (qz_fgt [1, 0] <| jb_Md_encode_72 G l0 h18)
      (qz_aload_n rfl <|
        qz_invvV [] rfl (cn_Md_signatureSection l0 h18) mw_Md_signatureSection vw_Md_signatureSection ⟨_, rfl, rfl, by decide⟩ rfl rfl ln_Md_518 rfl fun _ h20 =>
        qz_aload_n rfl <|
        qz_invvV [] rfl (cn_Md_functionSection l0 h20) mw_Md_functionSection vw_Md_functionSection ⟨_, rfl, rfl, by decide⟩ rfl rfl ln_Md_521 rfl fun _ h22 =>
        qz_aload_n rfl <|
        qz_invvV [] rfl (cn_Md_codeSection l0 h22) mw_Md_codeSection vw_Md_codeSection ⟨_, rfl, rfl, by decide⟩ rfl rfl ln_Md_524 rfl fun _ h24 =>
        qz_fall rfl ca_Md_encode_72 <|
        qz_fgt [1, 0] <| jb_Md_encode_72 G l0 h24)
def fn_Md_octet_39 (s0 : Int) (h : qz_H) : Option qz_R :=
  some (s0, h)
def fn_Md_octet_38 (h : qz_H) : Option qz_R :=
  fn_Md_octet_39 (-1) h
set_option maxRecDepth 20000 in
def fn_Md_octet (l0 : Int) (l1 : Int) (h : qz_H) : Option qz_R :=
  qz_ck ((0 : Int) < l0) <|
  qz_bn (qz_up h l0 3 0) fun h1 =>
  if ¬ l1 = (-1) then
    if l1 < 0 then
      fn_Md_octet_38 h1
    else
      if h1 l0 58 ≤ l1 then
        fn_Md_octet_38 h1
      else
        qz_ck ((h1 l0 59 : Int) ≠ 0) <|
        qz_ck ((0 : Int) ≤ l1 ∧ l1 < h1 (h1 l0 59) (-1)) <|
        fn_Md_octet_39 (h1 (h1 l0 59) l1) h1
  else
    fn_Md_octet_39 (h1 l0 58) h1
def bk_Md_octet_0 : List (Instr × Nat) := [(.aload_n 0, 1), (.iconst 0, 1), (.putfield 206, 3), (.iload_n 1, 1), (.iconst (-1), 1), (.if_icmp .ne 10, 3), (.aload_n 0, 1), (.getfield 527, 3), (.goto 25, 3)]
def bk_Md_octet_17 : List (Instr × Nat) := [(.iload_n 1, 1), (.ifCond .lt 20, 3), (.iload_n 1, 1), (.aload_n 0, 1), (.getfield 527, 3), (.if_icmp .ge 12, 3), (.aload_n 0, 1), (.getfield 197, 3), (.iload_n 1, 1), (.iaload, 1), (.goto 4, 3)]
def bk_Md_octet_38 : List (Instr × Nat) := [(.iconst (-1), 1)]
def bk_Md_octet_39 : List (Instr × Nat) := [(.ireturn, 1)]
theorem ca_Md_octet_0 : qz_ca yd_Md_octet.2.1 0 bk_Md_octet_0 := qz_cab_ok _ _ (by decide +kernel)
theorem ca_Md_octet_17 : qz_ca yd_Md_octet.2.1 17 bk_Md_octet_17 := qz_cab_ok _ _ (by decide +kernel)
theorem ca_Md_octet_38 : qz_ca yd_Md_octet.2.1 38 bk_Md_octet_38 := qz_cab_ok _ _ (by decide +kernel)
theorem ca_Md_octet_39 : qz_ca yd_Md_octet.2.1 39 bk_Md_octet_39 := qz_cab_ok _ _ (by decide +kernel)
set_option maxRecDepth 20000 in
theorem jb_Md_octet_39 (G : qz_G) (s0 : Int) (h : qz_H) : qz_J yd_Md_octet G bk_Md_octet_39 39 [qz_u, qz_u] [qz_i s0] h 0 0 (fn_Md_octet_39 s0 h) := by
  unfold fn_Md_octet_39 bk_Md_octet_39; exact
    qz_ireturn ⟨rfl, rfl⟩ rfl
set_option maxRecDepth 20000 in
theorem jb_Md_octet_38 (G : qz_G) (h : qz_H) : qz_J yd_Md_octet G bk_Md_octet_38 38 [qz_u, qz_u] [] h 0 0 (fn_Md_octet_38 h) := by
  unfold fn_Md_octet_38 bk_Md_octet_38; exact
    qz_iconst rfl <|
    qz_fall rfl ca_Md_octet_39 <|
    qz_fgt [0, 0] <| jb_Md_octet_39 G (-1) h
set_option maxRecDepth 20000 in
theorem cn_Md_octet (l0 : Int) (l1 : Int) (h : qz_H) : qz_C yd_Md_octet [qz_r true 12 l0, qz_i l1] h (fn_Md_octet l0 l1 h) := by
  refine qz_con (is := bk_Md_octet_0) (ls := [qz_r true 12 l0, qz_i l1]) mw_Md_octet.2.2.2 ca_Md_octet_0 rfl rfl rfl fun G => ?_
  unfold fn_Md_octet bk_Md_octet_0; exact
    qz_aload_n rfl <|
    qz_iconst rfl <|
    qz_putI kw_12 fp_Md_206_Md_octet rfl rfl fun h1 =>
    qz_iload_n rfl <|
    qz_iconst rfl <|
    qz_icmp_ne rfl ca_Md_octet_17
      (qz_iload_n rfl <|
        qz_if_lt rfl ca_Md_octet_38
          (qz_fgt [0, 0] <| jb_Md_octet_38 G h1)
          (qz_iload_n rfl <|
            qz_aload_n rfl <|
            qz_getI kg_12 fl_Md_527 rfl rfl <|
            qz_icmp_ge rfl ca_Md_octet_38
              (qz_fgt [0, 0] <| jb_Md_octet_38 G h1)
              (qz_aload_n rfl <|
                qz_getR (k1 := 40) kg_12 fl_Md_197 rfl rfl <|
                qz_iload_n rfl <|
                qz_nnd 1 rfl <|
                qz_iald (k0 := 40) rfl rfl rfl <|
                qz_goto rfl ca_Md_octet_39 <|
                qz_fgt [0, 0] <| jb_Md_octet_39 G (h1 (h1 l0 59) l1) h1)))
      (qz_aload_n rfl <|
        qz_getI kg_12 fl_Md_527 rfl rfl <|
        qz_goto rfl ca_Md_octet_39 <|
        qz_fgt [0, 0] <| jb_Md_octet_39 G (h1 l0 58) h1)
def fn_Md_out_21 (l0 : Int) (h : qz_H) : Option qz_R :=
  qz_ck ((0 : Int) < l0) <|
  qz_bn (qz_up h l0 62 (qz_w ((h l0 62) + 1))) fun h1 =>
  some (0, h1)
set_option maxRecDepth 20000 in
def fn_Md_out (l0 : Int) (l1 : Int) (h : qz_H) : Option qz_R :=
  if 320 ≤ h l0 62 then
    fn_Md_out_21 l0 h
  else
    qz_ck ((h l0 63 : Int) ≠ 0) <|
    qz_ck (0 < h l0 63 ∧ (0 : Int) ≤ h l0 62 ∧ h l0 62 < h (h l0 63) (-1)) <|
    qz_bn (qz_up h (h l0 63) (h l0 62) (qz_nc (qz_i2c l1))) fun h1 =>
    fn_Md_out_21 l0 h1
def bk_Md_out_0 : List (Instr × Nat) := [(.aload_n 0, 1), (.getfield 530, 3), (.sipush 320, 3), (.if_icmp .ge 14, 3), (.aload_n 0, 1), (.getfield 203, 3), (.aload_n 0, 1), (.getfield 530, 3), (.iload_n 1, 1), (.i2c, 1), (.castore, 1)]
def bk_Md_out_21 : List (Instr × Nat) := [(.aload_n 0, 1), (.dup, 1), (.getfield 530, 3), (.iconst 1, 1), (.iadd, 1), (.putfield 530, 3), (.return_, 1)]
theorem ca_Md_out_0 : qz_ca yd_Md_out.2.1 0 bk_Md_out_0 := qz_cab_ok _ _ (by decide +kernel)
theorem ca_Md_out_21 : qz_ca yd_Md_out.2.1 21 bk_Md_out_21 := qz_cab_ok _ _ (by decide +kernel)
set_option maxRecDepth 20000 in
theorem jb_Md_out_21 (G : qz_G) (l0 : Int) (h : qz_H) : qz_J yd_Md_out G bk_Md_out_21 21 [qz_r true 12 l0, qz_u] [] h 0 0 (fn_Md_out_21 l0 h) := by
  unfold fn_Md_out_21 bk_Md_out_21; exact
    qz_aload_n rfl <|
    qz_dup rfl <|
    qz_getI kg_12 fl_Md_530 rfl rfl <|
    qz_iconst rfl <|
    qz_iadd <|
    qz_putI kw_12 fp_Md_530_Md_out rfl rfl fun h1 =>
    qz_return ⟨rfl, rfl⟩ rfl
set_option maxRecDepth 20000 in
theorem cn_Md_out (l0 : Int) (l1 : Int) (h : qz_H) : qz_C yd_Md_out [qz_r true 12 l0, qz_i l1] h (fn_Md_out l0 l1 h) := by
  refine qz_con (is := bk_Md_out_0) (ls := [qz_r true 12 l0, qz_i l1]) mw_Md_out.2.2.2 ca_Md_out_0 rfl rfl rfl fun G => ?_
  unfold fn_Md_out bk_Md_out_0; exact
    qz_aload_n rfl <|
    qz_getI kg_12 fl_Md_530 rfl rfl <|
    qz_sipush rfl <|
    qz_icmp_ge rfl ca_Md_out_21
      (qz_fgt [1, 0] <| jb_Md_out_21 G l0 h)
      (qz_aload_n rfl <|
        qz_getR (k1 := 42) kg_12 fl_Md_203 rfl rfl <|
        qz_aload_n rfl <|
        qz_getI kg_12 fl_Md_530 rfl rfl <|
        qz_iload_n rfl <|
        qz_ins_i2c <|
        qz_nnd 2 rfl <|
        qz_cast rfl rfl rfl fun h1 =>
        qz_fall rfl ca_Md_out_21 <|
        qz_fgt [1, 0] <| jb_Md_out_21 G l0 h1)
