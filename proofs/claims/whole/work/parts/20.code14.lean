def fn_Md_outLong_28 (k3 : Int → Int → Int → qz_H → Option qz_R) (l0 : Int) (l1 : Int) (l3 : Int) (h : qz_H) : Option qz_R :=
  qz_bn (qz_w (l3 + (-8))) fun x1 =>
  k3 l0 l1 x1 h
def fn_Md_outLong_3_b (k3 : Int → Int → Int → qz_H → Option qz_R) (l0 : Int) (l1 : Int) (l3 : Int) (h : qz_H) : Option qz_R :=
  if l3 < 0 then
    some (0, h)
  else
    qz_bn (qz_and (qz_w (qz_ushJ l1 l3)) 255 : Int) fun x1 =>
    if x1 = 0 then
      fn_Md_outLong_28 k3 l0 l1 l3 h
    else
      qz_bc (fn_Md_out l0 x1 h) fun _ h3 =>
      fn_Md_outLong_28 k3 l0 l1 l3 h3
def fn_Md_outLong_3 : Nat → Int → Int → Int → qz_H → Option qz_R
  | 0, _, _, _, _ => none
  | n + 1, l0, l1, l3, h => fn_Md_outLong_3_b (fn_Md_outLong_3 n) l0 l1 l3 h
set_option maxRecDepth 20000 in
def fn_Md_outLong (l0 : Int) (l1 : Int) (h : qz_H) : Option qz_R :=
  qz_bn (56 : Int) fun x1 =>
  fn_Md_outLong_3 qz_NF l0 l1 x1 h
def bk_Md_outLong_0 : List (Instr × Nat) := [(.bipush 56, 2), (.istore_n 3, 1)]
def bk_Md_outLong_3 : List (Instr × Nat) := [(.iload_n 3, 1), (.ifCond .lt 30, 3), (.lload_n 1, 1), (.iload_n 3, 1), (.lushr, 1), (.l2i, 1), (.sipush 255, 3), (.iand, 1), (.istore 4, 2), (.iload 4, 2), (.ifCond .eq 9, 3), (.aload_n 0, 1), (.iload 4, 2), (.invokevirtual 533, 3)]
def bk_Md_outLong_34 : List (Instr × Nat) := [(.return_, 1)]
def bk_Md_outLong_28 : List (Instr × Nat) := [(.iinc 3 (-8), 3), (.goto (-28), 3)]
theorem ca_Md_outLong_0 : qz_ca yd_Md_outLong.2.1 0 bk_Md_outLong_0 := qz_cab_ok _ _ (by decide +kernel)
theorem ca_Md_outLong_3 : qz_ca yd_Md_outLong.2.1 3 bk_Md_outLong_3 := qz_cab_ok _ _ (by decide +kernel)
theorem ca_Md_outLong_34 : qz_ca yd_Md_outLong.2.1 34 bk_Md_outLong_34 := qz_cab_ok _ _ (by decide +kernel)
theorem ca_Md_outLong_28 : qz_ca yd_Md_outLong.2.1 28 bk_Md_outLong_28 := qz_cab_ok _ _ (by decide +kernel)
set_option maxRecDepth 20000 in
theorem jb_Md_outLong_28 (G : qz_G) (k3 : Int → Int → Int → qz_H → Option qz_R) (jk3 : ∀ (l0 : Int) (l1 : Int) (l3 : Int) (h : qz_H), qz_J yd_Md_outLong G bk_Md_outLong_3 3 [qz_r true 12 l0, qz_j l1, qz_u, qz_i l3, qz_u] [] h 0 0 (k3 l0 l1 l3 h)) (l0 : Int) (l1 : Int) (l3 : Int) (h : qz_H) : qz_J yd_Md_outLong G bk_Md_outLong_28 28 [qz_r true 12 l0, qz_j l1, qz_u, qz_i l3, qz_u] [] h 0 0 (fn_Md_outLong_28 k3 l0 l1 l3 h) := by
  unfold fn_Md_outLong_28 bk_Md_outLong_28; exact
    qz_iinc rfl (by decide) fun x1 =>
    qz_goto rfl ca_Md_outLong_3 <|
    qz_fgt [1, 1, 0, 1, 0] <| jk3 l0 l1 x1 h
set_option maxRecDepth 20000 in
theorem jb_Md_outLong_3_b (G : qz_G) (k3 : Int → Int → Int → qz_H → Option qz_R) (jk3 : ∀ (l0 : Int) (l1 : Int) (l3 : Int) (h : qz_H), qz_J yd_Md_outLong G bk_Md_outLong_3 3 [qz_r true 12 l0, qz_j l1, qz_u, qz_i l3, qz_u] [] h 0 0 (k3 l0 l1 l3 h)) (l0 : Int) (l1 : Int) (l3 : Int) (h : qz_H) : qz_J yd_Md_outLong G bk_Md_outLong_3 3 [qz_r true 12 l0, qz_j l1, qz_u, qz_i l3, qz_u] [] h 0 0 (fn_Md_outLong_3_b k3 l0 l1 l3 h) := by
  unfold fn_Md_outLong_3_b bk_Md_outLong_3; exact
    qz_iload_n rfl <|
    qz_if_lt rfl ca_Md_outLong_34
      (qz_return ⟨rfl, rfl⟩ rfl)
      (qz_lload_n rfl <|
        qz_iload_n rfl <|
        qz_lushr <|
        qz_l2i <|
        qz_sipush rfl <|
        qz_iand <|
        qz_istore (by decide) fun x1 =>
        qz_iload rfl <|
        qz_if_eq rfl ca_Md_outLong_28
          (qz_fgt [1, 1, 0, 1, 0] <| jb_Md_outLong_28 G k3 jk3 l0 l1 l3 h)
          (qz_aload_n rfl <|
            qz_iload rfl <|
            qz_invvV [qz_i x1] rfl (cn_Md_out l0 x1 h) mw_Md_out vw_Md_out ⟨_, rfl, rfl, by decide⟩ rfl rfl ln_Md_533 rfl fun _ h3 =>
            qz_fall rfl ca_Md_outLong_28 <|
            qz_fgt [1, 1, 0, 1, 0] <| jb_Md_outLong_28 G k3 jk3 l0 l1 l3 h3))
theorem jb_Md_outLong_3 (G : qz_G) : ∀ (n : Nat) (l0 l1 l3 : Int) (h : qz_H), qz_J yd_Md_outLong G bk_Md_outLong_3 3 [qz_r true 12 l0, qz_j l1, qz_u, qz_i l3, qz_u] [] h 0 0 (fn_Md_outLong_3 n l0 l1 l3 h)
  | 0, _, _, _, _ => qz_none
  | n + 1, l0, l1, l3, h => jb_Md_outLong_3_b G (fn_Md_outLong_3 n) (jb_Md_outLong_3 G n) l0 l1 l3 h
set_option maxRecDepth 20000 in
theorem cn_Md_outLong (l0 : Int) (l1 : Int) (h : qz_H) : qz_C yd_Md_outLong [qz_r true 12 l0, qz_j l1] h (fn_Md_outLong l0 l1 h) := by
  refine qz_con (is := bk_Md_outLong_0) (ls := [qz_r true 12 l0, qz_j l1, qz_u, qz_u, qz_u]) mw_Md_outLong.2.2.2 ca_Md_outLong_0 rfl rfl rfl fun G => ?_
  unfold fn_Md_outLong bk_Md_outLong_0; exact
    qz_bipush rfl <|
    qz_istore_n (by decide) fun x1 =>
    qz_fall rfl ca_Md_outLong_3 <|
    qz_fgt [1, 1, 0, 1, 0] <| jb_Md_outLong_3 G qz_NF l0 l1 x1 h
def fn_Md_outNumber_39 (k17 : Int → Int → Int → qz_H → Option qz_R) (l0 : Int) (l3 : Int) (l5 : Int) (h : qz_H) : Option qz_R :=
  qz_bn (qz_x (l3 * 10) : Int) fun x1 =>
  k17 l0 x1 l5 h
def fn_Md_outNumber_82 (k48 : Int → Int → Int → qz_H → Option qz_R) (l0 : Int) (l3 : Int) (l5 : Int) (s0 : Int) (s1 : Int) (s2 : Int) (h : qz_H) : Option qz_R :=
  qz_bc (fn_Md_out s0 (qz_w (s1 + (qz_w s2))) h) fun _ h2 =>
  qz_ck ((10 : Int) ≠ 0) <|
  qz_bn (qz_divJ l3 10 : Int) fun x3 =>
  k48 l0 x3 l5 h2
def fn_Md_outNumber_48_b (k48 : Int → Int → Int → qz_H → Option qz_R) (l0 : Int) (l3 : Int) (l5 : Int) (h : qz_H) : Option qz_R :=
  if qz_cmp l3 0 ≤ 0 then
    some (0, h)
  else
    qz_ck ((l3 : Int) ≠ 0) <|
    qz_ck ((10 : Int) ≠ 0) <|
    qz_bn (qz_remJ (qz_divJ l5 l3) 10 : Int) fun x1 =>
    if 0 ≤ qz_cmp x1 0 then
      fn_Md_outNumber_82 k48 l0 l3 l5 l0 48 x1 h
    else
      fn_Md_outNumber_82 k48 l0 l3 l5 l0 48 (qz_x (-x1)) h
def fn_Md_outNumber_48 : Nat → Int → Int → Int → qz_H → Option qz_R
  | 0, _, _, _, _ => none
  | n + 1, l0, l3, l5, h => fn_Md_outNumber_48_b (fn_Md_outNumber_48 n) l0 l3 l5 h
def fn_Md_outNumber_17_b (k17 : Int → Int → Int → qz_H → Option qz_R) (l0 : Int) (l3 : Int) (l5 : Int) (h : qz_H) : Option qz_R :=
  qz_ck ((l3 : Int) ≠ 0) <|
  if 0 < qz_cmp (qz_divJ l5 l3) 9 then
    fn_Md_outNumber_39 k17 l0 l3 l5 h
  else
    qz_ck ((l3 : Int) ≠ 0) <|
    if 0 ≤ qz_cmp (qz_divJ l5 l3) (-9) then
      fn_Md_outNumber_48 qz_NF l0 l3 l5 h
    else
      fn_Md_outNumber_39 k17 l0 l3 l5 h
def fn_Md_outNumber_17 : Nat → Int → Int → Int → qz_H → Option qz_R
  | 0, _, _, _, _ => none
  | n + 1, l0, l3, l5, h => fn_Md_outNumber_17_b (fn_Md_outNumber_17 n) l0 l3 l5 h
def fn_Md_outNumber_12 (l0 : Int) (l1 : Int) (h : qz_H) : Option qz_R :=
  qz_bn (1 : Int) fun x1 =>
  qz_bn (l1 : Int) fun x2 =>
  fn_Md_outNumber_17 qz_NF l0 x1 x2 h
set_option maxRecDepth 20000 in
def fn_Md_outNumber (l0 : Int) (l1 : Int) (h : qz_H) : Option qz_R :=
  if 0 ≤ qz_cmp l1 0 then
    fn_Md_outNumber_12 l0 l1 h
  else
    qz_bc (fn_Md_out l0 45 h) fun _ h2 =>
    fn_Md_outNumber_12 l0 l1 h2
def bk_Md_outNumber_0 : List (Instr × Nat) := [(.lload_n 1, 1), (.lconst 0, 1), (.lcmp, 1), (.ifCond .ge 9, 3), (.aload_n 0, 1), (.bipush 45, 2), (.invokevirtual 533, 3)]
def bk_Md_outNumber_12 : List (Instr × Nat) := [(.lconst 1, 1), (.lstore_n 3, 1), (.lload_n 1, 1), (.lstore 5, 2)]
def bk_Md_outNumber_17 : List (Instr × Nat) := [(.lload 5, 2), (.lload_n 3, 1), (.ldiv, 1), (.ldc2_w 536, 3), (.lcmp, 1), (.ifCond .gt 14, 3), (.lload 5, 2), (.lload_n 3, 1), (.ldiv, 1), (.ldc2_w 538, 3), (.lcmp, 1), (.ifCond .ge 12, 3)]
def bk_Md_outNumber_39 : List (Instr × Nat) := [(.lload_n 3, 1), (.ldc2_w 268, 3), (.lmul, 1), (.lstore_n 3, 1), (.goto (-28), 3)]
def bk_Md_outNumber_48 : List (Instr × Nat) := [(.lload_n 3, 1), (.lconst 0, 1), (.lcmp, 1), (.ifCond .le 45, 3), (.lload 5, 2), (.lload_n 3, 1), (.ldiv, 1), (.ldc2_w 268, 3), (.lrem, 1), (.lstore 7, 2), (.aload_n 0, 1), (.bipush 48, 2), (.lload 7, 2), (.lconst 0, 1), (.lcmp, 1), (.ifCond .ge 9, 3), (.lload 7, 2), (.lneg, 1), (.goto 5, 3)]
def bk_Md_outNumber_96 : List (Instr × Nat) := [(.return_, 1)]
def bk_Md_outNumber_80 : List (Instr × Nat) := [(.lload 7, 2)]
def bk_Md_outNumber_82 : List (Instr × Nat) := [(.l2i, 1), (.iadd, 1), (.invokevirtual 533, 3), (.lload_n 3, 1), (.ldc2_w 268, 3), (.ldiv, 1), (.lstore_n 3, 1), (.goto (-45), 3)]
theorem ca_Md_outNumber_0 : qz_ca yd_Md_outNumber.2.1 0 bk_Md_outNumber_0 := qz_cab_ok _ _ (by decide +kernel)
theorem ca_Md_outNumber_12 : qz_ca yd_Md_outNumber.2.1 12 bk_Md_outNumber_12 := qz_cab_ok _ _ (by decide +kernel)
theorem ca_Md_outNumber_17 : qz_ca yd_Md_outNumber.2.1 17 bk_Md_outNumber_17 := qz_cab_ok _ _ (by decide +kernel)
theorem ca_Md_outNumber_39 : qz_ca yd_Md_outNumber.2.1 39 bk_Md_outNumber_39 := qz_cab_ok _ _ (by decide +kernel)
theorem ca_Md_outNumber_48 : qz_ca yd_Md_outNumber.2.1 48 bk_Md_outNumber_48 := qz_cab_ok _ _ (by decide +kernel)
theorem ca_Md_outNumber_96 : qz_ca yd_Md_outNumber.2.1 96 bk_Md_outNumber_96 := qz_cab_ok _ _ (by decide +kernel)
theorem ca_Md_outNumber_80 : qz_ca yd_Md_outNumber.2.1 80 bk_Md_outNumber_80 := qz_cab_ok _ _ (by decide +kernel)
theorem ca_Md_outNumber_82 : qz_ca yd_Md_outNumber.2.1 82 bk_Md_outNumber_82 := qz_cab_ok _ _ (by decide +kernel)
set_option maxRecDepth 20000 in
theorem jb_Md_outNumber_39 (G : qz_G) (k17 : Int → Int → Int → qz_H → Option qz_R) (jk17 : ∀ (l0 : Int) (l3 : Int) (l5 : Int) (h : qz_H), qz_J yd_Md_outNumber G bk_Md_outNumber_17 17 [qz_r true 12 l0, qz_u, qz_u, qz_j l3, qz_u, qz_j l5, qz_u, qz_u, qz_u] [] h 0 0 (k17 l0 l3 l5 h)) (l0 : Int) (l3 : Int) (l5 : Int) (h : qz_H) : qz_J yd_Md_outNumber G bk_Md_outNumber_39 39 [qz_r true 12 l0, qz_u, qz_u, qz_j l3, qz_u, qz_j l5, qz_u, qz_u, qz_u] [] h 0 0 (fn_Md_outNumber_39 k17 l0 l3 l5 h) := by
  unfold fn_Md_outNumber_39 bk_Md_outNumber_39; exact
    qz_lload_n rfl <|
    qz_ldc2 wc_Md_268 rfl <|
    qz_lmul <|
    qz_lstore_n (by decide) fun x1 =>
    qz_goto rfl ca_Md_outNumber_17 <|
    qz_fgt [1, 0, 0, 1, 0, 1, 0, 0, 0] <| jk17 l0 x1 l5 h
set_option maxRecDepth 20000 in
theorem jb_Md_outNumber_82 (G : qz_G) (k48 : Int → Int → Int → qz_H → Option qz_R) (jk48 : ∀ (l0 : Int) (l3 : Int) (l5 : Int) (h : qz_H), qz_J yd_Md_outNumber G bk_Md_outNumber_48 48 [qz_r true 12 l0, qz_u, qz_u, qz_j l3, qz_u, qz_j l5, qz_u, qz_u, qz_u] [] h 0 0 (k48 l0 l3 l5 h)) (l0 : Int) (l3 : Int) (l5 : Int) (s0 : Int) (s1 : Int) (s2 : Int) (h : qz_H) : qz_J yd_Md_outNumber G bk_Md_outNumber_82 82 [qz_r true 12 l0, qz_u, qz_u, qz_j l3, qz_u, qz_j l5, qz_u, qz_u, qz_u] [qz_j s2, qz_i s1, qz_r true 12 s0] h 0 0 (fn_Md_outNumber_82 k48 l0 l3 l5 s0 s1 s2 h) := by
  unfold fn_Md_outNumber_82 bk_Md_outNumber_82; exact
    qz_l2i <|
    qz_iadd <|
    qz_invvV [qz_i (qz_w (s1 + (qz_w s2)))] rfl (cn_Md_out s0 (qz_w (s1 + (qz_w s2))) h) mw_Md_out vw_Md_out ⟨_, rfl, rfl, by decide⟩ rfl rfl ln_Md_533 rfl fun _ h2 =>
    qz_lload_n rfl <|
    qz_ldc2 wc_Md_268 rfl <|
    qz_ldiv <|
    qz_lstore_n (by decide) fun x3 =>
    qz_goto rfl ca_Md_outNumber_48 <|
    qz_fgt [1, 0, 0, 1, 0, 1, 0, 0, 0] <| jk48 l0 x3 l5 h2
set_option maxRecDepth 20000 in
theorem jb_Md_outNumber_48_b (G : qz_G) (k48 : Int → Int → Int → qz_H → Option qz_R) (jk48 : ∀ (l0 : Int) (l3 : Int) (l5 : Int) (h : qz_H), qz_J yd_Md_outNumber G bk_Md_outNumber_48 48 [qz_r true 12 l0, qz_u, qz_u, qz_j l3, qz_u, qz_j l5, qz_u, qz_u, qz_u] [] h 0 0 (k48 l0 l3 l5 h)) (l0 : Int) (l3 : Int) (l5 : Int) (h : qz_H) : qz_J yd_Md_outNumber G bk_Md_outNumber_48 48 [qz_r true 12 l0, qz_u, qz_u, qz_j l3, qz_u, qz_j l5, qz_u, qz_u, qz_u] [] h 0 0 (fn_Md_outNumber_48_b k48 l0 l3 l5 h) := by
  unfold fn_Md_outNumber_48_b bk_Md_outNumber_48; exact
    qz_lload_n rfl <|
    qz_lconst rfl <|
    qz_lcmp <|
    qz_if_le rfl ca_Md_outNumber_96
      (qz_return ⟨rfl, rfl⟩ rfl)
      (qz_lload rfl <|
        qz_lload_n rfl <|
        qz_ldiv <|
        qz_ldc2 wc_Md_268 rfl <|
        qz_lrem <|
        qz_lstore (by decide) fun x1 =>
        qz_aload_n rfl <|
        qz_bipush rfl <|
        qz_lload rfl <|
        qz_lconst rfl <|
        qz_lcmp <|
        qz_if_ge rfl ca_Md_outNumber_80
          (qz_lload rfl <|
            qz_fall rfl ca_Md_outNumber_82 <|
            qz_fgt [1, 0, 0, 1, 0, 1, 0, 0, 0] <| jb_Md_outNumber_82 G k48 jk48 l0 l3 l5 l0 48 x1 h)
          (qz_lload rfl <|
            qz_lneg <|
            qz_goto rfl ca_Md_outNumber_82 <|
            qz_fgt [1, 0, 0, 1, 0, 1, 0, 0, 0] <| jb_Md_outNumber_82 G k48 jk48 l0 l3 l5 l0 48 (qz_x (-x1)) h))
theorem jb_Md_outNumber_48 (G : qz_G) : ∀ (n : Nat) (l0 l3 l5 : Int) (h : qz_H), qz_J yd_Md_outNumber G bk_Md_outNumber_48 48 [qz_r true 12 l0, qz_u, qz_u, qz_j l3, qz_u, qz_j l5, qz_u, qz_u, qz_u] [] h 0 0 (fn_Md_outNumber_48 n l0 l3 l5 h)
  | 0, _, _, _, _ => qz_none
  | n + 1, l0, l3, l5, h => jb_Md_outNumber_48_b G (fn_Md_outNumber_48 n) (jb_Md_outNumber_48 G n) l0 l3 l5 h
set_option maxRecDepth 20000 in
theorem jb_Md_outNumber_17_b (G : qz_G) (k17 : Int → Int → Int → qz_H → Option qz_R) (jk17 : ∀ (l0 : Int) (l3 : Int) (l5 : Int) (h : qz_H), qz_J yd_Md_outNumber G bk_Md_outNumber_17 17 [qz_r true 12 l0, qz_u, qz_u, qz_j l3, qz_u, qz_j l5, qz_u, qz_u, qz_u] [] h 0 0 (k17 l0 l3 l5 h)) (l0 : Int) (l3 : Int) (l5 : Int) (h : qz_H) : qz_J yd_Md_outNumber G bk_Md_outNumber_17 17 [qz_r true 12 l0, qz_u, qz_u, qz_j l3, qz_u, qz_j l5, qz_u, qz_u, qz_u] [] h 0 0 (fn_Md_outNumber_17_b k17 l0 l3 l5 h) := by
  unfold fn_Md_outNumber_17_b bk_Md_outNumber_17; exact
    qz_lload rfl <|
    qz_lload_n rfl <|
    qz_ldiv <|
    qz_ldc2 wc_Md_536 rfl <|
    qz_lcmp <|
    qz_if_gt rfl ca_Md_outNumber_39
      (qz_fgt [1, 0, 0, 1, 0, 1, 0, 0, 0] <| jb_Md_outNumber_39 G k17 jk17 l0 l3 l5 h)
      (qz_lload rfl <|
        qz_lload_n rfl <|
        qz_ldiv <|
        qz_ldc2 wc_Md_538 rfl <|
        qz_lcmp <|
        qz_if_ge rfl ca_Md_outNumber_48
          (qz_fgt [1, 0, 0, 1, 0, 1, 0, 0, 0] <| jb_Md_outNumber_48 G qz_NF l0 l3 l5 h)
          (qz_fall rfl ca_Md_outNumber_39 <|
            qz_fgt [1, 0, 0, 1, 0, 1, 0, 0, 0] <| jb_Md_outNumber_39 G k17 jk17 l0 l3 l5 h))
theorem jb_Md_outNumber_17 (G : qz_G) : ∀ (n : Nat) (l0 l3 l5 : Int) (h : qz_H), qz_J yd_Md_outNumber G bk_Md_outNumber_17 17 [qz_r true 12 l0, qz_u, qz_u, qz_j l3, qz_u, qz_j l5, qz_u, qz_u, qz_u] [] h 0 0 (fn_Md_outNumber_17 n l0 l3 l5 h)
  | 0, _, _, _, _ => qz_none
  | n + 1, l0, l3, l5, h => jb_Md_outNumber_17_b G (fn_Md_outNumber_17 n) (jb_Md_outNumber_17 G n) l0 l3 l5 h
set_option maxRecDepth 20000 in
theorem jb_Md_outNumber_12 (G : qz_G) (l0 : Int) (l1 : Int) (h : qz_H) : qz_J yd_Md_outNumber G bk_Md_outNumber_12 12 [qz_r true 12 l0, qz_j l1, qz_u, qz_u, qz_u, qz_u, qz_u, qz_u, qz_u] [] h 0 0 (fn_Md_outNumber_12 l0 l1 h) := by
  unfold fn_Md_outNumber_12 bk_Md_outNumber_12; exact
    qz_lconst rfl <|
    qz_lstore_n (by decide) fun x1 =>
    qz_lload_n rfl <|
    qz_lstore (by decide) fun x2 =>
    qz_fall rfl ca_Md_outNumber_17 <|
    qz_fgt [1, 0, 0, 1, 0, 1, 0, 0, 0] <| jb_Md_outNumber_17 G qz_NF l0 x1 x2 h
set_option maxRecDepth 20000 in
theorem cn_Md_outNumber (l0 : Int) (l1 : Int) (h : qz_H) : qz_C yd_Md_outNumber [qz_r true 12 l0, qz_j l1] h (fn_Md_outNumber l0 l1 h) := by
  refine qz_con (is := bk_Md_outNumber_0) (ls := [qz_r true 12 l0, qz_j l1, qz_u, qz_u, qz_u, qz_u, qz_u, qz_u, qz_u]) mw_Md_outNumber.2.2.2 ca_Md_outNumber_0 rfl rfl rfl fun G => ?_
  unfold fn_Md_outNumber bk_Md_outNumber_0; exact
    qz_lload_n rfl <|
    qz_lconst rfl <|
    qz_lcmp <|
    qz_if_ge rfl ca_Md_outNumber_12
      (qz_fgt [1, 1, 0, 0, 0, 0, 0, 0, 0] <| jb_Md_outNumber_12 G l0 l1 h)
      (qz_aload_n rfl <|
        qz_bipush rfl <|
        qz_invvV [qz_i 45] rfl (cn_Md_out l0 45 h) mw_Md_out vw_Md_out ⟨_, rfl, rfl, by decide⟩ rfl rfl ln_Md_533 rfl fun _ h2 =>
        qz_fall rfl ca_Md_outNumber_12 <|
        qz_fgt [1, 1, 0, 0, 0, 0, 0, 0, 0] <| jb_Md_outNumber_12 G l0 l1 h2)
def fn_Md_outType_21 (s0 : Int) (s1 : Int) (h : qz_H) : Option qz_R :=
  qz_bc (fn_Md_outLong s0 s1 h) fun _ h2 =>
  some (0, h2)
set_option maxRecDepth 20000 in
def fn_Md_outType (l0 : Int) (l1 : Int) (h : qz_H) : Option qz_R :=
  qz_bc (fn_Md_out l0 32 h) fun _ h2 =>
  if ¬ l1 = 1 then
    fn_Md_outType_21 l0 6895156 h2
  else
    fn_Md_outType_21 l0 6894386 h2
def bk_Md_outType_0 : List (Instr × Nat) := [(.aload_n 0, 1), (.bipush 32, 2), (.invokevirtual 533, 3), (.aload_n 0, 1), (.iload_n 1, 1), (.iconst 1, 1), (.if_icmp .ne 9, 3), (.ldc2_w 338, 3), (.goto 6, 3)]
def bk_Md_outType_18 : List (Instr × Nat) := [(.ldc2_w 340, 3)]
def bk_Md_outType_21 : List (Instr × Nat) := [(.invokevirtual 540, 3), (.return_, 1)]
theorem ca_Md_outType_0 : qz_ca yd_Md_outType.2.1 0 bk_Md_outType_0 := qz_cab_ok _ _ (by decide +kernel)
theorem ca_Md_outType_18 : qz_ca yd_Md_outType.2.1 18 bk_Md_outType_18 := qz_cab_ok _ _ (by decide +kernel)
theorem ca_Md_outType_21 : qz_ca yd_Md_outType.2.1 21 bk_Md_outType_21 := qz_cab_ok _ _ (by decide +kernel)
set_option maxRecDepth 20000 in
theorem jb_Md_outType_21 (G : qz_G) (s0 : Int) (s1 : Int) (h : qz_H) : qz_J yd_Md_outType G bk_Md_outType_21 21 [qz_u, qz_u] [qz_j s1, qz_r true 12 s0] h 0 0 (fn_Md_outType_21 s0 s1 h) := by
  unfold fn_Md_outType_21 bk_Md_outType_21; exact
    qz_invvV [qz_j s1] rfl (cn_Md_outLong s0 s1 h) mw_Md_outLong vw_Md_outLong ⟨_, rfl, rfl, by decide⟩ rfl rfl ln_Md_540 rfl fun _ h2 =>
    qz_return ⟨rfl, rfl⟩ rfl
set_option maxRecDepth 20000 in
theorem cn_Md_outType (l0 : Int) (l1 : Int) (h : qz_H) : qz_C yd_Md_outType [qz_r true 12 l0, qz_i l1] h (fn_Md_outType l0 l1 h) := by
  refine qz_con (is := bk_Md_outType_0) (ls := [qz_r true 12 l0, qz_i l1]) mw_Md_outType.2.2.2 ca_Md_outType_0 rfl rfl rfl fun G => ?_
  unfold fn_Md_outType bk_Md_outType_0; exact
    qz_aload_n rfl <|
    qz_bipush rfl <|
    qz_invvV [qz_i 32] rfl (cn_Md_out l0 32 h) mw_Md_out vw_Md_out ⟨_, rfl, rfl, by decide⟩ rfl rfl ln_Md_533 rfl fun _ h2 =>
    qz_aload_n rfl <|
    qz_iload_n rfl <|
    qz_iconst rfl <|
    qz_icmp_ne rfl ca_Md_outType_18
      (qz_ldc2 wc_Md_340 rfl <|
        qz_fall rfl ca_Md_outType_21 <|
        qz_fgt [0, 0] <| jb_Md_outType_21 G l0 6895156 h2)
      (qz_ldc2 wc_Md_338 rfl <|
        qz_goto rfl ca_Md_outType_21 <|
        qz_fgt [0, 0] <| jb_Md_outType_21 G l0 6894386 h2)
def fn_Md_outRow_57 (h : qz_H) : Option qz_R :=
  some (0, h)
def fn_Md_outRow_22_b (k22 : Int → Int → Int → Int → qz_H → Option qz_R) (l0 : Int) (l3 : Int) (l5 : Int) (l6 : Int) (h : qz_H) : Option qz_R :=
  if l5 ≤ l6 then
    qz_bc (fn_Md_out l0 41 h) fun _ h2 =>
    fn_Md_outRow_57 h2
  else
    qz_ck ((h l0 11 : Int) ≠ 0) <|
    qz_ck ((0 : Int) ≤ qz_w ((qz_w (8 * l3)) + l6) ∧ qz_w ((qz_w (8 * l3)) + l6) < h (h l0 11) (-1)) <|
    qz_bc (fn_Md_outType l0 (h (h l0 11) (qz_w ((qz_w (8 * l3)) + l6))) h) fun _ h4 =>
    qz_bn (qz_w (l6 + 1)) fun x5 =>
    k22 l0 l3 l5 x5 h4
def fn_Md_outRow_22 : Nat → Int → Int → Int → Int → qz_H → Option qz_R
  | 0, _, _, _, _, _ => none
  | n + 1, l0, l3, l5, l6, h => fn_Md_outRow_22_b (fn_Md_outRow_22 n) l0 l3 l5 l6 h
set_option maxRecDepth 20000 in
def fn_Md_outRow (l0 : Int) (l1 : Int) (l3 : Int) (l4 : Int) (l5 : Int) (h : qz_H) : Option qz_R :=
  if l5 ≤ l4 then
    fn_Md_outRow_57 h
  else
    qz_bc (fn_Md_out l0 40 h) fun _ h2 =>
    qz_bc (fn_Md_outLong l0 l1 h2) fun _ h4 =>
    qz_bn (l4 : Int) fun x5 =>
    fn_Md_outRow_22 qz_NF l0 l3 l5 x5 h4
def bk_Md_outRow_0 : List (Instr × Nat) := [(.iload 4, 2), (.iload 5, 2), (.if_icmp .ge 53, 3), (.aload_n 0, 1), (.bipush 40, 2), (.invokevirtual 533, 3), (.aload_n 0, 1), (.lload_n 1, 1), (.invokevirtual 540, 3), (.iload 4, 2), (.istore 6, 2)]
def bk_Md_outRow_57 : List (Instr × Nat) := [(.return_, 1)]
def bk_Md_outRow_22 : List (Instr × Nat) := [(.iload 6, 2), (.iload 5, 2), (.if_icmp .ge 25, 3), (.aload_n 0, 1), (.aload_n 0, 1), (.getfield 103, 3), (.bipush 8, 2), (.iload_n 3, 1), (.imul, 1), (.iload 6, 2), (.iadd, 1), (.iaload, 1), (.invokevirtual 543, 3), (.iinc 6 1, 3), (.goto (-26), 3)]
def bk_Md_outRow_51 : List (Instr × Nat) := [(.aload_n 0, 1), (.bipush 41, 2), (.invokevirtual 533, 3)]
theorem ca_Md_outRow_0 : qz_ca yd_Md_outRow.2.1 0 bk_Md_outRow_0 := qz_cab_ok _ _ (by decide +kernel)
theorem ca_Md_outRow_57 : qz_ca yd_Md_outRow.2.1 57 bk_Md_outRow_57 := qz_cab_ok _ _ (by decide +kernel)
theorem ca_Md_outRow_22 : qz_ca yd_Md_outRow.2.1 22 bk_Md_outRow_22 := qz_cab_ok _ _ (by decide +kernel)
theorem ca_Md_outRow_51 : qz_ca yd_Md_outRow.2.1 51 bk_Md_outRow_51 := qz_cab_ok _ _ (by decide +kernel)
set_option maxRecDepth 20000 in
theorem jb_Md_outRow_57 (G : qz_G) (h : qz_H) : qz_J yd_Md_outRow G bk_Md_outRow_57 57 [qz_u, qz_u, qz_u, qz_u, qz_u, qz_u, qz_u] [] h 0 0 (fn_Md_outRow_57 h) := by
  unfold fn_Md_outRow_57 bk_Md_outRow_57; exact
    qz_return ⟨rfl, rfl⟩ rfl
set_option maxRecDepth 20000 in
theorem jb_Md_outRow_22_b (G : qz_G) (k22 : Int → Int → Int → Int → qz_H → Option qz_R) (jk22 : ∀ (l0 : Int) (l3 : Int) (l5 : Int) (l6 : Int) (h : qz_H), qz_J yd_Md_outRow G bk_Md_outRow_22 22 [qz_r true 12 l0, qz_u, qz_u, qz_i l3, qz_u, qz_i l5, qz_i l6] [] h 0 0 (k22 l0 l3 l5 l6 h)) (l0 : Int) (l3 : Int) (l5 : Int) (l6 : Int) (h : qz_H) : qz_J yd_Md_outRow G bk_Md_outRow_22 22 [qz_r true 12 l0, qz_u, qz_u, qz_i l3, qz_u, qz_i l5, qz_i l6] [] h 0 0 (fn_Md_outRow_22_b k22 l0 l3 l5 l6 h) := by
  unfold fn_Md_outRow_22_b bk_Md_outRow_22; exact
    qz_iload rfl <|
    qz_iload rfl <|
    qz_icmp_ge rfl ca_Md_outRow_51
      (qz_aload_n rfl <|
        qz_bipush rfl <|
        qz_invvV [qz_i 41] rfl (cn_Md_out l0 41 h) mw_Md_out vw_Md_out ⟨_, rfl, rfl, by decide⟩ rfl rfl ln_Md_533 rfl fun _ h2 =>
        qz_fall rfl ca_Md_outRow_57 <|
        qz_fgt [0, 0, 0, 0, 0, 0, 0] <| jb_Md_outRow_57 G h2)
      (qz_aload_n rfl <|
        qz_aload_n rfl <|
        qz_getR (k1 := 40) kg_12 fl_Md_103 rfl rfl <|
        qz_bipush rfl <|
        qz_iload_n rfl <|
        qz_imul <|
        qz_iload rfl <|
        qz_iadd <|
        qz_nnd 1 rfl <|
        qz_iald (k0 := 40) rfl rfl rfl <|
        qz_invvV [qz_i (h (h l0 11) (qz_w ((qz_w (8 * l3)) + l6)))] rfl (cn_Md_outType l0 (h (h l0 11) (qz_w ((qz_w (8 * l3)) + l6))) h) mw_Md_outType vw_Md_outType ⟨_, rfl, rfl, by decide⟩ rfl rfl ln_Md_543 rfl fun _ h4 =>
        qz_iinc rfl (by decide) fun x5 =>
        qz_goto rfl ca_Md_outRow_22 <|
        qz_fgt [1, 0, 0, 1, 0, 1, 1] <| jk22 l0 l3 l5 x5 h4)
theorem jb_Md_outRow_22 (G : qz_G) : ∀ (n : Nat) (l0 l3 l5 l6 : Int) (h : qz_H), qz_J yd_Md_outRow G bk_Md_outRow_22 22 [qz_r true 12 l0, qz_u, qz_u, qz_i l3, qz_u, qz_i l5, qz_i l6] [] h 0 0 (fn_Md_outRow_22 n l0 l3 l5 l6 h)
  | 0, _, _, _, _, _ => qz_none
  | n + 1, l0, l3, l5, l6, h => jb_Md_outRow_22_b G (fn_Md_outRow_22 n) (jb_Md_outRow_22 G n) l0 l3 l5 l6 h
set_option maxRecDepth 20000 in
theorem cn_Md_outRow (l0 : Int) (l1 : Int) (l3 : Int) (l4 : Int) (l5 : Int) (h : qz_H) : qz_C yd_Md_outRow [qz_r true 12 l0, qz_j l1, qz_i l3, qz_i l4, qz_i l5] h (fn_Md_outRow l0 l1 l3 l4 l5 h) := by
  refine qz_con (is := bk_Md_outRow_0) (ls := [qz_r true 12 l0, qz_j l1, qz_u, qz_i l3, qz_i l4, qz_i l5, qz_u]) mw_Md_outRow.2.2.2 ca_Md_outRow_0 rfl rfl rfl fun G => ?_
  unfold fn_Md_outRow bk_Md_outRow_0; exact
    qz_iload rfl <|
    qz_iload rfl <|
    qz_icmp_ge rfl ca_Md_outRow_57
      (qz_fgt [0, 0, 0, 0, 0, 0, 0] <| jb_Md_outRow_57 G h)
      (qz_aload_n rfl <|
        qz_bipush rfl <|
        qz_invvV [qz_i 40] rfl (cn_Md_out l0 40 h) mw_Md_out vw_Md_out ⟨_, rfl, rfl, by decide⟩ rfl rfl ln_Md_533 rfl fun _ h2 =>
        qz_aload_n rfl <|
        qz_lload_n rfl <|
        qz_invvV [qz_j l1] rfl (cn_Md_outLong l0 l1 h2) mw_Md_outLong vw_Md_outLong ⟨_, rfl, rfl, by decide⟩ rfl rfl ln_Md_540 rfl fun _ h4 =>
        qz_iload rfl <|
        qz_istore (by decide) fun x5 =>
        qz_fall rfl ca_Md_outRow_22 <|
        qz_fgt [1, 0, 0, 1, 0, 1, 1] <| jb_Md_outRow_22 G qz_NF l0 l3 l5 x5 h4)
set_option maxRecDepth 20000 in
def fn_Md_outResult (l0 : Int) (l1 : Int) (h : qz_H) : Option qz_R :=
  qz_bc (fn_Md_out l0 40 h) fun _ h2 =>
  qz_bc (fn_Md_outLong l0 125780054338676 h2) fun _ h4 =>
  qz_bc (fn_Md_outType l0 l1 h4) fun _ h6 =>
  qz_bc (fn_Md_out l0 41 h6) fun _ h8 =>
  some (0, h8)
def bk_Md_outResult_0 : List (Instr × Nat) := [(.aload_n 0, 1), (.bipush 40, 2), (.invokevirtual 533, 3), (.aload_n 0, 1), (.ldc2_w 328, 3), (.invokevirtual 540, 3), (.aload_n 0, 1), (.iload_n 1, 1), (.invokevirtual 543, 3), (.aload_n 0, 1), (.bipush 41, 2), (.invokevirtual 533, 3), (.return_, 1)]
theorem ca_Md_outResult_0 : qz_ca yd_Md_outResult.2.1 0 bk_Md_outResult_0 := qz_cab_ok _ _ (by decide +kernel)
set_option maxRecDepth 20000 in
theorem cn_Md_outResult (l0 : Int) (l1 : Int) (h : qz_H) : qz_C yd_Md_outResult [qz_r true 12 l0, qz_i l1] h (fn_Md_outResult l0 l1 h) := by
  refine qz_con (is := bk_Md_outResult_0) (ls := [qz_r true 12 l0, qz_i l1]) mw_Md_outResult.2.2.2 ca_Md_outResult_0 rfl rfl rfl fun G => ?_
  unfold fn_Md_outResult bk_Md_outResult_0; exact
    qz_aload_n rfl <|
    qz_bipush rfl <|
    qz_invvV [qz_i 40] rfl (cn_Md_out l0 40 h) mw_Md_out vw_Md_out ⟨_, rfl, rfl, by decide⟩ rfl rfl ln_Md_533 rfl fun _ h2 =>
    qz_aload_n rfl <|
    qz_ldc2 wc_Md_328 rfl <|
    qz_invvV [qz_j 125780054338676] rfl (cn_Md_outLong l0 125780054338676 h2) mw_Md_outLong vw_Md_outLong ⟨_, rfl, rfl, by decide⟩ rfl rfl ln_Md_540 rfl fun _ h4 =>
    qz_aload_n rfl <|
    qz_iload_n rfl <|
    qz_invvV [qz_i l1] rfl (cn_Md_outType l0 l1 h4) mw_Md_outType vw_Md_outType ⟨_, rfl, rfl, by decide⟩ rfl rfl ln_Md_543 rfl fun _ h6 =>
    qz_aload_n rfl <|
    qz_bipush rfl <|
    qz_invvV [qz_i 41] rfl (cn_Md_out l0 41 h6) mw_Md_out vw_Md_out ⟨_, rfl, rfl, by decide⟩ rfl rfl ln_Md_533 rfl fun _ h8 =>
    qz_return ⟨rfl, rfl⟩ rfl
def fn_Md_outInstruction_162 (h : qz_H) : Option qz_R :=
  some (0, h)
def fn_Md_outInstruction_98 (l0 : Int) (l1 : Int) (l2 : Int) (s0 : Int) (h : qz_H) : Option qz_R :=
  qz_bn (s0 : Int) fun x1 =>
  if x1 = 0 then
    if l2 < 2 then
      fn_Md_outInstruction_162 h
    else
      if 4 < l2 then
        fn_Md_outInstruction_162 h
      else
        qz_ck ((h l0 14 : Int) ≠ 0) <|
        qz_ck ((0 : Int) ≤ l1 ∧ l1 < h (h l0 14) (-1)) <|
        if qz_cmp (h (h l0 14) l1) 0 ≤ 0 then
          fn_Md_outInstruction_162 h
        else
          qz_bc (fn_Md_out l0 32 h) fun _ h3 =>
          qz_ck ((h3 l0 14 : Int) ≠ 0) <|
          qz_ck ((0 : Int) ≤ l1 ∧ l1 < h3 (h3 l0 14) (-1)) <|
          qz_bc (fn_Md_outResult l0 (qz_w (h3 (h3 l0 14) l1)) h3) fun _ h5 =>
          fn_Md_outInstruction_162 h5
  else
    qz_bc (fn_Md_out l0 32 h) fun _ h7 =>
    qz_ck ((h7 l0 14 : Int) ≠ 0) <|
    qz_ck ((0 : Int) ≤ l1 ∧ l1 < h7 (h7 l0 14) (-1)) <|
    qz_bc (fn_Md_outNumber l0 (h7 (h7 l0 14) l1) h7) fun _ h9 =>
    fn_Md_outInstruction_162 h9
def fn_Md_outInstruction_93 (l0 : Int) (l1 : Int) (l2 : Int) (h : qz_H) : Option qz_R :=
  fn_Md_outInstruction_98 l0 l1 l2 1 h
def fn_Md_outInstruction_81 (l0 : Int) (l1 : Int) (l2 : Int) (h : qz_H) : Option qz_R :=
  if l2 = 65 then
    fn_Md_outInstruction_93 l0 l1 l2 h
  else
    if ¬ l2 = 66 then
      fn_Md_outInstruction_98 l0 l1 l2 0 h
    else
      fn_Md_outInstruction_93 l0 l1 l2 h
def fn_Md_outInstruction_9_b (k9 : Int → Int → Int → Int → qz_H → Option qz_R) (l0 : Int) (l1 : Int) (l2 : Int) (l3 : Int) (h : qz_H) : Option qz_R :=
  qz_ck ((h l0 2 : Int) ≠ 0) <|
  qz_ck ((0 : Int) ≤ l3 ∧ l3 < h (h l0 2) (-1)) <|
  if h (h l0 2) l3 = l2 then
    qz_bc (fn_Md_out l0 32 h) fun _ h2 =>
    qz_ck ((h2 l0 0 : Int) ≠ 0) <|
    qz_ck ((0 : Int) ≤ l3 ∧ l3 < h2 (h2 l0 0) (-1)) <|
    qz_bc (fn_Md_outLong l0 (h2 (h2 l0 0) l3) h2) fun _ h4 =>
    qz_ck ((h4 l0 1 : Int) ≠ 0) <|
    qz_ck ((0 : Int) ≤ l3 ∧ l3 < h4 (h4 l0 1) (-1)) <|
    qz_bc (fn_Md_outLong l0 (h4 (h4 l0 1) l3) h4) fun _ h6 =>
    if l2 = 12 then
      fn_Md_outInstruction_93 l0 l1 l2 h6
    else
      if l2 = 13 then
        fn_Md_outInstruction_93 l0 l1 l2 h6
      else
        if l2 = 16 then
          fn_Md_outInstruction_93 l0 l1 l2 h6
        else
          if l2 < 32 then
            fn_Md_outInstruction_81 l0 l1 l2 h6
          else
            if l2 ≤ 34 then
              fn_Md_outInstruction_93 l0 l1 l2 h6
            else
              fn_Md_outInstruction_81 l0 l1 l2 h6
  else
    qz_bn (qz_w (l3 + 1)) fun x7 =>
    k9 l0 l1 l2 x7 h
def fn_Md_outInstruction_9 : Nat → Int → Int → Int → Int → qz_H → Option qz_R
  | 0, _, _, _, _, _ => none
  | n + 1, l0, l1, l2, l3, h => fn_Md_outInstruction_9_b (fn_Md_outInstruction_9 n) l0 l1 l2 l3 h
set_option maxRecDepth 20000 in
def fn_Md_outInstruction (l0 : Int) (l1 : Int) (h : qz_H) : Option qz_R :=
  qz_ck ((h l0 13 : Int) ≠ 0) <|
  qz_ck ((0 : Int) ≤ l1 ∧ l1 < h (h l0 13) (-1)) <|
  qz_bn (h (h l0 13) l1 : Int) fun x1 =>
  qz_bn (0 : Int) fun x2 =>
  fn_Md_outInstruction_9 qz_NF l0 l1 x1 x2 h
def bk_Md_outInstruction_0 : List (Instr × Nat) := [(.aload_n 0, 1), (.getfield 109, 3), (.iload_n 1, 1), (.iaload, 1), (.istore_n 2, 1), (.iconst 0, 1), (.istore_n 3, 1)]
def bk_Md_outInstruction_9 : List (Instr × Nat) := [(.aload_n 0, 1), (.getfield 86, 3), (.iload_n 3, 1), (.iaload, 1), (.iload_n 2, 1), (.if_icmp .eq 9, 3), (.iinc 3 1, 3), (.goto (-13), 3)]
def bk_Md_outInstruction_25 : List (Instr × Nat) := [(.aload_n 0, 1), (.bipush 32, 2), (.invokevirtual 533, 3), (.aload_n 0, 1), (.aload_n 0, 1), (.getfield 67, 3), (.iload_n 3, 1), (.laload, 1), (.invokevirtual 540, 3), (.aload_n 0, 1), (.aload_n 0, 1), (.getfield 83, 3), (.iload_n 3, 1), (.laload, 1), (.invokevirtual 540, 3), (.iload_n 2, 1), (.bipush 12, 2), (.if_icmp .eq 39, 3), (.iload_n 2, 1), (.bipush 13, 2), (.if_icmp .eq 33, 3), (.iload_n 2, 1), (.bipush 16, 2), (.if_icmp .eq 27, 3), (.iload_n 2, 1), (.bipush 32, 2), (.if_icmp .lt 9, 3), (.iload_n 2, 1), (.bipush 34, 2), (.if_icmp .le 15, 3)]
def bk_Md_outInstruction_93 : List (Instr × Nat) := [(.iconst 1, 1), (.goto 4, 3)]
def bk_Md_outInstruction_81 : List (Instr × Nat) := [(.iload_n 2, 1), (.bipush 65, 2), (.if_icmp .eq 9, 3), (.iload_n 2, 1), (.bipush 66, 2), (.if_icmp .ne 7, 3)]
def bk_Md_outInstruction_98 : List (Instr × Nat) := [(.istore 4, 2), (.iload 4, 2), (.ifCond .eq 22, 3), (.aload_n 0, 1), (.bipush 32, 2), (.invokevirtual 533, 3), (.aload_n 0, 1), (.aload_n 0, 1), (.getfield 112, 3), (.iload_n 1, 1), (.laload, 1), (.invokevirtual 546, 3), (.goto 41, 3)]
def bk_Md_outInstruction_97 : List (Instr × Nat) := [(.iconst 0, 1)]
def bk_Md_outInstruction_124 : List (Instr × Nat) := [(.iload_n 2, 1), (.iconst 2, 1), (.if_icmp .lt 36, 3), (.iload_n 2, 1), (.iconst 4, 1), (.if_icmp .gt 31, 3), (.aload_n 0, 1), (.getfield 112, 3), (.iload_n 1, 1), (.laload, 1), (.lconst 0, 1), (.lcmp, 1), (.ifCond .le 20, 3), (.aload_n 0, 1), (.bipush 32, 2), (.invokevirtual 533, 3), (.aload_n 0, 1), (.aload_n 0, 1), (.getfield 112, 3), (.iload_n 1, 1), (.laload, 1), (.l2i, 1), (.invokevirtual 549, 3)]
def bk_Md_outInstruction_162 : List (Instr × Nat) := [(.return_, 1)]
theorem ca_Md_outInstruction_0 : qz_ca yd_Md_outInstruction.2.1 0 bk_Md_outInstruction_0 := qz_cab_ok _ _ (by decide +kernel)
theorem ca_Md_outInstruction_9 : qz_ca yd_Md_outInstruction.2.1 9 bk_Md_outInstruction_9 := qz_cab_ok _ _ (by decide +kernel)
theorem ca_Md_outInstruction_25 : qz_ca yd_Md_outInstruction.2.1 25 bk_Md_outInstruction_25 := qz_cab_ok _ _ (by decide +kernel)
theorem ca_Md_outInstruction_93 : qz_ca yd_Md_outInstruction.2.1 93 bk_Md_outInstruction_93 := qz_cab_ok _ _ (by decide +kernel)
theorem ca_Md_outInstruction_81 : qz_ca yd_Md_outInstruction.2.1 81 bk_Md_outInstruction_81 := qz_cab_ok _ _ (by decide +kernel)
theorem ca_Md_outInstruction_98 : qz_ca yd_Md_outInstruction.2.1 98 bk_Md_outInstruction_98 := qz_cab_ok _ _ (by decide +kernel)
theorem ca_Md_outInstruction_97 : qz_ca yd_Md_outInstruction.2.1 97 bk_Md_outInstruction_97 := qz_cab_ok _ _ (by decide +kernel)
theorem ca_Md_outInstruction_124 : qz_ca yd_Md_outInstruction.2.1 124 bk_Md_outInstruction_124 := qz_cab_ok _ _ (by decide +kernel)
theorem ca_Md_outInstruction_162 : qz_ca yd_Md_outInstruction.2.1 162 bk_Md_outInstruction_162 := qz_cab_ok _ _ (by decide +kernel)
set_option maxRecDepth 20000 in
theorem jb_Md_outInstruction_162 (G : qz_G) (h : qz_H) : qz_J yd_Md_outInstruction G bk_Md_outInstruction_162 162 [qz_u, qz_u, qz_u, qz_u, qz_u] [] h 0 0 (fn_Md_outInstruction_162 h) := by
  unfold fn_Md_outInstruction_162 bk_Md_outInstruction_162; exact
    qz_return ⟨rfl, rfl⟩ rfl
set_option maxRecDepth 20000 in
theorem jb_Md_outInstruction_98 (G : qz_G) (l0 : Int) (l1 : Int) (l2 : Int) (s0 : Int) (h : qz_H) : qz_J yd_Md_outInstruction G bk_Md_outInstruction_98 98 [qz_r true 12 l0, qz_i l1, qz_i l2, qz_u, qz_u] [qz_i s0] h 0 0 (fn_Md_outInstruction_98 l0 l1 l2 s0 h) := by
  unfold fn_Md_outInstruction_98 bk_Md_outInstruction_98; exact
    qz_istore (by decide) fun x1 =>
    qz_iload rfl <|
    qz_if_eq rfl ca_Md_outInstruction_124
      (qz_iload_n rfl <|
        qz_iconst rfl <|
        qz_icmp_lt rfl ca_Md_outInstruction_162
          (qz_fgt [0, 0, 0, 0, 0] <| jb_Md_outInstruction_162 G h)
          (qz_iload_n rfl <|
            qz_iconst rfl <|
            qz_icmp_gt rfl ca_Md_outInstruction_162
              (qz_fgt [0, 0, 0, 0, 0] <| jb_Md_outInstruction_162 G h)
              (qz_aload_n rfl <|
                qz_getR (k1 := 41) kg_12 fl_Md_112 rfl rfl <|
                qz_iload_n rfl <|
                qz_nnd 1 rfl <|
                qz_lald (k0 := 41) rfl rfl rfl <|
                qz_lconst rfl <|
                qz_lcmp <|
                qz_if_le rfl ca_Md_outInstruction_162
                  (qz_fgt [0, 0, 0, 0, 0] <| jb_Md_outInstruction_162 G h)
                  (qz_aload_n rfl <|
                    qz_bipush rfl <|
                    qz_invvV [qz_i 32] rfl (cn_Md_out l0 32 h) mw_Md_out vw_Md_out ⟨_, rfl, rfl, by decide⟩ rfl rfl ln_Md_533 rfl fun _ h3 =>
                    qz_aload_n rfl <|
                    qz_aload_n rfl <|
                    qz_getR (k1 := 41) kg_12 fl_Md_112 rfl rfl <|
                    qz_iload_n rfl <|
                    qz_nnd 1 rfl <|
                    qz_lald (k0 := 41) rfl rfl rfl <|
                    qz_l2i <|
                    qz_invvV [qz_i (qz_w (h3 (h3 l0 14) l1))] rfl (cn_Md_outResult l0 (qz_w (h3 (h3 l0 14) l1)) h3) mw_Md_outResult vw_Md_outResult ⟨_, rfl, rfl, by decide⟩ rfl rfl ln_Md_549 rfl fun _ h5 =>
                    qz_fall rfl ca_Md_outInstruction_162 <|
                    qz_fgt [0, 0, 0, 0, 0] <| jb_Md_outInstruction_162 G h5))))
      (qz_aload_n rfl <|
        qz_bipush rfl <|
        qz_invvV [qz_i 32] rfl (cn_Md_out l0 32 h) mw_Md_out vw_Md_out ⟨_, rfl, rfl, by decide⟩ rfl rfl ln_Md_533 rfl fun _ h7 =>
        qz_aload_n rfl <|
        qz_aload_n rfl <|
        qz_getR (k1 := 41) kg_12 fl_Md_112 rfl rfl <|
        qz_iload_n rfl <|
        qz_nnd 1 rfl <|
        qz_lald (k0 := 41) rfl rfl rfl <|
        qz_invvV [qz_j (h7 (h7 l0 14) l1)] rfl (cn_Md_outNumber l0 (h7 (h7 l0 14) l1) h7) mw_Md_outNumber vw_Md_outNumber ⟨_, rfl, rfl, by decide⟩ rfl rfl ln_Md_546 rfl fun _ h9 =>
        qz_goto rfl ca_Md_outInstruction_162 <|
        qz_fgt [0, 0, 0, 0, 0] <| jb_Md_outInstruction_162 G h9)
set_option maxRecDepth 20000 in
theorem jb_Md_outInstruction_93 (G : qz_G) (l0 : Int) (l1 : Int) (l2 : Int) (h : qz_H) : qz_J yd_Md_outInstruction G bk_Md_outInstruction_93 93 [qz_r true 12 l0, qz_i l1, qz_i l2, qz_u, qz_u] [] h 0 0 (fn_Md_outInstruction_93 l0 l1 l2 h) := by
  unfold fn_Md_outInstruction_93 bk_Md_outInstruction_93; exact
    qz_iconst rfl <|
    qz_goto rfl ca_Md_outInstruction_98 <|
    qz_fgt [1, 1, 1, 0, 0] <| jb_Md_outInstruction_98 G l0 l1 l2 1 h
set_option maxRecDepth 20000 in
theorem jb_Md_outInstruction_81 (G : qz_G) (l0 : Int) (l1 : Int) (l2 : Int) (h : qz_H) : qz_J yd_Md_outInstruction G bk_Md_outInstruction_81 81 [qz_r true 12 l0, qz_i l1, qz_i l2, qz_u, qz_u] [] h 0 0 (fn_Md_outInstruction_81 l0 l1 l2 h) := by
  unfold fn_Md_outInstruction_81 bk_Md_outInstruction_81; exact
    qz_iload_n rfl <|
    qz_bipush rfl <|
    qz_icmp_eq rfl ca_Md_outInstruction_93
      (qz_fgt [1, 1, 1, 0, 0] <| jb_Md_outInstruction_93 G l0 l1 l2 h)
      (qz_iload_n rfl <|
        qz_bipush rfl <|
        qz_icmp_ne rfl ca_Md_outInstruction_97
          (qz_iconst rfl <|
            qz_fall rfl ca_Md_outInstruction_98 <|
            qz_fgt [1, 1, 1, 0, 0] <| jb_Md_outInstruction_98 G l0 l1 l2 0 h)
          (qz_fall rfl ca_Md_outInstruction_93 <|
            qz_fgt [1, 1, 1, 0, 0] <| jb_Md_outInstruction_93 G l0 l1 l2 h))
set_option maxRecDepth 20000 in
theorem jb_Md_outInstruction_9_b (G : qz_G) (k9 : Int → Int → Int → Int → qz_H → Option qz_R) (jk9 : ∀ (l0 : Int) (l1 : Int) (l2 : Int) (l3 : Int) (h : qz_H), qz_J yd_Md_outInstruction G bk_Md_outInstruction_9 9 [qz_r true 12 l0, qz_i l1, qz_i l2, qz_i l3, qz_u] [] h 0 0 (k9 l0 l1 l2 l3 h)) (l0 : Int) (l1 : Int) (l2 : Int) (l3 : Int) (h : qz_H) : qz_J yd_Md_outInstruction G bk_Md_outInstruction_9 9 [qz_r true 12 l0, qz_i l1, qz_i l2, qz_i l3, qz_u] [] h 0 0 (fn_Md_outInstruction_9_b k9 l0 l1 l2 l3 h) := by
  unfold fn_Md_outInstruction_9_b bk_Md_outInstruction_9; exact
    qz_aload_n rfl <|
    qz_getR (k1 := 40) kg_12 fl_Md_86 rfl rfl <|
    qz_iload_n rfl <|
    qz_nnd 1 rfl <|
    qz_iald (k0 := 40) rfl rfl rfl <|
    qz_iload_n rfl <|
    qz_icmp_eq rfl ca_Md_outInstruction_25
      (qz_aload_n rfl <|
        qz_bipush rfl <|
        qz_invvV [qz_i 32] rfl (cn_Md_out l0 32 h) mw_Md_out vw_Md_out ⟨_, rfl, rfl, by decide⟩ rfl rfl ln_Md_533 rfl fun _ h2 =>
        qz_aload_n rfl <|
        qz_aload_n rfl <|
        qz_getR (k1 := 41) kg_12 fl_Md_67 rfl rfl <|
        qz_iload_n rfl <|
        qz_nnd 1 rfl <|
        qz_lald (k0 := 41) rfl rfl rfl <|
        qz_invvV [qz_j (h2 (h2 l0 0) l3)] rfl (cn_Md_outLong l0 (h2 (h2 l0 0) l3) h2) mw_Md_outLong vw_Md_outLong ⟨_, rfl, rfl, by decide⟩ rfl rfl ln_Md_540 rfl fun _ h4 =>
        qz_aload_n rfl <|
        qz_aload_n rfl <|
        qz_getR (k1 := 41) kg_12 fl_Md_83 rfl rfl <|
        qz_iload_n rfl <|
        qz_nnd 1 rfl <|
        qz_lald (k0 := 41) rfl rfl rfl <|
        qz_invvV [qz_j (h4 (h4 l0 1) l3)] rfl (cn_Md_outLong l0 (h4 (h4 l0 1) l3) h4) mw_Md_outLong vw_Md_outLong ⟨_, rfl, rfl, by decide⟩ rfl rfl ln_Md_540 rfl fun _ h6 =>
        qz_iload_n rfl <|
        qz_bipush rfl <|
        qz_icmp_eq rfl ca_Md_outInstruction_93
          (qz_fgt [1, 1, 1, 0, 0] <| jb_Md_outInstruction_93 G l0 l1 l2 h6)
          (qz_iload_n rfl <|
            qz_bipush rfl <|
            qz_icmp_eq rfl ca_Md_outInstruction_93
              (qz_fgt [1, 1, 1, 0, 0] <| jb_Md_outInstruction_93 G l0 l1 l2 h6)
              (qz_iload_n rfl <|
                qz_bipush rfl <|
                qz_icmp_eq rfl ca_Md_outInstruction_93
                  (qz_fgt [1, 1, 1, 0, 0] <| jb_Md_outInstruction_93 G l0 l1 l2 h6)
                  (qz_iload_n rfl <|
                    qz_bipush rfl <|
                    qz_icmp_lt rfl ca_Md_outInstruction_81
                      (qz_fgt [1, 1, 1, 0, 0] <| jb_Md_outInstruction_81 G l0 l1 l2 h6)
                      (qz_iload_n rfl <|
                        qz_bipush rfl <|
                        qz_icmp_le rfl ca_Md_outInstruction_93
                          (qz_fgt [1, 1, 1, 0, 0] <| jb_Md_outInstruction_93 G l0 l1 l2 h6)
                          (qz_fall rfl ca_Md_outInstruction_81 <|
                            qz_fgt [1, 1, 1, 0, 0] <| jb_Md_outInstruction_81 G l0 l1 l2 h6))))))
      (qz_iinc rfl (by decide) fun x7 =>
        qz_goto rfl ca_Md_outInstruction_9 <|
        qz_fgt [1, 1, 1, 1, 0] <| jk9 l0 l1 l2 x7 h)
theorem jb_Md_outInstruction_9 (G : qz_G) : ∀ (n : Nat) (l0 l1 l2 l3 : Int) (h : qz_H), qz_J yd_Md_outInstruction G bk_Md_outInstruction_9 9 [qz_r true 12 l0, qz_i l1, qz_i l2, qz_i l3, qz_u] [] h 0 0 (fn_Md_outInstruction_9 n l0 l1 l2 l3 h)
  | 0, _, _, _, _, _ => qz_none
  | n + 1, l0, l1, l2, l3, h => jb_Md_outInstruction_9_b G (fn_Md_outInstruction_9 n) (jb_Md_outInstruction_9 G n) l0 l1 l2 l3 h
set_option maxRecDepth 20000 in
theorem cn_Md_outInstruction (l0 : Int) (l1 : Int) (h : qz_H) : qz_C yd_Md_outInstruction [qz_r true 12 l0, qz_i l1] h (fn_Md_outInstruction l0 l1 h) := by
  refine qz_con (is := bk_Md_outInstruction_0) (ls := [qz_r true 12 l0, qz_i l1, qz_u, qz_u, qz_u]) mw_Md_outInstruction.2.2.2 ca_Md_outInstruction_0 rfl rfl rfl fun G => ?_
  unfold fn_Md_outInstruction bk_Md_outInstruction_0; exact
    qz_aload_n rfl <|
    qz_getR (k1 := 40) kg_12 fl_Md_109 rfl rfl <|
    qz_iload_n rfl <|
    qz_nnd 1 rfl <|
    qz_iald (k0 := 40) rfl rfl rfl <|
    qz_istore_n (by decide) fun x1 =>
    qz_iconst rfl <|
    qz_istore_n (by decide) fun x2 =>
    qz_fall rfl ca_Md_outInstruction_9 <|
    qz_fgt [1, 1, 1, 1, 0] <| jb_Md_outInstruction_9 G qz_NF l0 l1 x1 x2 h
def fn_Md_print_166_b (k166 : Int → Int → qz_H → Option qz_R) (l0 : Int) (l1 : Int) (h : qz_H) : Option qz_R :=
  if h l0 62 ≤ l1 then
    qz_ck ((0 : Int) < l0) <|
    qz_bn (qz_up h l0 5 (h l0 62)) fun h1 =>
    some (h1 l0 5, h1)
  else
    qz_ck ((h l0 63 : Int) ≠ 0) <|
    qz_ck ((0 : Int) ≤ l1 ∧ l1 < h (h l0 63) (-1)) <|
    qz_ck ((h l0 6 : Int) ≠ 0) <|
    qz_ck (0 < h l0 6 ∧ (0 : Int) ≤ l1 ∧ l1 < h (h l0 6) (-1)) <|
    qz_bn (qz_up h (h l0 6) l1 (qz_nc (h (h l0 63) l1))) fun h2 =>
    qz_bn (qz_w (l1 + 1)) fun x3 =>
    k166 l0 x3 h2
def fn_Md_print_166 : Nat → Int → Int → qz_H → Option qz_R
  | 0, _, _, _ => none
  | n + 1, l0, l1, h => fn_Md_print_166_b (fn_Md_print_166 n) l0 l1 h
def fn_Md_print_102_b (k20 : Int → Int → qz_H → Option qz_R) (k102 : Int → Int → Int → qz_H → Option qz_R) (l0 : Int) (l1 : Int) (l2 : Int) (h : qz_H) : Option qz_R :=
  qz_ck ((h l0 12 : Int) ≠ 0) <|
  qz_ck ((0 : Int) ≤ qz_w (l1 + 1) ∧ qz_w (l1 + 1) < h (h l0 12) (-1)) <|
  if h (h l0 12) (qz_w (l1 + 1)) ≤ l2 then
    qz_bc (fn_Md_out l0 41 h) fun _ h2 =>
    qz_bn (qz_w (l1 + 1)) fun x3 =>
    k20 l0 x3 h2
  else
    qz_bc (fn_Md_outInstruction l0 l2 h) fun _ h5 =>
    qz_bn (qz_w (l2 + 1)) fun x6 =>
    k102 l0 l1 x6 h5
def fn_Md_print_102 (k20 : Int → Int → qz_H → Option qz_R) : Nat → Int → Int → Int → qz_H → Option qz_R
  | 0, _, _, _, _ => none
  | n + 1, l0, l1, l2, h => fn_Md_print_102_b k20 (fn_Md_print_102 k20 n) l0 l1 l2 h
def fn_Md_print_75 (k20 : Int → Int → qz_H → Option qz_R) (l0 : Int) (l1 : Int) (h : qz_H) : Option qz_R :=
  qz_ck ((h l0 8 : Int) ≠ 0) <|
  qz_ck ((0 : Int) ≤ l1 ∧ l1 < h (h l0 8) (-1)) <|
  qz_ck ((h l0 9 : Int) ≠ 0) <|
  qz_ck ((0 : Int) ≤ l1 ∧ l1 < h (h l0 9) (-1)) <|
  qz_bc (fn_Md_outRow l0 465725251948 l1 (h (h l0 8) l1) (h (h l0 9) l1) h) fun _ h2 =>
  qz_ck ((h2 l0 12 : Int) ≠ 0) <|
  qz_ck ((0 : Int) ≤ l1 ∧ l1 < h2 (h2 l0 12) (-1)) <|
  qz_bn (h2 (h2 l0 12) l1 : Int) fun x3 =>
  fn_Md_print_102 k20 qz_NF l0 l1 x3 h2
def fn_Md_print_20_b (k20 : Int → Int → qz_H → Option qz_R) (l0 : Int) (l1 : Int) (h : qz_H) : Option qz_R :=
  if h l0 7 ≤ l1 then
    qz_bc (fn_Md_out l0 41 h) fun _ h2 =>
    if h2 l0 62 ≤ 320 then
      qz_ck ((0 : Int) < l0) <|
      qz_bn (qz_up h2 l0 3 0) fun h3 =>
      qz_bn (0 : Int) fun x4 =>
      fn_Md_print_166 qz_NF l0 x4 h3
    else
      qz_bc (fn_Md_raise l0 1 h2) fun r5 h6 =>
      some (r5, h6)
  else
    qz_bc (fn_Md_out l0 40 h) fun _ h8 =>
    qz_bc (fn_Md_outLong l0 1718972003 h8) fun _ h10 =>
    qz_ck ((h10 l0 8 : Int) ≠ 0) <|
    qz_ck ((0 : Int) ≤ l1 ∧ l1 < h10 (h10 l0 8) (-1)) <|
    qz_bc (fn_Md_outRow l0 482671223149 l1 0 (h10 (h10 l0 8) l1) h10) fun _ h12 =>
    qz_ck ((h12 l0 10 : Int) ≠ 0) <|
    qz_ck ((0 : Int) ≤ l1 ∧ l1 < h12 (h12 l0 10) (-1)) <|
    if h12 (h12 l0 10) l1 ≤ 0 then
      fn_Md_print_75 k20 l0 l1 h12
    else
      qz_ck ((h12 l0 10 : Int) ≠ 0) <|
      qz_ck ((0 : Int) ≤ l1 ∧ l1 < h12 (h12 l0 10) (-1)) <|
      qz_bc (fn_Md_outResult l0 (h12 (h12 l0 10) l1) h12) fun _ h14 =>
      fn_Md_print_75 k20 l0 l1 h14
def fn_Md_print_20 : Nat → Int → Int → qz_H → Option qz_R
  | 0, _, _, _ => none
  | n + 1, l0, l1, h => fn_Md_print_20_b (fn_Md_print_20 n) l0 l1 h
set_option maxRecDepth 20000 in
def fn_Md_print (l0 : Int) (h : qz_H) : Option qz_R :=
  qz_ck ((0 : Int) < l0) <|
  qz_bn (qz_up h l0 62 0) fun h1 =>
  qz_bc (fn_Md_out l0 40 h1) fun _ h3 =>
  qz_bc (fn_Md_outLong l0 120325194214501 h3) fun _ h5 =>
  qz_bn (0 : Int) fun x6 =>
  fn_Md_print_20 qz_NF l0 x6 h5
def bk_Md_print_0 : List (Instr × Nat) := [(.aload_n 0, 1), (.iconst 0, 1), (.putfield 530, 3), (.aload_n 0, 1), (.bipush 40, 2), (.invokevirtual 533, 3), (.aload_n 0, 1), (.ldc2_w 313, 3), (.invokevirtual 540, 3), (.iconst 0, 1), (.istore_n 1, 1)]
def bk_Md_print_20 : List (Instr × Nat) := [(.iload_n 1, 1), (.aload_n 0, 1), (.getfield 458, 3), (.if_icmp .ge 112, 3), (.aload_n 0, 1), (.bipush 40, 2), (.invokevirtual 533, 3), (.aload_n 0, 1), (.ldc2_w 318, 3), (.invokevirtual 540, 3), (.aload_n 0, 1), (.ldc2_w 323, 3), (.iload_n 1, 1), (.iconst 0, 1), (.aload_n 0, 1), (.getfield 94, 3), (.iload_n 1, 1), (.iaload, 1), (.invokevirtual 552, 3), (.aload_n 0, 1), (.getfield 100, 3), (.iload_n 1, 1), (.iaload, 1), (.ifCond .le 13, 3), (.aload_n 0, 1), (.aload_n 0, 1), (.getfield 100, 3), (.iload_n 1, 1), (.iaload, 1), (.invokevirtual 549, 3)]
def bk_Md_print_137 : List (Instr × Nat) := [(.aload_n 0, 1), (.bipush 41, 2), (.invokevirtual 533, 3), (.aload_n 0, 1), (.getfield 530, 3), (.sipush 320, 3), (.if_icmp .le 9, 3), (.aload_n 0, 1), (.iconst 1, 1), (.invokevirtual 467, 3), (.ireturn, 1)]
def bk_Md_print_159 : List (Instr × Nat) := [(.aload_n 0, 1), (.iconst 0, 1), (.putfield 206, 3), (.iconst 0, 1), (.istore_n 1, 1)]
def bk_Md_print_166 : List (Instr × Nat) := [(.iload_n 1, 1), (.aload_n 0, 1), (.getfield 530, 3), (.if_icmp .ge 21, 3), (.aload_n 0, 1), (.getfield 90, 3), (.iload_n 1, 1), (.aload_n 0, 1), (.getfield 203, 3), (.iload_n 1, 1), (.caload, 1), (.castore, 1), (.iinc 1 1, 3), (.goto (-23), 3)]
def bk_Md_print_75 : List (Instr × Nat) := [(.aload_n 0, 1), (.ldc2_w 333, 3), (.iload_n 1, 1), (.aload_n 0, 1), (.getfield 94, 3), (.iload_n 1, 1), (.iaload, 1), (.aload_n 0, 1), (.getfield 97, 3), (.iload_n 1, 1), (.iaload, 1), (.invokevirtual 552, 3), (.aload_n 0, 1), (.getfield 106, 3), (.iload_n 1, 1), (.iaload, 1), (.istore_n 2, 1)]
def bk_Md_print_192 : List (Instr × Nat) := [(.aload_n 0, 1), (.aload_n 0, 1), (.getfield 530, 3), (.putfield 210, 3), (.aload_n 0, 1), (.getfield 210, 3), (.ireturn, 1)]
def bk_Md_print_102 : List (Instr × Nat) := [(.iload_n 2, 1), (.aload_n 0, 1), (.getfield 106, 3), (.iload_n 1, 1), (.iconst 1, 1), (.iadd, 1), (.iaload, 1), (.if_icmp .ge 14, 3), (.aload_n 0, 1), (.iload_n 2, 1), (.invokevirtual 556, 3), (.iinc 2 1, 3), (.goto (-20), 3)]
def bk_Md_print_125 : List (Instr × Nat) := [(.aload_n 0, 1), (.bipush 41, 2), (.invokevirtual 533, 3), (.iinc 1 1, 3), (.goto (-114), 3)]
theorem ca_Md_print_0 : qz_ca yd_Md_print.2.1 0 bk_Md_print_0 := qz_cab_ok _ _ (by decide +kernel)
theorem ca_Md_print_20 : qz_ca yd_Md_print.2.1 20 bk_Md_print_20 := qz_cab_ok _ _ (by decide +kernel)
theorem ca_Md_print_137 : qz_ca yd_Md_print.2.1 137 bk_Md_print_137 := qz_cab_ok _ _ (by decide +kernel)
theorem ca_Md_print_159 : qz_ca yd_Md_print.2.1 159 bk_Md_print_159 := qz_cab_ok _ _ (by decide +kernel)
theorem ca_Md_print_166 : qz_ca yd_Md_print.2.1 166 bk_Md_print_166 := qz_cab_ok _ _ (by decide +kernel)
theorem ca_Md_print_75 : qz_ca yd_Md_print.2.1 75 bk_Md_print_75 := qz_cab_ok _ _ (by decide +kernel)
theorem ca_Md_print_192 : qz_ca yd_Md_print.2.1 192 bk_Md_print_192 := qz_cab_ok _ _ (by decide +kernel)
theorem ca_Md_print_102 : qz_ca yd_Md_print.2.1 102 bk_Md_print_102 := qz_cab_ok _ _ (by decide +kernel)
theorem ca_Md_print_125 : qz_ca yd_Md_print.2.1 125 bk_Md_print_125 := qz_cab_ok _ _ (by decide +kernel)
set_option maxRecDepth 20000 in
theorem jb_Md_print_166_b (G : qz_G) (k166 : Int → Int → qz_H → Option qz_R) (jk166 : ∀ (l0 : Int) (l1 : Int) (h : qz_H), qz_J yd_Md_print G bk_Md_print_166 166 [qz_r true 12 l0, qz_i l1, qz_u] [] h 0 0 (k166 l0 l1 h)) (l0 : Int) (l1 : Int) (h : qz_H) : qz_J yd_Md_print G bk_Md_print_166 166 [qz_r true 12 l0, qz_i l1, qz_u] [] h 0 0 (fn_Md_print_166_b k166 l0 l1 h) := by
  unfold fn_Md_print_166_b bk_Md_print_166; exact
    qz_iload_n rfl <|
    qz_aload_n rfl <|
    qz_getI kg_12 fl_Md_530 rfl rfl <|
    qz_icmp_ge rfl ca_Md_print_192
      (qz_aload_n rfl <|
        qz_aload_n rfl <|
        qz_getI kg_12 fl_Md_530 rfl rfl <|
        qz_putI kw_12 fp_Md_210_Md_print rfl rfl fun h1 =>
        qz_aload_n rfl <|
        qz_getI kg_12 fl_Md_210 rfl rfl <|
        qz_ireturn ⟨rfl, rfl⟩ rfl)
      (qz_aload_n rfl <|
        qz_getR (k1 := 42) kg_12 fl_Md_90 rfl rfl <|
        qz_iload_n rfl <|
        qz_aload_n rfl <|
        qz_getR (k1 := 42) kg_12 fl_Md_203 rfl rfl <|
        qz_iload_n rfl <|
        qz_nnd 1 rfl <|
        qz_cald (k0 := 42) rfl rfl rfl <|
        qz_nnd 2 rfl <|
        qz_cast rfl rfl rfl fun h2 =>
        qz_iinc rfl (by decide) fun x3 =>
        qz_goto rfl ca_Md_print_166 <|
        qz_fgt [1, 1, 0] <| jk166 l0 x3 h2)
theorem jb_Md_print_166 (G : qz_G) : ∀ (n : Nat) (l0 l1 : Int) (h : qz_H), qz_J yd_Md_print G bk_Md_print_166 166 [qz_r true 12 l0, qz_i l1, qz_u] [] h 0 0 (fn_Md_print_166 n l0 l1 h)
  | 0, _, _, _ => qz_none
  | n + 1, l0, l1, h => jb_Md_print_166_b G (fn_Md_print_166 n) (jb_Md_print_166 G n) l0 l1 h
set_option maxRecDepth 20000 in
theorem jb_Md_print_102_b (G : qz_G) (k20 : Int → Int → qz_H → Option qz_R) (jk20 : ∀ (l0 : Int) (l1 : Int) (h : qz_H), qz_J yd_Md_print G bk_Md_print_20 20 [qz_r true 12 l0, qz_i l1, qz_u] [] h 0 0 (k20 l0 l1 h)) (k102 : Int → Int → Int → qz_H → Option qz_R) (jk102 : ∀ (l0 : Int) (l1 : Int) (l2 : Int) (h : qz_H), qz_J yd_Md_print G bk_Md_print_102 102 [qz_r true 12 l0, qz_i l1, qz_i l2] [] h 0 0 (k102 l0 l1 l2 h)) (l0 : Int) (l1 : Int) (l2 : Int) (h : qz_H) : qz_J yd_Md_print G bk_Md_print_102 102 [qz_r true 12 l0, qz_i l1, qz_i l2] [] h 0 0 (fn_Md_print_102_b k20 k102 l0 l1 l2 h) := by
  unfold fn_Md_print_102_b bk_Md_print_102; exact
    qz_iload_n rfl <|
    qz_aload_n rfl <|
    qz_getR (k1 := 40) kg_12 fl_Md_106 rfl rfl <|
    qz_iload_n rfl <|
    qz_iconst rfl <|
    qz_iadd <|
    qz_nnd 1 rfl <|
    qz_iald (k0 := 40) rfl rfl rfl <|
    qz_icmp_ge rfl ca_Md_print_125
      (qz_aload_n rfl <|
        qz_bipush rfl <|
        qz_invvV [qz_i 41] rfl (cn_Md_out l0 41 h) mw_Md_out vw_Md_out ⟨_, rfl, rfl, by decide⟩ rfl rfl ln_Md_533 rfl fun _ h2 =>
        qz_iinc rfl (by decide) fun x3 =>
        qz_goto rfl ca_Md_print_20 <|
        qz_fgt [1, 1, 0] <| jk20 l0 x3 h2)
      (qz_aload_n rfl <|
        qz_iload_n rfl <|
        qz_invvV [qz_i l2] rfl (cn_Md_outInstruction l0 l2 h) mw_Md_outInstruction vw_Md_outInstruction ⟨_, rfl, rfl, by decide⟩ rfl rfl ln_Md_556 rfl fun _ h5 =>
        qz_iinc rfl (by decide) fun x6 =>
        qz_goto rfl ca_Md_print_102 <|
        qz_fgt [1, 1, 1] <| jk102 l0 l1 x6 h5)
theorem jb_Md_print_102 (G : qz_G) (k20 : Int → Int → qz_H → Option qz_R) (jk20 : ∀ (l0 : Int) (l1 : Int) (h : qz_H), qz_J yd_Md_print G bk_Md_print_20 20 [qz_r true 12 l0, qz_i l1, qz_u] [] h 0 0 (k20 l0 l1 h)) : ∀ (n : Nat) (l0 l1 l2 : Int) (h : qz_H), qz_J yd_Md_print G bk_Md_print_102 102 [qz_r true 12 l0, qz_i l1, qz_i l2] [] h 0 0 (fn_Md_print_102 k20 n l0 l1 l2 h)
  | 0, _, _, _, _ => qz_none
  | n + 1, l0, l1, l2, h => jb_Md_print_102_b G k20 jk20 (fn_Md_print_102 k20 n) (jb_Md_print_102 G k20 jk20 n) l0 l1 l2 h
set_option maxRecDepth 20000 in
theorem jb_Md_print_75 (G : qz_G) (k20 : Int → Int → qz_H → Option qz_R) (jk20 : ∀ (l0 : Int) (l1 : Int) (h : qz_H), qz_J yd_Md_print G bk_Md_print_20 20 [qz_r true 12 l0, qz_i l1, qz_u] [] h 0 0 (k20 l0 l1 h)) (l0 : Int) (l1 : Int) (h : qz_H) : qz_J yd_Md_print G bk_Md_print_75 75 [qz_r true 12 l0, qz_i l1, qz_u] [] h 0 0 (fn_Md_print_75 k20 l0 l1 h) := by
  unfold fn_Md_print_75 bk_Md_print_75; exact
    qz_aload_n rfl <|
    qz_ldc2 wc_Md_333 rfl <|
    qz_iload_n rfl <|
    qz_aload_n rfl <|
    qz_getR (k1 := 40) kg_12 fl_Md_94 rfl rfl <|
    qz_iload_n rfl <|
    qz_nnd 1 rfl <|
    qz_iald (k0 := 40) rfl rfl rfl <|
    qz_aload_n rfl <|
    qz_getR (k1 := 40) kg_12 fl_Md_97 rfl rfl <|
    qz_iload_n rfl <|
    qz_nnd 1 rfl <|
    qz_iald (k0 := 40) rfl rfl rfl <|
    qz_invvV [qz_j 465725251948, qz_i l1, qz_i (h (h l0 8) l1), qz_i (h (h l0 9) l1)] rfl (cn_Md_outRow l0 465725251948 l1 (h (h l0 8) l1) (h (h l0 9) l1) h) mw_Md_outRow vw_Md_outRow ⟨_, rfl, rfl, by decide⟩ rfl rfl ln_Md_552 rfl fun _ h2 =>
    qz_aload_n rfl <|
    qz_getR (k1 := 40) kg_12 fl_Md_106 rfl rfl <|
    qz_iload_n rfl <|
    qz_nnd 1 rfl <|
    qz_iald (k0 := 40) rfl rfl rfl <|
    qz_istore_n (by decide) fun x3 =>
    qz_fall rfl ca_Md_print_102 <|
    qz_fgt [1, 1, 1] <| jb_Md_print_102 G k20 jk20 qz_NF l0 l1 x3 h2
set_option maxRecDepth 20000 in
theorem jb_Md_print_20_b (G : qz_G) (k20 : Int → Int → qz_H → Option qz_R) (jk20 : ∀ (l0 : Int) (l1 : Int) (h : qz_H), qz_J yd_Md_print G bk_Md_print_20 20 [qz_r true 12 l0, qz_i l1, qz_u] [] h 0 0 (k20 l0 l1 h)) (l0 : Int) (l1 : Int) (h : qz_H) : qz_J yd_Md_print G bk_Md_print_20 20 [qz_r true 12 l0, qz_i l1, qz_u] [] h 0 0 (fn_Md_print_20_b k20 l0 l1 h) := by
  unfold fn_Md_print_20_b bk_Md_print_20; exact
    qz_iload_n rfl <|
    qz_aload_n rfl <|
    qz_getI kg_12 fl_Md_458 rfl rfl <|
    qz_icmp_ge rfl ca_Md_print_137
      (qz_aload_n rfl <|
        qz_bipush rfl <|
        qz_invvV [qz_i 41] rfl (cn_Md_out l0 41 h) mw_Md_out vw_Md_out ⟨_, rfl, rfl, by decide⟩ rfl rfl ln_Md_533 rfl fun _ h2 =>
        qz_aload_n rfl <|
        qz_getI kg_12 fl_Md_530 rfl rfl <|
        qz_sipush rfl <|
        qz_icmp_le rfl ca_Md_print_159
          (qz_aload_n rfl <|
            qz_iconst rfl <|
            qz_putI kw_12 fp_Md_206_Md_print rfl rfl fun h3 =>
            qz_iconst rfl <|
            qz_istore_n (by decide) fun x4 =>
            qz_fall rfl ca_Md_print_166 <|
            qz_fgt [1, 1, 0] <| jb_Md_print_166 G qz_NF l0 x4 h3)
          (qz_aload_n rfl <|
            qz_iconst rfl <|
            qz_invvI [qz_i 1] rfl (cn_Md_raise l0 1 h2) mw_Md_raise vw_Md_raise ⟨_, rfl, rfl, by decide⟩ rfl rfl ln_Md_467 rfl fun r5 h6 =>
            qz_ireturn ⟨rfl, rfl⟩ rfl))
      (qz_aload_n rfl <|
        qz_bipush rfl <|
        qz_invvV [qz_i 40] rfl (cn_Md_out l0 40 h) mw_Md_out vw_Md_out ⟨_, rfl, rfl, by decide⟩ rfl rfl ln_Md_533 rfl fun _ h8 =>
        qz_aload_n rfl <|
        qz_ldc2 wc_Md_318 rfl <|
        qz_invvV [qz_j 1718972003] rfl (cn_Md_outLong l0 1718972003 h8) mw_Md_outLong vw_Md_outLong ⟨_, rfl, rfl, by decide⟩ rfl rfl ln_Md_540 rfl fun _ h10 =>
        qz_aload_n rfl <|
        qz_ldc2 wc_Md_323 rfl <|
        qz_iload_n rfl <|
        qz_iconst rfl <|
        qz_aload_n rfl <|
        qz_getR (k1 := 40) kg_12 fl_Md_94 rfl rfl <|
        qz_iload_n rfl <|
        qz_nnd 1 rfl <|
        qz_iald (k0 := 40) rfl rfl rfl <|
        qz_invvV [qz_j 482671223149, qz_i l1, qz_i 0, qz_i (h10 (h10 l0 8) l1)] rfl (cn_Md_outRow l0 482671223149 l1 0 (h10 (h10 l0 8) l1) h10) mw_Md_outRow vw_Md_outRow ⟨_, rfl, rfl, by decide⟩ rfl rfl ln_Md_552 rfl fun _ h12 =>
        qz_aload_n rfl <|
        qz_getR (k1 := 40) kg_12 fl_Md_100 rfl rfl <|
        qz_iload_n rfl <|
        qz_nnd 1 rfl <|
        qz_iald (k0 := 40) rfl rfl rfl <|
        qz_if_le rfl ca_Md_print_75
          (qz_fgt [1, 1, 0] <| jb_Md_print_75 G k20 jk20 l0 l1 h12)
          (qz_aload_n rfl <|
            qz_aload_n rfl <|
            qz_getR (k1 := 40) kg_12 fl_Md_100 rfl rfl <|
            qz_iload_n rfl <|
            qz_nnd 1 rfl <|
            qz_iald (k0 := 40) rfl rfl rfl <|
            qz_invvV [qz_i (h12 (h12 l0 10) l1)] rfl (cn_Md_outResult l0 (h12 (h12 l0 10) l1) h12) mw_Md_outResult vw_Md_outResult ⟨_, rfl, rfl, by decide⟩ rfl rfl ln_Md_549 rfl fun _ h14 =>
            qz_fall rfl ca_Md_print_75 <|
            qz_fgt [1, 1, 0] <| jb_Md_print_75 G k20 jk20 l0 l1 h14))
theorem jb_Md_print_20 (G : qz_G) : ∀ (n : Nat) (l0 l1 : Int) (h : qz_H), qz_J yd_Md_print G bk_Md_print_20 20 [qz_r true 12 l0, qz_i l1, qz_u] [] h 0 0 (fn_Md_print_20 n l0 l1 h)
  | 0, _, _, _ => qz_none
  | n + 1, l0, l1, h => jb_Md_print_20_b G (fn_Md_print_20 n) (jb_Md_print_20 G n) l0 l1 h
set_option maxRecDepth 20000 in
theorem cn_Md_print (l0 : Int) (h : qz_H) : qz_C yd_Md_print [qz_r true 12 l0] h (fn_Md_print l0 h) := by
  refine qz_con (is := bk_Md_print_0) (ls := [qz_r true 12 l0, qz_u, qz_u]) mw_Md_print.2.2.2 ca_Md_print_0 rfl rfl rfl fun G => ?_
  unfold fn_Md_print bk_Md_print_0; exact
    qz_aload_n rfl <|
    qz_iconst rfl <|
    qz_putI kw_12 fp_Md_530_Md_print rfl rfl fun h1 =>
    qz_aload_n rfl <|
    qz_bipush rfl <|
    qz_invvV [qz_i 40] rfl (cn_Md_out l0 40 h1) mw_Md_out vw_Md_out ⟨_, rfl, rfl, by decide⟩ rfl rfl ln_Md_533 rfl fun _ h3 =>
    qz_aload_n rfl <|
    qz_ldc2 wc_Md_313 rfl <|
    qz_invvV [qz_j 120325194214501] rfl (cn_Md_outLong l0 120325194214501 h3) mw_Md_outLong vw_Md_outLong ⟨_, rfl, rfl, by decide⟩ rfl rfl ln_Md_540 rfl fun _ h5 =>
    qz_iconst rfl <|
    qz_istore_n (by decide) fun x6 =>
    qz_fall rfl ca_Md_print_20 <|
    qz_fgt [1, 1, 0] <| jb_Md_print_20 G qz_NF l0 x6 h5
set_option maxRecDepth 20000 in
def fn_Md_place (l0 : Int) (h : qz_H) : Option qz_R :=
  qz_ck ((0 : Int) < l0) <|
  qz_bn (qz_up h l0 3 0) fun h1 =>
  some (h1 l0 4, h1)
def bk_Md_place_0 : List (Instr × Nat) := [(.aload_n 0, 1), (.iconst 0, 1), (.putfield 206, 3), (.aload_n 0, 1), (.getfield 455, 3), (.ireturn, 1)]
theorem ca_Md_place_0 : qz_ca yd_Md_place.2.1 0 bk_Md_place_0 := qz_cab_ok _ _ (by decide +kernel)
set_option maxRecDepth 20000 in
theorem cn_Md_place (l0 : Int) (h : qz_H) : qz_C yd_Md_place [qz_r true 12 l0] h (fn_Md_place l0 h) := by
  refine qz_con (is := bk_Md_place_0) (ls := [qz_r true 12 l0]) mw_Md_place.2.2.2 ca_Md_place_0 rfl rfl rfl fun G => ?_
  unfold fn_Md_place bk_Md_place_0; exact
    qz_aload_n rfl <|
    qz_iconst rfl <|
    qz_putI kw_12 fp_Md_206_Md_place rfl rfl fun h1 =>
    qz_aload_n rfl <|
    qz_getI kg_12 fl_Md_455 rfl rfl <|
    qz_ireturn ⟨rfl, rfl⟩ rfl
set_option maxRecDepth 20000 in
def fn_Md_functions (l0 : Int) (h : qz_H) : Option qz_R :=
  qz_ck ((0 : Int) < l0) <|
  qz_bn (qz_up h l0 3 0) fun h1 =>
  some (h1 l0 7, h1)
def bk_Md_functions_0 : List (Instr × Nat) := [(.aload_n 0, 1), (.iconst 0, 1), (.putfield 206, 3), (.aload_n 0, 1), (.getfield 458, 3), (.ireturn, 1)]
theorem ca_Md_functions_0 : qz_ca yd_Md_functions.2.1 0 bk_Md_functions_0 := qz_cab_ok _ _ (by decide +kernel)
set_option maxRecDepth 20000 in
theorem cn_Md_functions (l0 : Int) (h : qz_H) : qz_C yd_Md_functions [qz_r true 12 l0] h (fn_Md_functions l0 h) := by
  refine qz_con (is := bk_Md_functions_0) (ls := [qz_r true 12 l0]) mw_Md_functions.2.2.2 ca_Md_functions_0 rfl rfl rfl fun G => ?_
  unfold fn_Md_functions bk_Md_functions_0; exact
    qz_aload_n rfl <|
    qz_iconst rfl <|
    qz_putI kw_12 fp_Md_206_Md_functions rfl rfl fun h1 =>
    qz_aload_n rfl <|
    qz_getI kg_12 fl_Md_458 rfl rfl <|
    qz_ireturn ⟨rfl, rfl⟩ rfl
def fn_Md_isFunction_17 (s0 : Int) (h : qz_H) : Option qz_R :=
  qz_ck ((s0 : Int) = 0 ∨ (s0 : Int) = 1) (some (s0, h))
def fn_Md_isFunction_16 (h : qz_H) : Option qz_R :=
  fn_Md_isFunction_17 0 h
set_option maxRecDepth 20000 in
def fn_Md_isFunction (l0 : Int) (l1 : Int) (h : qz_H) : Option qz_R :=
  if l1 < 0 then
    fn_Md_isFunction_16 h
  else
    if h l0 7 ≤ l1 then
      fn_Md_isFunction_16 h
    else
      fn_Md_isFunction_17 1 h
def bk_Md_isFunction_0 : List (Instr × Nat) := [(.iload_n 1, 1), (.ifCond .lt 15, 3), (.iload_n 1, 1), (.aload_n 0, 1), (.getfield 458, 3), (.if_icmp .ge 7, 3), (.iconst 1, 1), (.goto 4, 3)]
def bk_Md_isFunction_16 : List (Instr × Nat) := [(.iconst 0, 1)]
def bk_Md_isFunction_17 : List (Instr × Nat) := [(.ireturn, 1)]
theorem ca_Md_isFunction_0 : qz_ca yd_Md_isFunction.2.1 0 bk_Md_isFunction_0 := qz_cab_ok _ _ (by decide +kernel)
theorem ca_Md_isFunction_16 : qz_ca yd_Md_isFunction.2.1 16 bk_Md_isFunction_16 := qz_cab_ok _ _ (by decide +kernel)
theorem ca_Md_isFunction_17 : qz_ca yd_Md_isFunction.2.1 17 bk_Md_isFunction_17 := qz_cab_ok _ _ (by decide +kernel)
set_option maxRecDepth 20000 in
theorem jb_Md_isFunction_17 (G : qz_G) (s0 : Int) (h : qz_H) : qz_J yd_Md_isFunction G bk_Md_isFunction_17 17 [qz_u, qz_u] [qz_i s0] h 0 0 (fn_Md_isFunction_17 s0 h) := by
  unfold fn_Md_isFunction_17 bk_Md_isFunction_17; exact
    qz_zreturn ⟨rfl, rfl⟩ rfl
set_option maxRecDepth 20000 in
theorem jb_Md_isFunction_16 (G : qz_G) (h : qz_H) : qz_J yd_Md_isFunction G bk_Md_isFunction_16 16 [qz_u, qz_u] [] h 0 0 (fn_Md_isFunction_16 h) := by
  unfold fn_Md_isFunction_16 bk_Md_isFunction_16; exact
    qz_iconst rfl <|
    qz_fall rfl ca_Md_isFunction_17 <|
    qz_fgt [0, 0] <| jb_Md_isFunction_17 G 0 h
set_option maxRecDepth 20000 in
theorem cn_Md_isFunction (l0 : Int) (l1 : Int) (h : qz_H) : qz_C yd_Md_isFunction [qz_r true 12 l0, qz_i l1] h (fn_Md_isFunction l0 l1 h) := by
  refine qz_con (is := bk_Md_isFunction_0) (ls := [qz_r true 12 l0, qz_i l1]) mw_Md_isFunction.2.2.2 ca_Md_isFunction_0 rfl rfl rfl fun G => ?_
  unfold fn_Md_isFunction bk_Md_isFunction_0; exact
    qz_iload_n rfl <|
    qz_if_lt rfl ca_Md_isFunction_16
      (qz_fgt [0, 0] <| jb_Md_isFunction_16 G h)
      (qz_iload_n rfl <|
        qz_aload_n rfl <|
        qz_getI kg_12 fl_Md_458 rfl rfl <|
        qz_icmp_ge rfl ca_Md_isFunction_16
          (qz_fgt [0, 0] <| jb_Md_isFunction_16 G h)
          (qz_iconst rfl <|
            qz_goto rfl ca_Md_isFunction_17 <|
            qz_fgt [0, 0] <| jb_Md_isFunction_17 G 1 h))
def fn_Md_function_23 (h : qz_H) : Option qz_R :=
  some ((-1), h)
def fn_Md_function_116 (s0 : Int) (h : qz_H) : Option qz_R :=
  some (s0, h)
def fn_Md_function_59 (s0 : Int) (h : qz_H) : Option qz_R :=
  some (s0, h)
set_option maxRecDepth 20000 in
def fn_Md_function (l0 : Int) (l1 : Int) (l2 : Int) (h : qz_H) : Option qz_R :=
  qz_ck ((0 : Int) < l0) <|
  qz_bn (qz_up h l0 3 0) fun h1 =>
  qz_bc (fn_Md_isFunction l0 l1 h1) fun r2 h3 =>
  if r2 = 0 then
    fn_Md_function_23 h3
  else
    if l2 < 0 then
      fn_Md_function_23 h3
    else
      if l2 ≤ 11 then
        if l2 ≤ 3 then
          if ¬ l2 = 0 then
            if ¬ l2 = 1 then
              if ¬ l2 = 2 then
                qz_ck ((h3 l0 12 : Int) ≠ 0) <|
                qz_ck ((0 : Int) ≤ qz_w (l1 + 1) ∧ qz_w (l1 + 1) < h3 (h3 l0 12) (-1)) <|
                qz_ck ((h3 l0 12 : Int) ≠ 0) <|
                qz_ck ((0 : Int) ≤ l1 ∧ l1 < h3 (h3 l0 12) (-1)) <|
                fn_Md_function_116 (qz_w ((h3 (h3 l0 12) (qz_w (l1 + 1))) - (h3 (h3 l0 12) l1))) h3
              else
                qz_ck ((h3 l0 10 : Int) ≠ 0) <|
                qz_ck ((0 : Int) ≤ l1 ∧ l1 < h3 (h3 l0 10) (-1)) <|
                fn_Md_function_116 (h3 (h3 l0 10) l1) h3
            else
              qz_ck ((h3 l0 9 : Int) ≠ 0) <|
              qz_ck ((0 : Int) ≤ l1 ∧ l1 < h3 (h3 l0 9) (-1)) <|
              fn_Md_function_116 (h3 (h3 l0 9) l1) h3
          else
            qz_ck ((h3 l0 8 : Int) ≠ 0) <|
            qz_ck ((0 : Int) ≤ l1 ∧ l1 < h3 (h3 l0 8) (-1)) <|
            fn_Md_function_116 (h3 (h3 l0 8) l1) h3
        else
          qz_ck ((h3 l0 9 : Int) ≠ 0) <|
          qz_ck ((0 : Int) ≤ l1 ∧ l1 < h3 (h3 l0 9) (-1)) <|
          if h3 (h3 l0 9) l1 ≤ qz_w (l2 - 4) then
            fn_Md_function_59 (-1) h3
          else
            qz_ck ((h3 l0 11 : Int) ≠ 0) <|
            qz_ck ((0 : Int) ≤ qz_w ((qz_w ((qz_w (8 * l1)) + l2)) - 4) ∧ qz_w ((qz_w ((qz_w (8 * l1)) + l2)) - 4) < h3 (h3 l0 11) (-1)) <|
            fn_Md_function_59 (h3 (h3 l0 11) (qz_w ((qz_w ((qz_w (8 * l1)) + l2)) - 4))) h3
      else
        fn_Md_function_23 h3
def bk_Md_function_0 : List (Instr × Nat) := [(.aload_n 0, 1), (.iconst 0, 1), (.putfield 206, 3), (.aload_n 0, 1), (.iload_n 1, 1), (.invokevirtual 559, 3), (.ifCond .eq 13, 3), (.iload_n 2, 1), (.ifCond .lt 9, 3), (.iload_n 2, 1), (.bipush 11, 2), (.if_icmp .le 5, 3)]
def bk_Md_function_23 : List (Instr × Nat) := [(.iconst (-1), 1), (.ireturn, 1)]
def bk_Md_function_25 : List (Instr × Nat) := [(.iload_n 2, 1), (.iconst 3, 1), (.if_icmp .le 33, 3), (.iload_n 2, 1), (.iconst 4, 1), (.isub, 1), (.aload_n 0, 1), (.getfield 97, 3), (.iload_n 1, 1), (.iaload, 1), (.if_icmp .ge 19, 3), (.aload_n 0, 1), (.getfield 103, 3), (.bipush 8, 2), (.iload_n 1, 1), (.imul, 1), (.iload_n 2, 1), (.iadd, 1), (.iconst 4, 1), (.isub, 1), (.iaload, 1), (.goto 4, 3)]
def bk_Md_function_60 : List (Instr × Nat) := [(.iload_n 2, 1), (.ifCond .ne 12, 3), (.aload_n 0, 1), (.getfield 94, 3), (.iload_n 1, 1), (.iaload, 1), (.goto 46, 3)]
def bk_Md_function_73 : List (Instr × Nat) := [(.iload_n 2, 1), (.iconst 1, 1), (.if_icmp .ne 12, 3), (.aload_n 0, 1), (.getfield 97, 3), (.iload_n 1, 1), (.iaload, 1), (.goto 32, 3)]
def bk_Md_function_87 : List (Instr × Nat) := [(.iload_n 2, 1), (.iconst 2, 1), (.if_icmp .ne 12, 3), (.aload_n 0, 1), (.getfield 100, 3), (.iload_n 1, 1), (.iaload, 1), (.goto 18, 3)]
def bk_Md_function_101 : List (Instr × Nat) := [(.aload_n 0, 1), (.getfield 106, 3), (.iload_n 1, 1), (.iconst 1, 1), (.iadd, 1), (.iaload, 1), (.aload_n 0, 1), (.getfield 106, 3), (.iload_n 1, 1), (.iaload, 1), (.isub, 1)]
def bk_Md_function_116 : List (Instr × Nat) := [(.ireturn, 1)]
def bk_Md_function_58 : List (Instr × Nat) := [(.iconst (-1), 1)]
def bk_Md_function_59 : List (Instr × Nat) := [(.ireturn, 1)]
theorem ca_Md_function_0 : qz_ca yd_Md_function.2.1 0 bk_Md_function_0 := qz_cab_ok _ _ (by decide +kernel)
theorem ca_Md_function_23 : qz_ca yd_Md_function.2.1 23 bk_Md_function_23 := qz_cab_ok _ _ (by decide +kernel)
theorem ca_Md_function_25 : qz_ca yd_Md_function.2.1 25 bk_Md_function_25 := qz_cab_ok _ _ (by decide +kernel)
theorem ca_Md_function_60 : qz_ca yd_Md_function.2.1 60 bk_Md_function_60 := qz_cab_ok _ _ (by decide +kernel)
theorem ca_Md_function_73 : qz_ca yd_Md_function.2.1 73 bk_Md_function_73 := qz_cab_ok _ _ (by decide +kernel)
theorem ca_Md_function_87 : qz_ca yd_Md_function.2.1 87 bk_Md_function_87 := qz_cab_ok _ _ (by decide +kernel)
theorem ca_Md_function_101 : qz_ca yd_Md_function.2.1 101 bk_Md_function_101 := qz_cab_ok _ _ (by decide +kernel)
theorem ca_Md_function_116 : qz_ca yd_Md_function.2.1 116 bk_Md_function_116 := qz_cab_ok _ _ (by decide +kernel)
theorem ca_Md_function_58 : qz_ca yd_Md_function.2.1 58 bk_Md_function_58 := qz_cab_ok _ _ (by decide +kernel)
theorem ca_Md_function_59 : qz_ca yd_Md_function.2.1 59 bk_Md_function_59 := qz_cab_ok _ _ (by decide +kernel)
set_option maxRecDepth 20000 in
theorem jb_Md_function_23 (G : qz_G) (h : qz_H) : qz_J yd_Md_function G bk_Md_function_23 23 [qz_u, qz_u, qz_u] [] h 0 0 (fn_Md_function_23 h) := by
  unfold fn_Md_function_23 bk_Md_function_23; exact
    qz_iconst rfl <|
    qz_ireturn ⟨rfl, rfl⟩ rfl
set_option maxRecDepth 20000 in
theorem jb_Md_function_116 (G : qz_G) (s0 : Int) (h : qz_H) : qz_J yd_Md_function G bk_Md_function_116 116 [qz_u, qz_u, qz_u] [qz_i s0] h 0 0 (fn_Md_function_116 s0 h) := by
  unfold fn_Md_function_116 bk_Md_function_116; exact
    qz_ireturn ⟨rfl, rfl⟩ rfl
set_option maxRecDepth 20000 in
theorem jb_Md_function_59 (G : qz_G) (s0 : Int) (h : qz_H) : qz_J yd_Md_function G bk_Md_function_59 59 [qz_u, qz_u, qz_u] [qz_i s0] h 0 0 (fn_Md_function_59 s0 h) := by
  unfold fn_Md_function_59 bk_Md_function_59; exact
    qz_ireturn ⟨rfl, rfl⟩ rfl
set_option maxRecDepth 20000 in
theorem cn_Md_function (l0 : Int) (l1 : Int) (l2 : Int) (h : qz_H) : qz_C yd_Md_function [qz_r true 12 l0, qz_i l1, qz_i l2] h (fn_Md_function l0 l1 l2 h) := by
  refine qz_con (is := bk_Md_function_0) (ls := [qz_r true 12 l0, qz_i l1, qz_i l2]) mw_Md_function.2.2.2 ca_Md_function_0 rfl rfl rfl fun G => ?_
  unfold fn_Md_function bk_Md_function_0; exact
    qz_aload_n rfl <|
    qz_iconst rfl <|
    qz_putI kw_12 fp_Md_206_Md_function rfl rfl fun h1 =>
    qz_aload_n rfl <|
    qz_iload_n rfl <|
    qz_invvI [qz_i l1] rfl (cn_Md_isFunction l0 l1 h1) mw_Md_isFunction vw_Md_isFunction ⟨_, rfl, rfl, by decide⟩ rfl rfl ln_Md_559 rfl fun r2 h3 =>
    qz_if_eq rfl ca_Md_function_23
      (qz_fgt [0, 0, 0] <| jb_Md_function_23 G h3)
      (qz_iload_n rfl <|
        qz_if_lt rfl ca_Md_function_23
          (qz_fgt [0, 0, 0] <| jb_Md_function_23 G h3)
          (qz_iload_n rfl <|
            qz_bipush rfl <|
            qz_icmp_le rfl ca_Md_function_25
              (qz_iload_n rfl <|
                qz_iconst rfl <|
                qz_icmp_le rfl ca_Md_function_60
                  (qz_iload_n rfl <|
                    qz_if_ne rfl ca_Md_function_73
                      (qz_iload_n rfl <|
                        qz_iconst rfl <|
                        qz_icmp_ne rfl ca_Md_function_87
                          (qz_iload_n rfl <|
                            qz_iconst rfl <|
                            qz_icmp_ne rfl ca_Md_function_101
                              (qz_aload_n rfl <|
                                qz_getR (k1 := 40) kg_12 fl_Md_106 rfl rfl <|
                                qz_iload_n rfl <|
                                qz_iconst rfl <|
                                qz_iadd <|
                                qz_nnd 1 rfl <|
                                qz_iald (k0 := 40) rfl rfl rfl <|
                                qz_aload_n rfl <|
                                qz_getR (k1 := 40) kg_12 fl_Md_106 rfl rfl <|
                                qz_iload_n rfl <|
                                qz_nnd 1 rfl <|
                                qz_iald (k0 := 40) rfl rfl rfl <|
                                qz_isub <|
                                qz_fall rfl ca_Md_function_116 <|
                                qz_fgt [0, 0, 0] <| jb_Md_function_116 G (qz_w ((h3 (h3 l0 12) (qz_w (l1 + 1))) - (h3 (h3 l0 12) l1))) h3)
                              (qz_aload_n rfl <|
                                qz_getR (k1 := 40) kg_12 fl_Md_100 rfl rfl <|
                                qz_iload_n rfl <|
                                qz_nnd 1 rfl <|
                                qz_iald (k0 := 40) rfl rfl rfl <|
                                qz_goto rfl ca_Md_function_116 <|
                                qz_fgt [0, 0, 0] <| jb_Md_function_116 G (h3 (h3 l0 10) l1) h3))
                          (qz_aload_n rfl <|
                            qz_getR (k1 := 40) kg_12 fl_Md_97 rfl rfl <|
                            qz_iload_n rfl <|
                            qz_nnd 1 rfl <|
                            qz_iald (k0 := 40) rfl rfl rfl <|
                            qz_goto rfl ca_Md_function_116 <|
                            qz_fgt [0, 0, 0] <| jb_Md_function_116 G (h3 (h3 l0 9) l1) h3))
                      (qz_aload_n rfl <|
                        qz_getR (k1 := 40) kg_12 fl_Md_94 rfl rfl <|
                        qz_iload_n rfl <|
                        qz_nnd 1 rfl <|
                        qz_iald (k0 := 40) rfl rfl rfl <|
                        qz_goto rfl ca_Md_function_116 <|
                        qz_fgt [0, 0, 0] <| jb_Md_function_116 G (h3 (h3 l0 8) l1) h3))
                  (qz_iload_n rfl <|
                    qz_iconst rfl <|
                    qz_isub <|
                    qz_aload_n rfl <|
                    qz_getR (k1 := 40) kg_12 fl_Md_97 rfl rfl <|
                    qz_iload_n rfl <|
                    qz_nnd 1 rfl <|
                    qz_iald (k0 := 40) rfl rfl rfl <|
                    qz_icmp_ge rfl ca_Md_function_58
                      (qz_iconst rfl <|
                        qz_fall rfl ca_Md_function_59 <|
                        qz_fgt [0, 0, 0] <| jb_Md_function_59 G (-1) h3)
                      (qz_aload_n rfl <|
                        qz_getR (k1 := 40) kg_12 fl_Md_103 rfl rfl <|
                        qz_bipush rfl <|
                        qz_iload_n rfl <|
                        qz_imul <|
                        qz_iload_n rfl <|
                        qz_iadd <|
                        qz_iconst rfl <|
                        qz_isub <|
                        qz_nnd 1 rfl <|
                        qz_iald (k0 := 40) rfl rfl rfl <|
                        qz_goto rfl ca_Md_function_59 <|
                        qz_fgt [0, 0, 0] <| jb_Md_function_59 G (h3 (h3 l0 11) (qz_w ((qz_w ((qz_w (8 * l1)) + l2)) - 4))) h3)))
              (qz_fall rfl ca_Md_function_23 <|
                qz_fgt [0, 0, 0] <| jb_Md_function_23 G h3)))
def fn_Md_isInstruction_36 (s0 : Int) (h : qz_H) : Option qz_R :=
  qz_ck ((s0 : Int) = 0 ∨ (s0 : Int) = 1) (some (s0, h))
def fn_Md_isInstruction_35 (h : qz_H) : Option qz_R :=
  fn_Md_isInstruction_36 0 h
set_option maxRecDepth 20000 in
def fn_Md_isInstruction (l0 : Int) (l1 : Int) (l2 : Int) (h : qz_H) : Option qz_R :=
  qz_bc (fn_Md_isFunction l0 l1 h) fun r1 h2 =>
  if r1 = 0 then
    fn_Md_isInstruction_35 h2
  else
    if l2 < 0 then
      fn_Md_isInstruction_35 h2
    else
      qz_ck ((h2 l0 12 : Int) ≠ 0) <|
      qz_ck ((0 : Int) ≤ qz_w (l1 + 1) ∧ qz_w (l1 + 1) < h2 (h2 l0 12) (-1)) <|
      qz_ck ((h2 l0 12 : Int) ≠ 0) <|
      qz_ck ((0 : Int) ≤ l1 ∧ l1 < h2 (h2 l0 12) (-1)) <|
      if qz_w ((h2 (h2 l0 12) (qz_w (l1 + 1))) - (h2 (h2 l0 12) l1)) ≤ l2 then
        fn_Md_isInstruction_35 h2
      else
        fn_Md_isInstruction_36 1 h2
def bk_Md_isInstruction_0 : List (Instr × Nat) := [(.aload_n 0, 1), (.iload_n 1, 1), (.invokevirtual 559, 3), (.ifCond .eq 30, 3), (.iload_n 2, 1), (.ifCond .lt 26, 3), (.iload_n 2, 1), (.aload_n 0, 1), (.getfield 106, 3), (.iload_n 1, 1), (.iconst 1, 1), (.iadd, 1), (.iaload, 1), (.aload_n 0, 1), (.getfield 106, 3), (.iload_n 1, 1), (.iaload, 1), (.isub, 1), (.if_icmp .ge 7, 3), (.iconst 1, 1), (.goto 4, 3)]
def bk_Md_isInstruction_35 : List (Instr × Nat) := [(.iconst 0, 1)]
def bk_Md_isInstruction_36 : List (Instr × Nat) := [(.ireturn, 1)]
theorem ca_Md_isInstruction_0 : qz_ca yd_Md_isInstruction.2.1 0 bk_Md_isInstruction_0 := qz_cab_ok _ _ (by decide +kernel)
theorem ca_Md_isInstruction_35 : qz_ca yd_Md_isInstruction.2.1 35 bk_Md_isInstruction_35 := qz_cab_ok _ _ (by decide +kernel)
theorem ca_Md_isInstruction_36 : qz_ca yd_Md_isInstruction.2.1 36 bk_Md_isInstruction_36 := qz_cab_ok _ _ (by decide +kernel)
set_option maxRecDepth 20000 in
theorem jb_Md_isInstruction_36 (G : qz_G) (s0 : Int) (h : qz_H) : qz_J yd_Md_isInstruction G bk_Md_isInstruction_36 36 [qz_u, qz_u, qz_u] [qz_i s0] h 0 0 (fn_Md_isInstruction_36 s0 h) := by
  unfold fn_Md_isInstruction_36 bk_Md_isInstruction_36; exact
    qz_zreturn ⟨rfl, rfl⟩ rfl
set_option maxRecDepth 20000 in
theorem jb_Md_isInstruction_35 (G : qz_G) (h : qz_H) : qz_J yd_Md_isInstruction G bk_Md_isInstruction_35 35 [qz_u, qz_u, qz_u] [] h 0 0 (fn_Md_isInstruction_35 h) := by
  unfold fn_Md_isInstruction_35 bk_Md_isInstruction_35; exact
    qz_iconst rfl <|
    qz_fall rfl ca_Md_isInstruction_36 <|
    qz_fgt [0, 0, 0] <| jb_Md_isInstruction_36 G 0 h
set_option maxRecDepth 20000 in
theorem cn_Md_isInstruction (l0 : Int) (l1 : Int) (l2 : Int) (h : qz_H) : qz_C yd_Md_isInstruction [qz_r true 12 l0, qz_i l1, qz_i l2] h (fn_Md_isInstruction l0 l1 l2 h) := by
  refine qz_con (is := bk_Md_isInstruction_0) (ls := [qz_r true 12 l0, qz_i l1, qz_i l2]) mw_Md_isInstruction.2.2.2 ca_Md_isInstruction_0 rfl rfl rfl fun G => ?_
  unfold fn_Md_isInstruction bk_Md_isInstruction_0; exact
    qz_aload_n rfl <|
    qz_iload_n rfl <|
    qz_invvI [qz_i l1] rfl (cn_Md_isFunction l0 l1 h) mw_Md_isFunction vw_Md_isFunction ⟨_, rfl, rfl, by decide⟩ rfl rfl ln_Md_559 rfl fun r1 h2 =>
    qz_if_eq rfl ca_Md_isInstruction_35
      (qz_fgt [0, 0, 0] <| jb_Md_isInstruction_35 G h2)
      (qz_iload_n rfl <|
        qz_if_lt rfl ca_Md_isInstruction_35
          (qz_fgt [0, 0, 0] <| jb_Md_isInstruction_35 G h2)
          (qz_iload_n rfl <|
            qz_aload_n rfl <|
            qz_getR (k1 := 40) kg_12 fl_Md_106 rfl rfl <|
            qz_iload_n rfl <|
            qz_iconst rfl <|
            qz_iadd <|
            qz_nnd 1 rfl <|
            qz_iald (k0 := 40) rfl rfl rfl <|
            qz_aload_n rfl <|
            qz_getR (k1 := 40) kg_12 fl_Md_106 rfl rfl <|
            qz_iload_n rfl <|
            qz_nnd 1 rfl <|
            qz_iald (k0 := 40) rfl rfl rfl <|
            qz_isub <|
            qz_icmp_ge rfl ca_Md_isInstruction_35
              (qz_fgt [0, 0, 0] <| jb_Md_isInstruction_35 G h2)
              (qz_iconst rfl <|
                qz_goto rfl ca_Md_isInstruction_36 <|
                qz_fgt [0, 0, 0] <| jb_Md_isInstruction_36 G 1 h2)))
def fn_Md_instruction_31 (s0 : Int) (h : qz_H) : Option qz_R :=
  some (s0, h)
set_option maxRecDepth 20000 in
def fn_Md_instruction (l0 : Int) (l1 : Int) (l2 : Int) (h : qz_H) : Option qz_R :=
  qz_ck ((0 : Int) < l0) <|
  qz_bn (qz_up h l0 3 0) fun h1 =>
  qz_bc (fn_Md_isInstruction l0 l1 l2 h1) fun r2 h3 =>
  if r2 = 0 then
    fn_Md_instruction_31 (-1) h3
  else
    qz_ck ((h3 l0 12 : Int) ≠ 0) <|
    qz_ck ((0 : Int) ≤ l1 ∧ l1 < h3 (h3 l0 12) (-1)) <|
    qz_ck ((h3 l0 13 : Int) ≠ 0) <|
    qz_ck ((0 : Int) ≤ qz_w ((h3 (h3 l0 12) l1) + l2) ∧ qz_w ((h3 (h3 l0 12) l1) + l2) < h3 (h3 l0 13) (-1)) <|
    fn_Md_instruction_31 (h3 (h3 l0 13) (qz_w ((h3 (h3 l0 12) l1) + l2))) h3
def bk_Md_instruction_0 : List (Instr × Nat) := [(.aload_n 0, 1), (.iconst 0, 1), (.putfield 206, 3), (.aload_n 0, 1), (.iload_n 1, 1), (.iload_n 2, 1), (.invokevirtual 562, 3), (.ifCond .eq 19, 3), (.aload_n 0, 1), (.getfield 109, 3), (.aload_n 0, 1), (.getfield 106, 3), (.iload_n 1, 1), (.iaload, 1), (.iload_n 2, 1), (.iadd, 1), (.iaload, 1), (.goto 4, 3)]
def bk_Md_instruction_30 : List (Instr × Nat) := [(.iconst (-1), 1)]
def bk_Md_instruction_31 : List (Instr × Nat) := [(.ireturn, 1)]
theorem ca_Md_instruction_0 : qz_ca yd_Md_instruction.2.1 0 bk_Md_instruction_0 := qz_cab_ok _ _ (by decide +kernel)
theorem ca_Md_instruction_30 : qz_ca yd_Md_instruction.2.1 30 bk_Md_instruction_30 := qz_cab_ok _ _ (by decide +kernel)
theorem ca_Md_instruction_31 : qz_ca yd_Md_instruction.2.1 31 bk_Md_instruction_31 := qz_cab_ok _ _ (by decide +kernel)
set_option maxRecDepth 20000 in
theorem jb_Md_instruction_31 (G : qz_G) (s0 : Int) (h : qz_H) : qz_J yd_Md_instruction G bk_Md_instruction_31 31 [qz_u, qz_u, qz_u] [qz_i s0] h 0 0 (fn_Md_instruction_31 s0 h) := by
  unfold fn_Md_instruction_31 bk_Md_instruction_31; exact
    qz_ireturn ⟨rfl, rfl⟩ rfl
set_option maxRecDepth 20000 in
theorem cn_Md_instruction (l0 : Int) (l1 : Int) (l2 : Int) (h : qz_H) : qz_C yd_Md_instruction [qz_r true 12 l0, qz_i l1, qz_i l2] h (fn_Md_instruction l0 l1 l2 h) := by
  refine qz_con (is := bk_Md_instruction_0) (ls := [qz_r true 12 l0, qz_i l1, qz_i l2]) mw_Md_instruction.2.2.2 ca_Md_instruction_0 rfl rfl rfl fun G => ?_
  unfold fn_Md_instruction bk_Md_instruction_0; exact
    qz_aload_n rfl <|
    qz_iconst rfl <|
    qz_putI kw_12 fp_Md_206_Md_instruction rfl rfl fun h1 =>
    qz_aload_n rfl <|
    qz_iload_n rfl <|
    qz_iload_n rfl <|
    qz_invvI [qz_i l1, qz_i l2] rfl (cn_Md_isInstruction l0 l1 l2 h1) mw_Md_isInstruction vw_Md_isInstruction ⟨_, rfl, rfl, by decide⟩ rfl rfl ln_Md_562 rfl fun r2 h3 =>
    qz_if_eq rfl ca_Md_instruction_30
      (qz_iconst rfl <|
        qz_fall rfl ca_Md_instruction_31 <|
        qz_fgt [0, 0, 0] <| jb_Md_instruction_31 G (-1) h3)
      (qz_aload_n rfl <|
        qz_getR (k1 := 40) kg_12 fl_Md_109 rfl rfl <|
        qz_aload_n rfl <|
        qz_getR (k1 := 40) kg_12 fl_Md_106 rfl rfl <|
        qz_iload_n rfl <|
        qz_nnd 1 rfl <|
        qz_iald (k0 := 40) rfl rfl rfl <|
        qz_iload_n rfl <|
        qz_iadd <|
        qz_nnd 1 rfl <|
        qz_iald (k0 := 40) rfl rfl rfl <|
        qz_goto rfl ca_Md_instruction_31 <|
        qz_fgt [0, 0, 0] <| jb_Md_instruction_31 G (h3 (h3 l0 13) (qz_w ((h3 (h3 l0 12) l1) + l2))) h3)
def fn_Md_immediate_31 (s0 : Int) (h : qz_H) : Option qz_R :=
  some (s0, h)
set_option maxRecDepth 20000 in
def fn_Md_immediate (l0 : Int) (l1 : Int) (l2 : Int) (h : qz_H) : Option qz_R :=
  qz_ck ((0 : Int) < l0) <|
  qz_bn (qz_up h l0 3 0) fun h1 =>
  qz_bc (fn_Md_isInstruction l0 l1 l2 h1) fun r2 h3 =>
  if r2 = 0 then
    fn_Md_immediate_31 0 h3
  else
    qz_ck ((h3 l0 12 : Int) ≠ 0) <|
    qz_ck ((0 : Int) ≤ l1 ∧ l1 < h3 (h3 l0 12) (-1)) <|
    qz_ck ((h3 l0 14 : Int) ≠ 0) <|
    qz_ck ((0 : Int) ≤ qz_w ((h3 (h3 l0 12) l1) + l2) ∧ qz_w ((h3 (h3 l0 12) l1) + l2) < h3 (h3 l0 14) (-1)) <|
    fn_Md_immediate_31 (h3 (h3 l0 14) (qz_w ((h3 (h3 l0 12) l1) + l2))) h3
def bk_Md_immediate_0 : List (Instr × Nat) := [(.aload_n 0, 1), (.iconst 0, 1), (.putfield 206, 3), (.aload_n 0, 1), (.iload_n 1, 1), (.iload_n 2, 1), (.invokevirtual 562, 3), (.ifCond .eq 19, 3), (.aload_n 0, 1), (.getfield 112, 3), (.aload_n 0, 1), (.getfield 106, 3), (.iload_n 1, 1), (.iaload, 1), (.iload_n 2, 1), (.iadd, 1), (.laload, 1), (.goto 4, 3)]
def bk_Md_immediate_30 : List (Instr × Nat) := [(.lconst 0, 1)]
def bk_Md_immediate_31 : List (Instr × Nat) := [(.lreturn, 1)]
theorem ca_Md_immediate_0 : qz_ca yd_Md_immediate.2.1 0 bk_Md_immediate_0 := qz_cab_ok _ _ (by decide +kernel)
theorem ca_Md_immediate_30 : qz_ca yd_Md_immediate.2.1 30 bk_Md_immediate_30 := qz_cab_ok _ _ (by decide +kernel)
theorem ca_Md_immediate_31 : qz_ca yd_Md_immediate.2.1 31 bk_Md_immediate_31 := qz_cab_ok _ _ (by decide +kernel)
set_option maxRecDepth 20000 in
theorem jb_Md_immediate_31 (G : qz_G) (s0 : Int) (h : qz_H) : qz_J yd_Md_immediate G bk_Md_immediate_31 31 [qz_u, qz_u, qz_u] [qz_j s0] h 0 0 (fn_Md_immediate_31 s0 h) := by
  unfold fn_Md_immediate_31 bk_Md_immediate_31; exact
    qz_lreturn ⟨rfl, rfl⟩ rfl
set_option maxRecDepth 20000 in
theorem cn_Md_immediate (l0 : Int) (l1 : Int) (l2 : Int) (h : qz_H) : qz_C yd_Md_immediate [qz_r true 12 l0, qz_i l1, qz_i l2] h (fn_Md_immediate l0 l1 l2 h) := by
  refine qz_con (is := bk_Md_immediate_0) (ls := [qz_r true 12 l0, qz_i l1, qz_i l2]) mw_Md_immediate.2.2.2 ca_Md_immediate_0 rfl rfl rfl fun G => ?_
  unfold fn_Md_immediate bk_Md_immediate_0; exact
    qz_aload_n rfl <|
    qz_iconst rfl <|
    qz_putI kw_12 fp_Md_206_Md_immediate rfl rfl fun h1 =>
    qz_aload_n rfl <|
    qz_iload_n rfl <|
    qz_iload_n rfl <|
    qz_invvI [qz_i l1, qz_i l2] rfl (cn_Md_isInstruction l0 l1 l2 h1) mw_Md_isInstruction vw_Md_isInstruction ⟨_, rfl, rfl, by decide⟩ rfl rfl ln_Md_562 rfl fun r2 h3 =>
    qz_if_eq rfl ca_Md_immediate_30
      (qz_lconst rfl <|
        qz_fall rfl ca_Md_immediate_31 <|
        qz_fgt [0, 0, 0] <| jb_Md_immediate_31 G 0 h3)
      (qz_aload_n rfl <|
        qz_getR (k1 := 41) kg_12 fl_Md_112 rfl rfl <|
        qz_aload_n rfl <|
        qz_getR (k1 := 40) kg_12 fl_Md_106 rfl rfl <|
        qz_iload_n rfl <|
        qz_nnd 1 rfl <|
        qz_iald (k0 := 40) rfl rfl rfl <|
        qz_iload_n rfl <|
        qz_iadd <|
        qz_nnd 1 rfl <|
        qz_lald (k0 := 41) rfl rfl rfl <|
        qz_goto rfl ca_Md_immediate_31 <|
        qz_fgt [0, 0, 0] <| jb_Md_immediate_31 G (h3 (h3 l0 14) (qz_w ((h3 (h3 l0 12) l1) + l2))) h3)
def fn_SA_assembleT_61 (l0 : Int) (l1 : Int) (h : qz_H) : Option qz_R :=
  if ¬ l1 = 1 then
    if ¬ l1 = 2 then
      if ¬ l1 = 3 then
        qz_bn (h l0 6 : Int) fun x1 =>
        qz_ck ((0 : Int) < l0) <|
        qz_bn (qz_up h l0 6 (h l0 7)) fun h2 =>
        qz_ck ((0 : Int) < l0) <|
        qz_bn (qz_up h2 l0 7 x1) fun h3 =>
        qz_ck ((h3 l0 6 : Int) ≠ 0) <|
        none
      else
        some (3, qz_th h)
    else
      some (2, qz_th h)
  else
    some (1, qz_th h)
set_option maxRecDepth 20000 in
def fn_SA_assembleT (l0 : Int) (h : qz_H) : Option qz_R :=
  qz_ck ((h l0 0 : Int) ≠ 0) <|
  qz_bc (fn_Reader_read (h l0 0) (h l0 4) (h l0 7) h) fun r1 h2 =>
  qz_bn (r1 : Int) fun x3 =>
  if x3 = 0 then
    qz_ck ((h2 l0 1 : Int) ≠ 0) <|
    qz_bc (fn_Checker_accepts (h2 l0 1) (h2 l0 7) h2) fun r4 h5 =>
    if ¬ r4 = 0 then
      fn_SA_assembleT_61 l0 x3 h5
    else
      qz_bn (3 : Int) fun x6 =>
      qz_ck ((h5 l0 1 : Int) ≠ 0) <|
      qz_ck ((0 : Int) < l0) <|
      qz_bn (qz_up h5 l0 8 (h5 (h5 l0 1) 7)) fun h7 =>
      fn_SA_assembleT_61 l0 x6 h7
  else
    qz_ck ((h2 l0 0 : Int) ≠ 0) <|
    qz_ck ((0 : Int) < l0) <|
    qz_bn (qz_up h2 l0 8 (h2 (h2 l0 0) 9)) fun h8 =>
    fn_SA_assembleT_61 l0 x3 h8
def bk_SA_assembleT_0 : List (Instr × Nat) := [(.aload_n 0, 1), (.getfield 34, 3), (.aload_n 0, 1), (.getfield 10, 3), (.aload_n 0, 1), (.getfield 26, 3), (.invokevirtual 75, 3), (.istore_n 1, 1), (.iload_n 1, 1), (.ifCond .eq 17, 3), (.aload_n 0, 1), (.aload_n 0, 1), (.getfield 34, 3), (.getfield 79, 3), (.putfield 82, 3), (.goto 30, 3)]
def bk_SA_assembleT_34 : List (Instr × Nat) := [(.aload_n 0, 1), (.getfield 43, 3), (.aload_n 0, 1), (.getfield 26, 3), (.invokevirtual 85, 3), (.ifCond .ne 16, 3), (.iconst 3, 1), (.istore_n 1, 1), (.aload_n 0, 1), (.aload_n 0, 1), (.getfield 43, 3), (.getfield 89, 3), (.putfield 82, 3)]
def bk_SA_assembleT_61 : List (Instr × Nat) := [(.iload_n 1, 1), (.iconst 1, 1), (.if_icmp .ne 13, 3), (.new 90, 3), (.dup, 1), (.ldc 92, 2), (.invokespecial 94, 3), (.athrow, 1)]
def bk_SA_assembleT_76 : List (Instr × Nat) := [(.iload_n 1, 1), (.iconst 2, 1), (.if_icmp .ne 13, 3), (.new 97, 3), (.dup, 1), (.ldc 99, 2), (.invokespecial 101, 3), (.athrow, 1)]
def bk_SA_assembleT_91 : List (Instr × Nat) := [(.iload_n 1, 1), (.iconst 3, 1), (.if_icmp .ne 13, 3), (.new 102, 3), (.dup, 1), (.ldc 104, 2), (.invokespecial 106, 3), (.athrow, 1)]
def bk_SA_assembleT_106 : List (Instr × Nat) := [(.aload_n 0, 1), (.getfield 22, 3), (.astore_n 2, 1), (.aload_n 0, 1), (.aload_n 0, 1), (.getfield 26, 3), (.putfield 22, 3), (.aload_n 0, 1), (.aload_n 2, 1), (.putfield 26, 3), (.aload_n 0, 1), (.getfield 22, 3), (.getfield 107, 3), (.ireturn, 1)]
theorem ca_SA_assembleT_0 : qz_ca yd_SA_assembleT.2.1 0 bk_SA_assembleT_0 := qz_cab_ok _ _ (by decide +kernel)
theorem ca_SA_assembleT_34 : qz_ca yd_SA_assembleT.2.1 34 bk_SA_assembleT_34 := qz_cab_ok _ _ (by decide +kernel)
theorem ca_SA_assembleT_61 : qz_ca yd_SA_assembleT.2.1 61 bk_SA_assembleT_61 := qz_cab_ok _ _ (by decide +kernel)
theorem ca_SA_assembleT_76 : qz_ca yd_SA_assembleT.2.1 76 bk_SA_assembleT_76 := qz_cab_ok _ _ (by decide +kernel)
theorem ca_SA_assembleT_91 : qz_ca yd_SA_assembleT.2.1 91 bk_SA_assembleT_91 := qz_cab_ok _ _ (by decide +kernel)
theorem ca_SA_assembleT_106 : qz_ca yd_SA_assembleT.2.1 106 bk_SA_assembleT_106 := qz_cab_ok _ _ (by decide +kernel)
set_option maxRecDepth 20000 in
theorem jb_SA_assembleT_61 (G : qz_G) (l0 : Int) (l1 : Int) (h : qz_H) : qz_J yd_SA_assembleT G bk_SA_assembleT_61 61 [qz_r true 0 l0, qz_i l1, qz_u] [] h 0 0 (fn_SA_assembleT_61 l0 l1 h) := by
  unfold fn_SA_assembleT_61 bk_SA_assembleT_61; exact
    qz_iload_n rfl <|
    qz_iconst rfl <|
    qz_icmp_ne rfl ca_SA_assembleT_76
      (qz_iload_n rfl <|
        qz_iconst rfl <|
        qz_icmp_ne rfl ca_SA_assembleT_91
          (qz_iload_n rfl <|
            qz_iconst rfl <|
            qz_icmp_ne rfl ca_SA_assembleT_106
              (qz_aload_n rfl <|
                qz_getR (k1 := 6) kg_0 fl_SA_22 rfl rfl <|
                qz_astore_n (by decide) fun x1 =>
                qz_aload_n rfl <|
                qz_aload_n rfl <|
                qz_getR (k1 := 6) kg_0 fl_SA_26 rfl rfl <|
                qz_putR (k1 := 6) kw_0 fp_SA_22_SA_assembleT rfl rfl fun h2 =>
                qz_aload_n rfl <|
                qz_aload_n rfl <|
                qz_putR (k1 := 6) kw_0 fp_SA_26_SA_assembleT rfl rfl fun h3 =>
                qz_aload_n rfl <|
                qz_getR (k1 := 6) kg_0 fl_SA_22 rfl rfl <|
                qz_nnd 0 rfl <|
                qz_getI kg_6 fl_SA_107 rfl rfl <|
                qz_none)
              (qz_throw oa_SA_106 rfl nx_SA_102 ss_SA_104 rfl rfl mw_SA_assembleT.1 rfl))
          (qz_throw oa_SA_101 rfl nx_SA_97 ss_SA_99 rfl rfl mw_SA_assembleT.1 rfl))
      (qz_throw oa_SA_94 rfl nx_SA_90 ss_SA_92 rfl rfl mw_SA_assembleT.1 rfl)
set_option maxRecDepth 20000 in
theorem cn_SA_assembleT (l0 : Int) (h : qz_H) : qz_CT yd_SA_assembleT [qz_r true 0 l0] h (fn_SA_assembleT l0 h) := by
  refine qz_conT (is := bk_SA_assembleT_0) (ls := [qz_r true 0 l0, qz_u, qz_u]) mw_SA_assembleT.2.2.2 ca_SA_assembleT_0 rfl rfl rfl fun G => ?_
  unfold fn_SA_assembleT bk_SA_assembleT_0; exact
    qz_aload_n rfl <|
    qz_getR (k1 := 9) kg_0 fl_SA_34 rfl rfl <|
    qz_aload_n rfl <|
    qz_getR (k1 := 11) kg_0 fl_SA_10 rfl rfl <|
    qz_aload_n rfl <|
    qz_getR (k1 := 6) kg_0 fl_SA_26 rfl rfl <|
    qz_nnd 2 rfl <|
    qz_invvI [qz_r false 11 (h l0 4), qz_r false 6 (h l0 7)] rfl (cn_Reader_read (h l0 0) (h l0 4) (h l0 7) h) mw_Reader_read vw_Reader_read ⟨_, rfl, rfl, by decide⟩ rfl rfl ln_SA_75 rfl fun r1 h2 =>
    qz_istore_n (by decide) fun x3 =>
    qz_iload_n rfl <|
    qz_if_eq rfl ca_SA_assembleT_34
      (qz_aload_n rfl <|
        qz_getR (k1 := 1) kg_0 fl_SA_43 rfl rfl <|
        qz_aload_n rfl <|
        qz_getR (k1 := 6) kg_0 fl_SA_26 rfl rfl <|
        qz_nnd 1 rfl <|
        qz_invvI [qz_r false 6 (h2 l0 7)] rfl (cn_Checker_accepts (h2 l0 1) (h2 l0 7) h2) mw_Checker_accepts vw_Checker_accepts ⟨_, rfl, rfl, by decide⟩ rfl rfl ln_SA_85 rfl fun r4 h5 =>
        qz_if_ne rfl ca_SA_assembleT_61
          (qz_fgt [1, 1, 0] <| jb_SA_assembleT_61 G l0 x3 h5)
          (qz_iconst rfl <|
            qz_istore_n (by decide) fun x6 =>
            qz_aload_n rfl <|
            qz_aload_n rfl <|
            qz_getR (k1 := 1) kg_0 fl_SA_43 rfl rfl <|
            qz_nnd 0 rfl <|
            qz_getI kg_1 fl_SA_89 rfl rfl <|
            qz_putI kw_0 fp_SA_82_SA_assembleT rfl rfl fun h7 =>
            qz_fall rfl ca_SA_assembleT_61 <|
            qz_fgt [1, 1, 0] <| jb_SA_assembleT_61 G l0 x6 h7))
      (qz_aload_n rfl <|
        qz_aload_n rfl <|
        qz_getR (k1 := 9) kg_0 fl_SA_34 rfl rfl <|
        qz_nnd 0 rfl <|
        qz_getI kg_9 fl_SA_79 rfl rfl <|
        qz_putI kw_0 fp_SA_82_SA_assembleT rfl rfl fun h8 =>
        qz_goto rfl ca_SA_assembleT_61 <|
        qz_fgt [1, 1, 0] <| jb_SA_assembleT_61 G l0 x3 h8)
set_option maxRecDepth 20000 in
def fn_SA_printT (l0 : Int) (h : qz_H) : Option qz_R :=
  qz_ck ((h l0 3 : Int) ≠ 0) <|
  qz_bc (fn_Printer_write (h l0 3) (h l0 6) (h l0 5) h) fun _ h2 =>
  qz_ck ((h2 l0 5 : Int) ≠ 0) <|
  if h2 (h2 l0 5) 1 ≤ 320 then
    qz_bn (h2 l0 4 : Int) fun x3 =>
    qz_ck ((0 : Int) < l0) <|
    qz_bn (qz_up h2 l0 4 (h2 l0 5)) fun h4 =>
    qz_ck ((0 : Int) < l0) <|
    qz_bn (qz_up h4 l0 5 x3) fun h5 =>
    qz_ck ((h5 l0 4 : Int) ≠ 0) <|
    none
  else
    some (2, qz_th h2)
def bk_SA_printT_0 : List (Instr × Nat) := [(.aload_n 0, 1), (.getfield 59, 3), (.aload_n 0, 1), (.getfield 22, 3), (.aload_n 0, 1), (.getfield 16, 3), (.invokevirtual 117, 3), (.aload_n 0, 1), (.getfield 16, 3), (.getfield 67, 3), (.sipush 320, 3), (.if_icmp .le 13, 3), (.new 97, 3), (.dup, 1), (.ldc 120, 2), (.invokespecial 101, 3), (.athrow, 1)]
def bk_SA_printT_38 : List (Instr × Nat) := [(.aload_n 0, 1), (.getfield 10, 3), (.astore_n 1, 1), (.aload_n 0, 1), (.aload_n 0, 1), (.getfield 16, 3), (.putfield 10, 3), (.aload_n 0, 1), (.aload_n 1, 1), (.putfield 16, 3), (.aload_n 0, 1), (.getfield 10, 3), (.getfield 67, 3), (.ireturn, 1)]
theorem ca_SA_printT_0 : qz_ca yd_SA_printT.2.1 0 bk_SA_printT_0 := qz_cab_ok _ _ (by decide +kernel)
theorem ca_SA_printT_38 : qz_ca yd_SA_printT.2.1 38 bk_SA_printT_38 := qz_cab_ok _ _ (by decide +kernel)
set_option maxRecDepth 20000 in
theorem cn_SA_printT (l0 : Int) (h : qz_H) : qz_CT yd_SA_printT [qz_r true 0 l0] h (fn_SA_printT l0 h) := by
  refine qz_conT (is := bk_SA_printT_0) (ls := [qz_r true 0 l0, qz_u]) mw_SA_printT.2.2.2 ca_SA_printT_0 rfl rfl rfl fun G => ?_
  unfold fn_SA_printT bk_SA_printT_0; exact
    qz_aload_n rfl <|
    qz_getR (k1 := 8) kg_0 fl_SA_59 rfl rfl <|
    qz_aload_n rfl <|
    qz_getR (k1 := 6) kg_0 fl_SA_22 rfl rfl <|
    qz_aload_n rfl <|
    qz_getR (k1 := 11) kg_0 fl_SA_16 rfl rfl <|
    qz_nnd 2 rfl <|
    qz_invvV [qz_r false 6 (h l0 6), qz_r false 11 (h l0 5)] rfl (cn_Printer_write (h l0 3) (h l0 6) (h l0 5) h) mw_Printer_write vw_Printer_write ⟨_, rfl, rfl, by decide⟩ rfl rfl ln_SA_117 rfl fun _ h2 =>
    qz_aload_n rfl <|
    qz_getR (k1 := 11) kg_0 fl_SA_16 rfl rfl <|
    qz_nnd 0 rfl <|
    qz_getI kg_11 fl_SA_67 rfl rfl <|
    qz_sipush rfl <|
    qz_icmp_le rfl ca_SA_printT_38
      (qz_aload_n rfl <|
        qz_getR (k1 := 11) kg_0 fl_SA_10 rfl rfl <|
        qz_astore_n (by decide) fun x3 =>
        qz_aload_n rfl <|
        qz_aload_n rfl <|
        qz_getR (k1 := 11) kg_0 fl_SA_16 rfl rfl <|
        qz_putR (k1 := 11) kw_0 fp_SA_10_SA_printT rfl rfl fun h4 =>
        qz_aload_n rfl <|
        qz_aload_n rfl <|
        qz_putR (k1 := 11) kw_0 fp_SA_16_SA_printT rfl rfl fun h5 =>
        qz_aload_n rfl <|
        qz_getR (k1 := 11) kg_0 fl_SA_10 rfl rfl <|
        qz_nnd 0 rfl <|
        qz_getI kg_11 fl_SA_67 rfl rfl <|
        qz_none)
      (qz_throw oa_SA_101 rfl nx_SA_97 ss_SA_120 rfl rfl mw_SA_printT.1 rfl)
