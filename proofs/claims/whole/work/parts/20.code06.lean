def fn_Printer_writeSlots_61 (l0 : Int) (h : qz_H) : Option qz_R :=
  qz_ck ((h l0 0 : Int) ≠ 0) <|
  qz_bc (fn_Text_add (h l0 0) 41 h) fun _ h2 =>
  some (0, h2)
def fn_Printer_writeSlots_18_b (k18 : Int → Int → Int → Int → qz_H → Option qz_R) (l0 : Int) (l2 : Int) (l4 : Int) (l5 : Int) (h : qz_H) : Option qz_R :=
  if l4 ≤ l5 then
    fn_Printer_writeSlots_61 l0 h
  else
    qz_ck ((l2 : Int) ≠ 0) <|
    qz_bc (fn_Function_hasSlot l2 l5 h) fun r1 h2 =>
    if r1 = 0 then
      fn_Printer_writeSlots_61 l0 h2
    else
      qz_ck ((h2 l0 0 : Int) ≠ 0) <|
      qz_bc (fn_Text_add (h2 l0 0) 32 h2) fun _ h4 =>
      qz_ck ((l2 : Int) ≠ 0) <|
      qz_ck ((h4 l2 0 : Int) ≠ 0) <|
      qz_ck ((0 : Int) ≤ l5 ∧ l5 < h4 (h4 l2 0) (-1)) <|
      qz_bc (fn_Printer_writeType l0 (h4 (h4 l2 0) l5) h4) fun _ h6 =>
      qz_bn (qz_w (l5 + 1)) fun x7 =>
      k18 l0 l2 l4 x7 h6
def fn_Printer_writeSlots_18 : Nat → Int → Int → Int → Int → qz_H → Option qz_R
  | 0, _, _, _, _, _ => none
  | n + 1, l0, l2, l4, l5, h => fn_Printer_writeSlots_18_b (fn_Printer_writeSlots_18 n) l0 l2 l4 l5 h
set_option maxRecDepth 20000 in
def fn_Printer_writeSlots (l0 : Int) (l1 : Int) (l2 : Int) (l3 : Int) (l4 : Int) (h : qz_H) : Option qz_R :=
  if l3 < l4 then
    qz_ck ((h l0 0 : Int) ≠ 0) <|
    qz_bc (fn_Text_addAll (h l0 0) l1 h) fun _ h2 =>
    qz_bn (l3 : Int) fun x3 =>
    fn_Printer_writeSlots_18 qz_NF l0 l2 l4 x3 h2
  else
    some (0, h)
def bk_Printer_writeSlots_0 : List (Instr × Nat) := [(.iload_n 3, 1), (.iload 4, 2), (.if_icmp .lt 4, 3), (.return_, 1)]
def bk_Printer_writeSlots_7 : List (Instr × Nat) := [(.aload_n 0, 1), (.getfield 9, 3), (.aload_n 1, 1), (.invokevirtual 23, 3), (.iload_n 3, 1), (.istore 5, 2)]
def bk_Printer_writeSlots_18 : List (Instr × Nat) := [(.iload 5, 2), (.iload 4, 2), (.if_icmp .ge 39, 3), (.aload_n 2, 1), (.iload 5, 2), (.i2l, 1), (.invokevirtual 87, 3), (.ifCond .eq 29, 3), (.aload_n 0, 1), (.getfield 9, 3), (.bipush 32, 2), (.invokevirtual 40, 3), (.aload_n 0, 1), (.aload_n 2, 1), (.getfield 91, 3), (.iload 5, 2), (.iaload, 1), (.invokevirtual 95, 3), (.iinc 5 1, 3), (.goto (-40), 3)]
def bk_Printer_writeSlots_61 : List (Instr × Nat) := [(.aload_n 0, 1), (.getfield 9, 3), (.bipush 41, 2), (.invokevirtual 40, 3), (.return_, 1)]
theorem ca_Printer_writeSlots_0 : qz_ca yd_Printer_writeSlots.2.1 0 bk_Printer_writeSlots_0 := qz_cab_ok _ _ (by decide +kernel)
theorem ca_Printer_writeSlots_7 : qz_ca yd_Printer_writeSlots.2.1 7 bk_Printer_writeSlots_7 := qz_cab_ok _ _ (by decide +kernel)
theorem ca_Printer_writeSlots_18 : qz_ca yd_Printer_writeSlots.2.1 18 bk_Printer_writeSlots_18 := qz_cab_ok _ _ (by decide +kernel)
theorem ca_Printer_writeSlots_61 : qz_ca yd_Printer_writeSlots.2.1 61 bk_Printer_writeSlots_61 := qz_cab_ok _ _ (by decide +kernel)
set_option maxRecDepth 20000 in
theorem jb_Printer_writeSlots_61 (G : qz_G) (l0 : Int) (h : qz_H) : qz_J yd_Printer_writeSlots G bk_Printer_writeSlots_61 61 [qz_r true 8 l0, qz_u, qz_u, qz_u, qz_u, qz_u] [] h 0 0 (fn_Printer_writeSlots_61 l0 h) := by
  unfold fn_Printer_writeSlots_61 bk_Printer_writeSlots_61; exact
    qz_aload_n rfl <|
    qz_getR (k1 := 11) kg_8 fl_Printer_9 rfl rfl <|
    qz_bipush rfl <|
    qz_nnd 1 rfl <|
    qz_invvV [qz_i 41] rfl (cn_Text_add (h l0 0) 41 h) mw_Text_add vw_Text_add ⟨_, rfl, rfl, by decide⟩ rfl rfl ln_Printer_40 rfl fun _ h2 =>
    qz_return ⟨rfl, rfl⟩ rfl
set_option maxRecDepth 20000 in
theorem jb_Printer_writeSlots_18_b (G : qz_G) (k18 : Int → Int → Int → Int → qz_H → Option qz_R) (jk18 : ∀ (l0 : Int) (l2 : Int) (l4 : Int) (l5 : Int) (h : qz_H), qz_J yd_Printer_writeSlots G bk_Printer_writeSlots_18 18 [qz_r true 8 l0, qz_u, qz_r false 4 l2, qz_u, qz_i l4, qz_i l5] [] h 0 0 (k18 l0 l2 l4 l5 h)) (l0 : Int) (l2 : Int) (l4 : Int) (l5 : Int) (h : qz_H) : qz_J yd_Printer_writeSlots G bk_Printer_writeSlots_18 18 [qz_r true 8 l0, qz_u, qz_r false 4 l2, qz_u, qz_i l4, qz_i l5] [] h 0 0 (fn_Printer_writeSlots_18_b k18 l0 l2 l4 l5 h) := by
  unfold fn_Printer_writeSlots_18_b bk_Printer_writeSlots_18; exact
    qz_iload rfl <|
    qz_iload rfl <|
    qz_icmp_ge rfl ca_Printer_writeSlots_61
      (qz_fgt [1, 0, 0, 0, 0, 0] <| jb_Printer_writeSlots_61 G l0 h)
      (qz_aload_n rfl <|
        qz_iload rfl <|
        qz_i2l <|
        qz_nnd 1 rfl <|
        qz_invvI [qz_j l5] rfl (cn_Function_hasSlot l2 l5 h) mw_Function_hasSlot vw_Function_hasSlot ⟨_, rfl, rfl, by decide⟩ rfl rfl ln_Printer_87 rfl fun r1 h2 =>
        qz_if_eq rfl ca_Printer_writeSlots_61
          (qz_fgt [1, 0, 0, 0, 0, 0] <| jb_Printer_writeSlots_61 G l0 h2)
          (qz_aload_n rfl <|
            qz_getR (k1 := 11) kg_8 fl_Printer_9 rfl rfl <|
            qz_bipush rfl <|
            qz_nnd 1 rfl <|
            qz_invvV [qz_i 32] rfl (cn_Text_add (h2 l0 0) 32 h2) mw_Text_add vw_Text_add ⟨_, rfl, rfl, by decide⟩ rfl rfl ln_Printer_40 rfl fun _ h4 =>
            qz_aload_n rfl <|
            qz_aload_n rfl <|
            qz_nnd 0 rfl <|
            qz_getR (k1 := 40) kg_4 fl_Printer_91 rfl rfl <|
            qz_iload rfl <|
            qz_nnd 1 rfl <|
            qz_iald (k0 := 40) rfl rfl rfl <|
            qz_invvV [qz_i (h4 (h4 l2 0) l5)] rfl (cn_Printer_writeType l0 (h4 (h4 l2 0) l5) h4) mw_Printer_writeType vw_Printer_writeType ⟨_, rfl, rfl, by decide⟩ rfl rfl ln_Printer_95 rfl fun _ h6 =>
            qz_iinc rfl (by decide) fun x7 =>
            qz_goto rfl ca_Printer_writeSlots_18 <|
            qz_fgt [1, 0, 1, 0, 1, 1] <| jk18 l0 l2 l4 x7 h6))
theorem jb_Printer_writeSlots_18 (G : qz_G) : ∀ (n : Nat) (l0 l2 l4 l5 : Int) (h : qz_H), qz_J yd_Printer_writeSlots G bk_Printer_writeSlots_18 18 [qz_r true 8 l0, qz_u, qz_r false 4 l2, qz_u, qz_i l4, qz_i l5] [] h 0 0 (fn_Printer_writeSlots_18 n l0 l2 l4 l5 h)
  | 0, _, _, _, _, _ => qz_none
  | n + 1, l0, l2, l4, l5, h => jb_Printer_writeSlots_18_b G (fn_Printer_writeSlots_18 n) (jb_Printer_writeSlots_18 G n) l0 l2 l4 l5 h
set_option maxRecDepth 20000 in
theorem cn_Printer_writeSlots (l0 : Int) (l1 : Int) (l2 : Int) (l3 : Int) (l4 : Int) (h : qz_H) : qz_C yd_Printer_writeSlots [qz_r true 8 l0, qz_r false 13 l1, qz_r false 4 l2, qz_i l3, qz_i l4] h (fn_Printer_writeSlots l0 l1 l2 l3 l4 h) := by
  refine qz_con (is := bk_Printer_writeSlots_0) (ls := [qz_r true 8 l0, qz_r false 13 l1, qz_r false 4 l2, qz_i l3, qz_i l4, qz_u]) mw_Printer_writeSlots.2.2.2 ca_Printer_writeSlots_0 rfl rfl rfl fun G => ?_
  unfold fn_Printer_writeSlots bk_Printer_writeSlots_0; exact
    qz_iload_n rfl <|
    qz_iload rfl <|
    qz_icmp_lt rfl ca_Printer_writeSlots_7
      (qz_aload_n rfl <|
        qz_getR (k1 := 11) kg_8 fl_Printer_9 rfl rfl <|
        qz_aload_n rfl <|
        qz_nnd 1 rfl <|
        qz_invvV [qz_r false 13 l1] rfl (cn_Text_addAll (h l0 0) l1 h) mw_Text_addAll vw_Text_addAll ⟨_, rfl, rfl, by decide⟩ rfl rfl ln_Printer_23 rfl fun _ h2 =>
        qz_iload_n rfl <|
        qz_istore (by decide) fun x3 =>
        qz_fall rfl ca_Printer_writeSlots_18 <|
        qz_fgt [1, 0, 1, 0, 1, 1] <| jb_Printer_writeSlots_18 G qz_NF l0 l2 l4 x3 h2)
      (qz_return ⟨rfl, rfl⟩ rfl)
set_option maxRecDepth 20000 in
def fn_Printer_writeResult (l0 : Int) (l1 : Int) (h : qz_H) : Option qz_R :=
  qz_ck ((h l0 0 : Int) ≠ 0) <|
  qz_bc (fn_Text_addAll (h l0 0) (-61) h) fun _ h2 =>
  qz_bc (fn_Printer_writeType l0 l1 h2) fun _ h4 =>
  qz_ck ((h4 l0 0 : Int) ≠ 0) <|
  qz_bc (fn_Text_add (h4 l0 0) 41 h4) fun _ h6 =>
  some (0, h6)
def bk_Printer_writeResult_0 : List (Instr × Nat) := [(.aload_n 0, 1), (.getfield 9, 3), (.ldc 98, 2), (.invokevirtual 23, 3), (.aload_n 0, 1), (.iload_n 1, 1), (.invokevirtual 95, 3), (.aload_n 0, 1), (.getfield 9, 3), (.bipush 41, 2), (.invokevirtual 40, 3), (.return_, 1)]
theorem ca_Printer_writeResult_0 : qz_ca yd_Printer_writeResult.2.1 0 bk_Printer_writeResult_0 := qz_cab_ok _ _ (by decide +kernel)
set_option maxRecDepth 20000 in
theorem cn_Printer_writeResult (l0 : Int) (l1 : Int) (h : qz_H) : qz_C yd_Printer_writeResult [qz_r true 8 l0, qz_i l1] h (fn_Printer_writeResult l0 l1 h) := by
  refine qz_con (is := bk_Printer_writeResult_0) (ls := [qz_r true 8 l0, qz_i l1]) mw_Printer_writeResult.2.2.2 ca_Printer_writeResult_0 rfl rfl rfl fun G => ?_
  unfold fn_Printer_writeResult bk_Printer_writeResult_0; exact
    qz_aload_n rfl <|
    qz_getR (k1 := 11) kg_8 fl_Printer_9 rfl rfl <|
    qz_ldcS ss_Printer_98 rfl <|
    qz_nnd 1 rfl <|
    qz_wkS [2] <|
    qz_invvV [qz_r false 13 (-61)] rfl (cn_Text_addAll (h l0 0) (-61) h) mw_Text_addAll vw_Text_addAll ⟨_, rfl, rfl, by decide⟩ rfl rfl ln_Printer_23 rfl fun _ h2 =>
    qz_aload_n rfl <|
    qz_iload_n rfl <|
    qz_invvV [qz_i l1] rfl (cn_Printer_writeType l0 l1 h2) mw_Printer_writeType vw_Printer_writeType ⟨_, rfl, rfl, by decide⟩ rfl rfl ln_Printer_95 rfl fun _ h4 =>
    qz_aload_n rfl <|
    qz_getR (k1 := 11) kg_8 fl_Printer_9 rfl rfl <|
    qz_bipush rfl <|
    qz_nnd 1 rfl <|
    qz_invvV [qz_i 41] rfl (cn_Text_add (h4 l0 0) 41 h4) mw_Text_add vw_Text_add ⟨_, rfl, rfl, by decide⟩ rfl rfl ln_Printer_40 rfl fun _ h6 =>
    qz_return ⟨rfl, rfl⟩ rfl
def fn_Text_addNumber_48_b (k48 : Int → Int → Int → qz_H → Option qz_R) (l0 : Int) (l1 : Int) (l3 : Int) (h : qz_H) : Option qz_R :=
  if qz_cmp l3 0 ≤ 0 then
    some (0, h)
  else
    qz_ck ((l3 : Int) ≠ 0) <|
    qz_ck ((10 : Int) ≠ 0) <|
    qz_bc (fn_Text_add l0 (qz_i2c (qz_w (qz_x (48 + (qz_absJ (qz_remJ (qz_divJ l1 l3) 10)))))) h) fun _ h2 =>
    qz_ck ((10 : Int) ≠ 0) <|
    qz_bn (qz_divJ l3 10 : Int) fun x3 =>
    k48 l0 l1 x3 h2
def fn_Text_addNumber_48 : Nat → Int → Int → Int → qz_H → Option qz_R
  | 0, _, _, _, _ => none
  | n + 1, l0, l1, l3, h => fn_Text_addNumber_48_b (fn_Text_addNumber_48 n) l0 l1 l3 h
def fn_Text_addNumber_17_b (k17 : Int → Int → Int → Int → qz_H → Option qz_R) (l0 : Int) (l1 : Int) (l3 : Int) (l5 : Int) (h : qz_H) : Option qz_R :=
  if 18 ≤ l5 then
    fn_Text_addNumber_48 qz_NF l0 l1 l3 h
  else
    qz_ck ((l3 : Int) ≠ 0) <|
    qz_ck ((10 : Int) ≠ 0) <|
    if qz_cmp (qz_divJ (qz_divJ l1 l3) 10) 0 = 0 then
      fn_Text_addNumber_48 qz_NF l0 l1 l3 h
    else
      qz_bn (qz_x (l3 * 10) : Int) fun x1 =>
      qz_bn (qz_w (l5 + 1)) fun x2 =>
      k17 l0 l1 x1 x2 h
def fn_Text_addNumber_17 : Nat → Int → Int → Int → Int → qz_H → Option qz_R
  | 0, _, _, _, _, _ => none
  | n + 1, l0, l1, l3, l5, h => fn_Text_addNumber_17_b (fn_Text_addNumber_17 n) l0 l1 l3 l5 h
def fn_Text_addNumber_12 (l0 : Int) (l1 : Int) (h : qz_H) : Option qz_R :=
  qz_bn (1 : Int) fun x1 =>
  qz_bn (0 : Int) fun x2 =>
  fn_Text_addNumber_17 qz_NF l0 l1 x1 x2 h
set_option maxRecDepth 20000 in
def fn_Text_addNumber (l0 : Int) (l1 : Int) (h : qz_H) : Option qz_R :=
  if 0 ≤ qz_cmp l1 0 then
    fn_Text_addNumber_12 l0 l1 h
  else
    qz_bc (fn_Text_add l0 45 h) fun _ h2 =>
    fn_Text_addNumber_12 l0 l1 h2
def bk_Text_addNumber_0 : List (Instr × Nat) := [(.lload_n 1, 1), (.lconst 0, 1), (.lcmp, 1), (.ifCond .ge 9, 3), (.aload_n 0, 1), (.bipush 45, 2), (.invokevirtual 28, 3)]
def bk_Text_addNumber_12 : List (Instr × Nat) := [(.lconst 1, 1), (.lstore_n 3, 1), (.iconst 0, 1), (.istore 5, 2)]
def bk_Text_addNumber_17 : List (Instr × Nat) := [(.iload 5, 2), (.bipush 18, 2), (.if_icmp .ge 27, 3), (.lload_n 1, 1), (.lload_n 3, 1), (.ldiv, 1), (.ldc2_w 32, 3), (.ldiv, 1), (.lconst 0, 1), (.lcmp, 1), (.ifCond .eq 15, 3), (.lload_n 3, 1), (.ldc2_w 32, 3), (.lmul, 1), (.lstore_n 3, 1), (.iinc 5 1, 3), (.goto (-28), 3)]
def bk_Text_addNumber_48 : List (Instr × Nat) := [(.lload_n 3, 1), (.lconst 0, 1), (.lcmp, 1), (.ifCond .le 32, 3), (.aload_n 0, 1), (.ldc2_w 34, 3), (.lload_n 1, 1), (.lload_n 3, 1), (.ldiv, 1), (.ldc2_w 32, 3), (.lrem, 1), (.invokestatic 36, 3), (.ladd, 1), (.l2i, 1), (.i2c, 1), (.invokevirtual 28, 3), (.lload_n 3, 1), (.ldc2_w 32, 3), (.ldiv, 1), (.lstore_n 3, 1), (.goto (-32), 3)]
def bk_Text_addNumber_83 : List (Instr × Nat) := [(.return_, 1)]
theorem ca_Text_addNumber_0 : qz_ca yd_Text_addNumber.2.1 0 bk_Text_addNumber_0 := qz_cab_ok _ _ (by decide +kernel)
theorem ca_Text_addNumber_12 : qz_ca yd_Text_addNumber.2.1 12 bk_Text_addNumber_12 := qz_cab_ok _ _ (by decide +kernel)
theorem ca_Text_addNumber_17 : qz_ca yd_Text_addNumber.2.1 17 bk_Text_addNumber_17 := qz_cab_ok _ _ (by decide +kernel)
theorem ca_Text_addNumber_48 : qz_ca yd_Text_addNumber.2.1 48 bk_Text_addNumber_48 := qz_cab_ok _ _ (by decide +kernel)
theorem ca_Text_addNumber_83 : qz_ca yd_Text_addNumber.2.1 83 bk_Text_addNumber_83 := qz_cab_ok _ _ (by decide +kernel)
set_option maxRecDepth 20000 in
theorem jb_Text_addNumber_48_b (G : qz_G) (k48 : Int → Int → Int → qz_H → Option qz_R) (jk48 : ∀ (l0 : Int) (l1 : Int) (l3 : Int) (h : qz_H), qz_J yd_Text_addNumber G bk_Text_addNumber_48 48 [qz_r true 11 l0, qz_j l1, qz_u, qz_j l3, qz_u, qz_u] [] h 0 0 (k48 l0 l1 l3 h)) (l0 : Int) (l1 : Int) (l3 : Int) (h : qz_H) : qz_J yd_Text_addNumber G bk_Text_addNumber_48 48 [qz_r true 11 l0, qz_j l1, qz_u, qz_j l3, qz_u, qz_u] [] h 0 0 (fn_Text_addNumber_48_b k48 l0 l1 l3 h) := by
  unfold fn_Text_addNumber_48_b bk_Text_addNumber_48; exact
    qz_lload_n rfl <|
    qz_lconst rfl <|
    qz_lcmp <|
    qz_if_le rfl ca_Text_addNumber_83
      (qz_return ⟨rfl, rfl⟩ rfl)
      (qz_aload_n rfl <|
        qz_ldc2 wc_Text_34 rfl <|
        qz_lload_n rfl <|
        qz_lload_n rfl <|
        qz_ldiv <|
        qz_ldc2 wc_Text_32 rfl <|
        qz_lrem <|
        qz_mabsJ ma_Text_36 rfl <|
        qz_ladd <|
        qz_l2i <|
        qz_ins_i2c <|
        qz_invvV [qz_i (qz_i2c (qz_w (qz_x (48 + (qz_absJ (qz_remJ (qz_divJ l1 l3) 10))))))] rfl (cn_Text_add l0 (qz_i2c (qz_w (qz_x (48 + (qz_absJ (qz_remJ (qz_divJ l1 l3) 10)))))) h) mw_Text_add vw_Text_add ⟨_, rfl, rfl, by decide⟩ rfl rfl ln_Text_28 rfl fun _ h2 =>
        qz_lload_n rfl <|
        qz_ldc2 wc_Text_32 rfl <|
        qz_ldiv <|
        qz_lstore_n (by decide) fun x3 =>
        qz_goto rfl ca_Text_addNumber_48 <|
        qz_fgt [1, 1, 0, 1, 0, 0] <| jk48 l0 l1 x3 h2)
theorem jb_Text_addNumber_48 (G : qz_G) : ∀ (n : Nat) (l0 l1 l3 : Int) (h : qz_H), qz_J yd_Text_addNumber G bk_Text_addNumber_48 48 [qz_r true 11 l0, qz_j l1, qz_u, qz_j l3, qz_u, qz_u] [] h 0 0 (fn_Text_addNumber_48 n l0 l1 l3 h)
  | 0, _, _, _, _ => qz_none
  | n + 1, l0, l1, l3, h => jb_Text_addNumber_48_b G (fn_Text_addNumber_48 n) (jb_Text_addNumber_48 G n) l0 l1 l3 h
set_option maxRecDepth 20000 in
theorem jb_Text_addNumber_17_b (G : qz_G) (k17 : Int → Int → Int → Int → qz_H → Option qz_R) (jk17 : ∀ (l0 : Int) (l1 : Int) (l3 : Int) (l5 : Int) (h : qz_H), qz_J yd_Text_addNumber G bk_Text_addNumber_17 17 [qz_r true 11 l0, qz_j l1, qz_u, qz_j l3, qz_u, qz_i l5] [] h 0 0 (k17 l0 l1 l3 l5 h)) (l0 : Int) (l1 : Int) (l3 : Int) (l5 : Int) (h : qz_H) : qz_J yd_Text_addNumber G bk_Text_addNumber_17 17 [qz_r true 11 l0, qz_j l1, qz_u, qz_j l3, qz_u, qz_i l5] [] h 0 0 (fn_Text_addNumber_17_b k17 l0 l1 l3 l5 h) := by
  unfold fn_Text_addNumber_17_b bk_Text_addNumber_17; exact
    qz_iload rfl <|
    qz_bipush rfl <|
    qz_icmp_ge rfl ca_Text_addNumber_48
      (qz_fgt [1, 1, 0, 1, 0, 0] <| jb_Text_addNumber_48 G qz_NF l0 l1 l3 h)
      (qz_lload_n rfl <|
        qz_lload_n rfl <|
        qz_ldiv <|
        qz_ldc2 wc_Text_32 rfl <|
        qz_ldiv <|
        qz_lconst rfl <|
        qz_lcmp <|
        qz_if_eq rfl ca_Text_addNumber_48
          (qz_fgt [1, 1, 0, 1, 0, 0] <| jb_Text_addNumber_48 G qz_NF l0 l1 l3 h)
          (qz_lload_n rfl <|
            qz_ldc2 wc_Text_32 rfl <|
            qz_lmul <|
            qz_lstore_n (by decide) fun x1 =>
            qz_iinc rfl (by decide) fun x2 =>
            qz_goto rfl ca_Text_addNumber_17 <|
            qz_fgt [1, 1, 0, 1, 0, 1] <| jk17 l0 l1 x1 x2 h))
theorem jb_Text_addNumber_17 (G : qz_G) : ∀ (n : Nat) (l0 l1 l3 l5 : Int) (h : qz_H), qz_J yd_Text_addNumber G bk_Text_addNumber_17 17 [qz_r true 11 l0, qz_j l1, qz_u, qz_j l3, qz_u, qz_i l5] [] h 0 0 (fn_Text_addNumber_17 n l0 l1 l3 l5 h)
  | 0, _, _, _, _, _ => qz_none
  | n + 1, l0, l1, l3, l5, h => jb_Text_addNumber_17_b G (fn_Text_addNumber_17 n) (jb_Text_addNumber_17 G n) l0 l1 l3 l5 h
set_option maxRecDepth 20000 in
theorem jb_Text_addNumber_12 (G : qz_G) (l0 : Int) (l1 : Int) (h : qz_H) : qz_J yd_Text_addNumber G bk_Text_addNumber_12 12 [qz_r true 11 l0, qz_j l1, qz_u, qz_u, qz_u, qz_u] [] h 0 0 (fn_Text_addNumber_12 l0 l1 h) := by
  unfold fn_Text_addNumber_12 bk_Text_addNumber_12; exact
    qz_lconst rfl <|
    qz_lstore_n (by decide) fun x1 =>
    qz_iconst rfl <|
    qz_istore (by decide) fun x2 =>
    qz_fall rfl ca_Text_addNumber_17 <|
    qz_fgt [1, 1, 0, 1, 0, 1] <| jb_Text_addNumber_17 G qz_NF l0 l1 x1 x2 h
set_option maxRecDepth 20000 in
theorem cn_Text_addNumber (l0 : Int) (l1 : Int) (h : qz_H) : qz_C yd_Text_addNumber [qz_r true 11 l0, qz_j l1] h (fn_Text_addNumber l0 l1 h) := by
  refine qz_con (is := bk_Text_addNumber_0) (ls := [qz_r true 11 l0, qz_j l1, qz_u, qz_u, qz_u, qz_u]) mw_Text_addNumber.2.2.2 ca_Text_addNumber_0 rfl rfl rfl fun G => ?_
  unfold fn_Text_addNumber bk_Text_addNumber_0; exact
    qz_lload_n rfl <|
    qz_lconst rfl <|
    qz_lcmp <|
    qz_if_ge rfl ca_Text_addNumber_12
      (qz_fgt [1, 1, 0, 0, 0, 0] <| jb_Text_addNumber_12 G l0 l1 h)
      (qz_aload_n rfl <|
        qz_bipush rfl <|
        qz_invvV [qz_i 45] rfl (cn_Text_add l0 45 h) mw_Text_add vw_Text_add ⟨_, rfl, rfl, by decide⟩ rfl rfl ln_Text_28 rfl fun _ h2 =>
        qz_fall rfl ca_Text_addNumber_12 <|
        qz_fgt [1, 1, 0, 0, 0, 0] <| jb_Text_addNumber_12 G l0 l1 h2)
def fn_Printer_writeInstruction_75 (h : qz_H) : Option qz_R :=
  some (0, h)
set_option maxRecDepth 20000 in
def fn_Printer_writeInstruction (l0 : Int) (l1 : Int) (l2 : Int) (h : qz_H) : Option qz_R :=
  qz_ck ((h l0 0 : Int) ≠ 0) <|
  qz_bc (fn_Text_add (h l0 0) 32 h) fun _ h2 =>
  qz_ck ((l1 : Int) ≠ 0) <|
  qz_ck ((h2 l0 0 : Int) ≠ 0) <|
  qz_bc (fn_Text_addAll (h2 l0 0) (h2 l1 0) h2) fun _ h4 =>
  qz_ck ((l1 : Int) ≠ 0) <|
  qz_bc (fn_Op_awaitsOperand l1 h4) fun r5 h6 =>
  if r5 = 0 then
    qz_ck ((l1 : Int) ≠ 0) <|
    qz_bc (fn_Op_opensBlock l1 h6) fun r7 h8 =>
    if r7 = 0 then
      fn_Printer_writeInstruction_75 h8
    else
      if qz_cmp l2 0 = 0 then
        fn_Printer_writeInstruction_75 h8
      else
        qz_ck ((h8 l0 0 : Int) ≠ 0) <|
        qz_bc (fn_Text_add (h8 l0 0) 32 h8) fun _ h10 =>
        qz_bc (fn_Printer_writeResult l0 (qz_w l2) h10) fun _ h12 =>
        fn_Printer_writeInstruction_75 h12
  else
    qz_ck ((h6 l0 0 : Int) ≠ 0) <|
    qz_bc (fn_Text_add (h6 l0 0) 32 h6) fun _ h14 =>
    qz_ck ((h14 l0 0 : Int) ≠ 0) <|
    qz_bc (fn_Text_addNumber (h14 l0 0) l2 h14) fun _ h16 =>
    fn_Printer_writeInstruction_75 h16
def bk_Printer_writeInstruction_0 : List (Instr × Nat) := [(.aload_n 0, 1), (.getfield 9, 3), (.bipush 32, 2), (.invokevirtual 40, 3), (.aload_n 0, 1), (.getfield 9, 3), (.aload_n 1, 1), (.getfield 104, 3), (.invokevirtual 23, 3), (.aload_n 1, 1), (.invokevirtual 110, 3), (.ifCond .eq 23, 3), (.aload_n 0, 1), (.getfield 9, 3), (.bipush 32, 2), (.invokevirtual 40, 3), (.aload_n 0, 1), (.getfield 9, 3), (.lload_n 2, 1), (.invokevirtual 114, 3), (.goto 31, 3)]
def bk_Printer_writeInstruction_47 : List (Instr × Nat) := [(.aload_n 1, 1), (.invokevirtual 118, 3), (.ifCond .eq 24, 3), (.lload_n 2, 1), (.lconst 0, 1), (.lcmp, 1), (.ifCond .eq 18, 3), (.aload_n 0, 1), (.getfield 9, 3), (.bipush 32, 2), (.invokevirtual 40, 3), (.aload_n 0, 1), (.lload_n 2, 1), (.l2i, 1), (.invokevirtual 60, 3)]
def bk_Printer_writeInstruction_75 : List (Instr × Nat) := [(.return_, 1)]
theorem ca_Printer_writeInstruction_0 : qz_ca yd_Printer_writeInstruction.2.1 0 bk_Printer_writeInstruction_0 := qz_cab_ok _ _ (by decide +kernel)
theorem ca_Printer_writeInstruction_47 : qz_ca yd_Printer_writeInstruction.2.1 47 bk_Printer_writeInstruction_47 := qz_cab_ok _ _ (by decide +kernel)
theorem ca_Printer_writeInstruction_75 : qz_ca yd_Printer_writeInstruction.2.1 75 bk_Printer_writeInstruction_75 := qz_cab_ok _ _ (by decide +kernel)
set_option maxRecDepth 20000 in
theorem jb_Printer_writeInstruction_75 (G : qz_G) (h : qz_H) : qz_J yd_Printer_writeInstruction G bk_Printer_writeInstruction_75 75 [qz_u, qz_u, qz_u, qz_u] [] h 0 0 (fn_Printer_writeInstruction_75 h) := by
  unfold fn_Printer_writeInstruction_75 bk_Printer_writeInstruction_75; exact
    qz_return ⟨rfl, rfl⟩ rfl
set_option maxRecDepth 20000 in
theorem cn_Printer_writeInstruction (l0 : Int) (l1 : Int) (l2 : Int) (h : qz_H) : qz_C yd_Printer_writeInstruction [qz_r true 8 l0, qz_r false 7 l1, qz_j l2] h (fn_Printer_writeInstruction l0 l1 l2 h) := by
  refine qz_con (is := bk_Printer_writeInstruction_0) (ls := [qz_r true 8 l0, qz_r false 7 l1, qz_j l2, qz_u]) mw_Printer_writeInstruction.2.2.2 ca_Printer_writeInstruction_0 rfl rfl rfl fun G => ?_
  unfold fn_Printer_writeInstruction bk_Printer_writeInstruction_0; exact
    qz_aload_n rfl <|
    qz_getR (k1 := 11) kg_8 fl_Printer_9 rfl rfl <|
    qz_bipush rfl <|
    qz_nnd 1 rfl <|
    qz_invvV [qz_i 32] rfl (cn_Text_add (h l0 0) 32 h) mw_Text_add vw_Text_add ⟨_, rfl, rfl, by decide⟩ rfl rfl ln_Printer_40 rfl fun _ h2 =>
    qz_aload_n rfl <|
    qz_getR (k1 := 11) kg_8 fl_Printer_9 rfl rfl <|
    qz_aload_n rfl <|
    qz_nnd 0 rfl <|
    qz_getR (k1 := 13) kg_7 fl_Printer_104 rfl rfl <|
    qz_nnd 1 rfl <|
    qz_invvV [qz_r false 13 (h2 l1 0)] rfl (cn_Text_addAll (h2 l0 0) (h2 l1 0) h2) mw_Text_addAll vw_Text_addAll ⟨_, rfl, rfl, by decide⟩ rfl rfl ln_Printer_23 rfl fun _ h4 =>
    qz_aload_n rfl <|
    qz_nnd 0 rfl <|
    qz_invvI [] rfl (cn_Op_awaitsOperand l1 h4) mw_Op_awaitsOperand vw_Op_awaitsOperand ⟨_, rfl, rfl, by decide⟩ rfl rfl ln_Printer_110 rfl fun r5 h6 =>
    qz_if_eq rfl ca_Printer_writeInstruction_47
      (qz_aload_n rfl <|
        qz_nnd 0 rfl <|
        qz_invvI [] rfl (cn_Op_opensBlock l1 h6) mw_Op_opensBlock vw_Op_opensBlock ⟨_, rfl, rfl, by decide⟩ rfl rfl ln_Printer_118 rfl fun r7 h8 =>
        qz_if_eq rfl ca_Printer_writeInstruction_75
          (qz_fgt [0, 0, 0, 0] <| jb_Printer_writeInstruction_75 G h8)
          (qz_lload_n rfl <|
            qz_lconst rfl <|
            qz_lcmp <|
            qz_if_eq rfl ca_Printer_writeInstruction_75
              (qz_fgt [0, 0, 0, 0] <| jb_Printer_writeInstruction_75 G h8)
              (qz_aload_n rfl <|
                qz_getR (k1 := 11) kg_8 fl_Printer_9 rfl rfl <|
                qz_bipush rfl <|
                qz_nnd 1 rfl <|
                qz_invvV [qz_i 32] rfl (cn_Text_add (h8 l0 0) 32 h8) mw_Text_add vw_Text_add ⟨_, rfl, rfl, by decide⟩ rfl rfl ln_Printer_40 rfl fun _ h10 =>
                qz_aload_n rfl <|
                qz_lload_n rfl <|
                qz_l2i <|
                qz_invvV [qz_i (qz_w l2)] rfl (cn_Printer_writeResult l0 (qz_w l2) h10) mw_Printer_writeResult vw_Printer_writeResult ⟨_, rfl, rfl, by decide⟩ rfl rfl ln_Printer_60 rfl fun _ h12 =>
                qz_fall rfl ca_Printer_writeInstruction_75 <|
                qz_fgt [0, 0, 0, 0] <| jb_Printer_writeInstruction_75 G h12)))
      (qz_aload_n rfl <|
        qz_getR (k1 := 11) kg_8 fl_Printer_9 rfl rfl <|
        qz_bipush rfl <|
        qz_nnd 1 rfl <|
        qz_invvV [qz_i 32] rfl (cn_Text_add (h6 l0 0) 32 h6) mw_Text_add vw_Text_add ⟨_, rfl, rfl, by decide⟩ rfl rfl ln_Printer_40 rfl fun _ h14 =>
        qz_aload_n rfl <|
        qz_getR (k1 := 11) kg_8 fl_Printer_9 rfl rfl <|
        qz_lload_n rfl <|
        qz_nnd 1 rfl <|
        qz_invvV [qz_j l2] rfl (cn_Text_addNumber (h14 l0 0) l2 h14) mw_Text_addNumber vw_Text_addNumber ⟨_, rfl, rfl, by decide⟩ rfl rfl ln_Printer_114 rfl fun _ h16 =>
        qz_goto rfl ca_Printer_writeInstruction_75 <|
        qz_fgt [0, 0, 0, 0] <| jb_Printer_writeInstruction_75 G h16)
def fn_Printer_writeFunction_104 (l0 : Int) (h : qz_H) : Option qz_R :=
  qz_ck ((h l0 0 : Int) ≠ 0) <|
  qz_bc (fn_Text_add (h l0 0) 41 h) fun _ h2 =>
  some (0, h2)
def fn_Printer_writeFunction_53_b (k53 : Int → Int → Int → Int → qz_H → Option qz_R) (l0 : Int) (l1 : Int) (l2 : Int) (l3 : Int) (h : qz_H) : Option qz_R :=
  qz_ck ((l2 : Int) ≠ 0) <|
  if h l2 5 ≤ l3 then
    fn_Printer_writeFunction_104 l0 h
  else
    qz_ck ((l2 : Int) ≠ 0) <|
    if 64 ≤ qz_w ((h l2 4) + l3) then
      fn_Printer_writeFunction_104 l0 h
    else
      qz_ck ((l1 : Int) ≠ 0) <|
      qz_ck ((l2 : Int) ≠ 0) <|
      qz_ck ((h l1 1 : Int) ≠ 0) <|
      qz_ck ((0 : Int) ≤ qz_w ((h l2 4) + l3) ∧ qz_w ((h l2 4) + l3) < h (h l1 1) (-1)) <|
      qz_ck ((l1 : Int) ≠ 0) <|
      qz_ck ((l2 : Int) ≠ 0) <|
      qz_ck ((h l1 2 : Int) ≠ 0) <|
      qz_ck ((0 : Int) ≤ qz_w ((h l2 4) + l3) ∧ qz_w ((h l2 4) + l3) < h (h l1 2) (-1)) <|
      qz_bc (fn_Printer_writeInstruction l0 (h (h l1 1) (qz_w ((h l2 4) + l3))) (h (h l1 2) (qz_w ((h l2 4) + l3))) h) fun _ h2 =>
      qz_bn (qz_w (l3 + 1)) fun x3 =>
      k53 l0 l1 l2 x3 h2
def fn_Printer_writeFunction_53 : Nat → Int → Int → Int → Int → qz_H → Option qz_R
  | 0, _, _, _, _, _ => none
  | n + 1, l0, l1, l2, l3, h => fn_Printer_writeFunction_53_b (fn_Printer_writeFunction_53 n) l0 l1 l2 l3 h
def fn_Printer_writeFunction_36 (l0 : Int) (l1 : Int) (l2 : Int) (h : qz_H) : Option qz_R :=
  qz_ck ((l2 : Int) ≠ 0) <|
  qz_ck ((l2 : Int) ≠ 0) <|
  qz_bc (fn_Printer_writeSlots l0 (-63) l2 (h l2 1) (h l2 2) h) fun _ h2 =>
  qz_bn (0 : Int) fun x3 =>
  fn_Printer_writeFunction_53 qz_NF l0 l1 l2 x3 h2
set_option maxRecDepth 20000 in
def fn_Printer_writeFunction (l0 : Int) (l1 : Int) (l2 : Int) (h : qz_H) : Option qz_R :=
  qz_ck ((h l0 0 : Int) ≠ 0) <|
  qz_bc (fn_Text_addAll (h l0 0) (-57) h) fun _ h2 =>
  qz_ck ((l2 : Int) ≠ 0) <|
  qz_bc (fn_Printer_writeSlots l0 (-59) l2 0 (h2 l2 1) h2) fun _ h4 =>
  qz_ck ((l2 : Int) ≠ 0) <|
  if h4 l2 3 = 0 then
    fn_Printer_writeFunction_36 l0 l1 l2 h4
  else
    qz_ck ((l2 : Int) ≠ 0) <|
    qz_bc (fn_Printer_writeResult l0 (h4 l2 3) h4) fun _ h6 =>
    fn_Printer_writeFunction_36 l0 l1 l2 h6
def bk_Printer_writeFunction_0 : List (Instr × Nat) := [(.aload_n 0, 1), (.getfield 9, 3), (.ldc 44, 2), (.invokevirtual 23, 3), (.aload_n 0, 1), (.ldc 46, 2), (.aload_n 2, 1), (.iconst 0, 1), (.aload_n 2, 1), (.getfield 48, 3), (.invokevirtual 53, 3), (.aload_n 2, 1), (.getfield 57, 3), (.ifCond .eq 11, 3), (.aload_n 0, 1), (.aload_n 2, 1), (.getfield 57, 3), (.invokevirtual 60, 3)]
def bk_Printer_writeFunction_36 : List (Instr × Nat) := [(.aload_n 0, 1), (.ldc 64, 2), (.aload_n 2, 1), (.aload_n 2, 1), (.getfield 48, 3), (.aload_n 2, 1), (.getfield 66, 3), (.invokevirtual 53, 3), (.iconst 0, 1), (.istore_n 3, 1)]
def bk_Printer_writeFunction_53 : List (Instr × Nat) := [(.iload_n 3, 1), (.aload_n 2, 1), (.getfield 69, 3), (.if_icmp .ge 46, 3), (.aload_n 2, 1), (.getfield 72, 3), (.iload_n 3, 1), (.iadd, 1), (.bipush 64, 2), (.if_icmp .ge 35, 3), (.aload_n 0, 1), (.aload_n 1, 1), (.getfield 75, 3), (.aload_n 2, 1), (.getfield 72, 3), (.iload_n 3, 1), (.iadd, 1), (.aaload, 1), (.aload_n 1, 1), (.getfield 79, 3), (.aload_n 2, 1), (.getfield 72, 3), (.iload_n 3, 1), (.iadd, 1), (.laload, 1), (.invokevirtual 83, 3), (.iinc 3 1, 3), (.goto (-48), 3)]
def bk_Printer_writeFunction_104 : List (Instr × Nat) := [(.aload_n 0, 1), (.getfield 9, 3), (.bipush 41, 2), (.invokevirtual 40, 3), (.return_, 1)]
theorem ca_Printer_writeFunction_0 : qz_ca yd_Printer_writeFunction.2.1 0 bk_Printer_writeFunction_0 := qz_cab_ok _ _ (by decide +kernel)
theorem ca_Printer_writeFunction_36 : qz_ca yd_Printer_writeFunction.2.1 36 bk_Printer_writeFunction_36 := qz_cab_ok _ _ (by decide +kernel)
theorem ca_Printer_writeFunction_53 : qz_ca yd_Printer_writeFunction.2.1 53 bk_Printer_writeFunction_53 := qz_cab_ok _ _ (by decide +kernel)
theorem ca_Printer_writeFunction_104 : qz_ca yd_Printer_writeFunction.2.1 104 bk_Printer_writeFunction_104 := qz_cab_ok _ _ (by decide +kernel)
set_option maxRecDepth 20000 in
theorem jb_Printer_writeFunction_104 (G : qz_G) (l0 : Int) (h : qz_H) : qz_J yd_Printer_writeFunction G bk_Printer_writeFunction_104 104 [qz_r true 8 l0, qz_u, qz_u, qz_u] [] h 0 0 (fn_Printer_writeFunction_104 l0 h) := by
  unfold fn_Printer_writeFunction_104 bk_Printer_writeFunction_104; exact
    qz_aload_n rfl <|
    qz_getR (k1 := 11) kg_8 fl_Printer_9 rfl rfl <|
    qz_bipush rfl <|
    qz_nnd 1 rfl <|
    qz_invvV [qz_i 41] rfl (cn_Text_add (h l0 0) 41 h) mw_Text_add vw_Text_add ⟨_, rfl, rfl, by decide⟩ rfl rfl ln_Printer_40 rfl fun _ h2 =>
    qz_return ⟨rfl, rfl⟩ rfl
set_option maxRecDepth 20000 in
theorem jb_Printer_writeFunction_53_b (G : qz_G) (k53 : Int → Int → Int → Int → qz_H → Option qz_R) (jk53 : ∀ (l0 : Int) (l1 : Int) (l2 : Int) (l3 : Int) (h : qz_H), qz_J yd_Printer_writeFunction G bk_Printer_writeFunction_53 53 [qz_r true 8 l0, qz_r false 6 l1, qz_r false 4 l2, qz_i l3] [] h 0 0 (k53 l0 l1 l2 l3 h)) (l0 : Int) (l1 : Int) (l2 : Int) (l3 : Int) (h : qz_H) : qz_J yd_Printer_writeFunction G bk_Printer_writeFunction_53 53 [qz_r true 8 l0, qz_r false 6 l1, qz_r false 4 l2, qz_i l3] [] h 0 0 (fn_Printer_writeFunction_53_b k53 l0 l1 l2 l3 h) := by
  unfold fn_Printer_writeFunction_53_b bk_Printer_writeFunction_53; exact
    qz_iload_n rfl <|
    qz_aload_n rfl <|
    qz_nnd 0 rfl <|
    qz_getI kg_4 fl_Printer_69 rfl rfl <|
    qz_icmp_ge rfl ca_Printer_writeFunction_104
      (qz_fgt [1, 0, 0, 0] <| jb_Printer_writeFunction_104 G l0 h)
      (qz_aload_n rfl <|
        qz_nnd 0 rfl <|
        qz_getI kg_4 fl_Printer_72 rfl rfl <|
        qz_iload_n rfl <|
        qz_iadd <|
        qz_bipush rfl <|
        qz_icmp_ge rfl ca_Printer_writeFunction_104
          (qz_fgt [1, 0, 0, 0] <| jb_Printer_writeFunction_104 G l0 h)
          (qz_aload_n rfl <|
            qz_aload_n rfl <|
            qz_nnd 0 rfl <|
            qz_getR (k1 := 46) kg_6 fl_Printer_75 rfl rfl <|
            qz_aload_n rfl <|
            qz_nnd 0 rfl <|
            qz_getI kg_4 fl_Printer_72 rfl rfl <|
            qz_iload_n rfl <|
            qz_iadd <|
            qz_nnd 1 rfl <|
            qz_aald (k0 := 46) (k1 := 7) rfl rfl rfl <|
            qz_aload_n rfl <|
            qz_nnd 0 rfl <|
            qz_getR (k1 := 41) kg_6 fl_Printer_79 rfl rfl <|
            qz_aload_n rfl <|
            qz_nnd 0 rfl <|
            qz_getI kg_4 fl_Printer_72 rfl rfl <|
            qz_iload_n rfl <|
            qz_iadd <|
            qz_nnd 1 rfl <|
            qz_lald (k0 := 41) rfl rfl rfl <|
            qz_invvV [qz_r false 7 (h (h l1 1) (qz_w ((h l2 4) + l3))), qz_j (h (h l1 2) (qz_w ((h l2 4) + l3)))] rfl (cn_Printer_writeInstruction l0 (h (h l1 1) (qz_w ((h l2 4) + l3))) (h (h l1 2) (qz_w ((h l2 4) + l3))) h) mw_Printer_writeInstruction vw_Printer_writeInstruction ⟨_, rfl, rfl, by decide⟩ rfl rfl ln_Printer_83 rfl fun _ h2 =>
            qz_iinc rfl (by decide) fun x3 =>
            qz_goto rfl ca_Printer_writeFunction_53 <|
            qz_fgt [1, 1, 1, 1] <| jk53 l0 l1 l2 x3 h2))
theorem jb_Printer_writeFunction_53 (G : qz_G) : ∀ (n : Nat) (l0 l1 l2 l3 : Int) (h : qz_H), qz_J yd_Printer_writeFunction G bk_Printer_writeFunction_53 53 [qz_r true 8 l0, qz_r false 6 l1, qz_r false 4 l2, qz_i l3] [] h 0 0 (fn_Printer_writeFunction_53 n l0 l1 l2 l3 h)
  | 0, _, _, _, _, _ => qz_none
  | n + 1, l0, l1, l2, l3, h => jb_Printer_writeFunction_53_b G (fn_Printer_writeFunction_53 n) (jb_Printer_writeFunction_53 G n) l0 l1 l2 l3 h
set_option maxRecDepth 20000 in
theorem jb_Printer_writeFunction_36 (G : qz_G) (l0 : Int) (l1 : Int) (l2 : Int) (h : qz_H) : qz_J yd_Printer_writeFunction G bk_Printer_writeFunction_36 36 [qz_r true 8 l0, qz_r false 6 l1, qz_r false 4 l2, qz_u] [] h 0 0 (fn_Printer_writeFunction_36 l0 l1 l2 h) := by
  unfold fn_Printer_writeFunction_36 bk_Printer_writeFunction_36; exact
    qz_aload_n rfl <|
    qz_ldcS ss_Printer_64 rfl <|
    qz_aload_n rfl <|
    qz_aload_n rfl <|
    qz_nnd 0 rfl <|
    qz_getI kg_4 fl_Printer_48 rfl rfl <|
    qz_aload_n rfl <|
    qz_nnd 0 rfl <|
    qz_getI kg_4 fl_Printer_66 rfl rfl <|
    qz_wkS [1, 1, 1, 2] <|
    qz_invvV [qz_r false 13 (-63), qz_r false 4 l2, qz_i (h l2 1), qz_i (h l2 2)] rfl (cn_Printer_writeSlots l0 (-63) l2 (h l2 1) (h l2 2) h) mw_Printer_writeSlots vw_Printer_writeSlots ⟨_, rfl, rfl, by decide⟩ rfl rfl ln_Printer_53 rfl fun _ h2 =>
    qz_iconst rfl <|
    qz_istore_n (by decide) fun x3 =>
    qz_fall rfl ca_Printer_writeFunction_53 <|
    qz_fgt [1, 1, 1, 1] <| jb_Printer_writeFunction_53 G qz_NF l0 l1 l2 x3 h2
set_option maxRecDepth 20000 in
theorem cn_Printer_writeFunction (l0 : Int) (l1 : Int) (l2 : Int) (h : qz_H) : qz_C yd_Printer_writeFunction [qz_r true 8 l0, qz_r false 6 l1, qz_r false 4 l2] h (fn_Printer_writeFunction l0 l1 l2 h) := by
  refine qz_con (is := bk_Printer_writeFunction_0) (ls := [qz_r true 8 l0, qz_r false 6 l1, qz_r false 4 l2, qz_u]) mw_Printer_writeFunction.2.2.2 ca_Printer_writeFunction_0 rfl rfl rfl fun G => ?_
  unfold fn_Printer_writeFunction bk_Printer_writeFunction_0; exact
    qz_aload_n rfl <|
    qz_getR (k1 := 11) kg_8 fl_Printer_9 rfl rfl <|
    qz_ldcS ss_Printer_44 rfl <|
    qz_nnd 1 rfl <|
    qz_wkS [2] <|
    qz_invvV [qz_r false 13 (-57)] rfl (cn_Text_addAll (h l0 0) (-57) h) mw_Text_addAll vw_Text_addAll ⟨_, rfl, rfl, by decide⟩ rfl rfl ln_Printer_23 rfl fun _ h2 =>
    qz_aload_n rfl <|
    qz_ldcS ss_Printer_46 rfl <|
    qz_aload_n rfl <|
    qz_iconst rfl <|
    qz_aload_n rfl <|
    qz_nnd 0 rfl <|
    qz_getI kg_4 fl_Printer_48 rfl rfl <|
    qz_wkS [1, 1, 1, 2] <|
    qz_invvV [qz_r false 13 (-59), qz_r false 4 l2, qz_i 0, qz_i (h2 l2 1)] rfl (cn_Printer_writeSlots l0 (-59) l2 0 (h2 l2 1) h2) mw_Printer_writeSlots vw_Printer_writeSlots ⟨_, rfl, rfl, by decide⟩ rfl rfl ln_Printer_53 rfl fun _ h4 =>
    qz_aload_n rfl <|
    qz_nnd 0 rfl <|
    qz_getI kg_4 fl_Printer_57 rfl rfl <|
    qz_if_eq rfl ca_Printer_writeFunction_36
      (qz_fgt [1, 1, 1, 0] <| jb_Printer_writeFunction_36 G l0 l1 l2 h4)
      (qz_aload_n rfl <|
        qz_aload_n rfl <|
        qz_nnd 0 rfl <|
        qz_getI kg_4 fl_Printer_57 rfl rfl <|
        qz_invvV [qz_i (h4 l2 3)] rfl (cn_Printer_writeResult l0 (h4 l2 3) h4) mw_Printer_writeResult vw_Printer_writeResult ⟨_, rfl, rfl, by decide⟩ rfl rfl ln_Printer_60 rfl fun _ h6 =>
        qz_fall rfl ca_Printer_writeFunction_36 <|
        qz_fgt [1, 1, 1, 0] <| jb_Printer_writeFunction_36 G l0 l1 l2 h6)
def fn_Printer_write_54 (l0 : Int) (h : qz_H) : Option qz_R :=
  qz_ck ((h l0 0 : Int) ≠ 0) <|
  qz_bc (fn_Text_add (h l0 0) 41 h) fun _ h2 =>
  some (0, h2)
def fn_Printer_write_24_b (k24 : Int → Int → Int → qz_H → Option qz_R) (l0 : Int) (l1 : Int) (l3 : Int) (h : qz_H) : Option qz_R :=
  qz_ck ((l1 : Int) ≠ 0) <|
  if h l1 3 ≤ l3 then
    fn_Printer_write_54 l0 h
  else
    if 4 ≤ l3 then
      fn_Printer_write_54 l0 h
    else
      qz_ck ((l1 : Int) ≠ 0) <|
      qz_ck ((h l1 0 : Int) ≠ 0) <|
      qz_ck ((0 : Int) ≤ l3 ∧ l3 < h (h l1 0) (-1)) <|
      qz_bc (fn_Printer_writeFunction l0 l1 (h (h l1 0) l3) h) fun _ h2 =>
      qz_bn (qz_w (l3 + 1)) fun x3 =>
      k24 l0 l1 x3 h2
def fn_Printer_write_24 : Nat → Int → Int → Int → qz_H → Option qz_R
  | 0, _, _, _, _ => none
  | n + 1, l0, l1, l3, h => fn_Printer_write_24_b (fn_Printer_write_24 n) l0 l1 l3 h
set_option maxRecDepth 20000 in
def fn_Printer_write (l0 : Int) (l1 : Int) (l2 : Int) (h : qz_H) : Option qz_R :=
  qz_ck ((0 : Int) < l0) <|
  qz_bn (qz_up h l0 0 l2) fun h1 =>
  qz_ck ((h1 l0 0 : Int) ≠ 0) <|
  qz_ck ((0 : Int) < h1 l0 0) <|
  qz_bn (qz_up h1 (h1 l0 0) 1 0) fun h2 =>
  qz_ck ((h2 l0 0 : Int) ≠ 0) <|
  qz_bc (fn_Text_addAll (h2 l0 0) (-55) h2) fun _ h4 =>
  qz_bn (0 : Int) fun x5 =>
  fn_Printer_write_24 qz_NF l0 l1 x5 h4
def bk_Printer_write_0 : List (Instr × Nat) := [(.aload_n 0, 1), (.aload_n 2, 1), (.putfield 9, 3), (.aload_n 0, 1), (.getfield 9, 3), (.iconst 0, 1), (.putfield 15, 3), (.aload_n 0, 1), (.getfield 9, 3), (.ldc 21, 2), (.invokevirtual 23, 3), (.iconst 0, 1), (.istore_n 3, 1)]
def bk_Printer_write_24 : List (Instr × Nat) := [(.iload_n 3, 1), (.aload_n 1, 1), (.getfield 27, 3), (.if_icmp .ge 25, 3), (.iload_n 3, 1), (.iconst 4, 1), (.if_icmp .ge 20, 3), (.aload_n 0, 1), (.aload_n 1, 1), (.aload_n 1, 1), (.getfield 32, 3), (.iload_n 3, 1), (.aaload, 1), (.invokevirtual 36, 3), (.iinc 3 1, 3), (.goto (-27), 3)]
def bk_Printer_write_54 : List (Instr × Nat) := [(.aload_n 0, 1), (.getfield 9, 3), (.bipush 41, 2), (.invokevirtual 40, 3), (.return_, 1)]
theorem ca_Printer_write_0 : qz_ca yd_Printer_write.2.1 0 bk_Printer_write_0 := qz_cab_ok _ _ (by decide +kernel)
theorem ca_Printer_write_24 : qz_ca yd_Printer_write.2.1 24 bk_Printer_write_24 := qz_cab_ok _ _ (by decide +kernel)
theorem ca_Printer_write_54 : qz_ca yd_Printer_write.2.1 54 bk_Printer_write_54 := qz_cab_ok _ _ (by decide +kernel)
set_option maxRecDepth 20000 in
theorem jb_Printer_write_54 (G : qz_G) (l0 : Int) (h : qz_H) : qz_J yd_Printer_write G bk_Printer_write_54 54 [qz_r true 8 l0, qz_u, qz_u, qz_u] [] h 0 0 (fn_Printer_write_54 l0 h) := by
  unfold fn_Printer_write_54 bk_Printer_write_54; exact
    qz_aload_n rfl <|
    qz_getR (k1 := 11) kg_8 fl_Printer_9 rfl rfl <|
    qz_bipush rfl <|
    qz_nnd 1 rfl <|
    qz_invvV [qz_i 41] rfl (cn_Text_add (h l0 0) 41 h) mw_Text_add vw_Text_add ⟨_, rfl, rfl, by decide⟩ rfl rfl ln_Printer_40 rfl fun _ h2 =>
    qz_return ⟨rfl, rfl⟩ rfl
set_option maxRecDepth 20000 in
theorem jb_Printer_write_24_b (G : qz_G) (k24 : Int → Int → Int → qz_H → Option qz_R) (jk24 : ∀ (l0 : Int) (l1 : Int) (l3 : Int) (h : qz_H), qz_J yd_Printer_write G bk_Printer_write_24 24 [qz_r true 8 l0, qz_r false 6 l1, qz_u, qz_i l3] [] h 0 0 (k24 l0 l1 l3 h)) (l0 : Int) (l1 : Int) (l3 : Int) (h : qz_H) : qz_J yd_Printer_write G bk_Printer_write_24 24 [qz_r true 8 l0, qz_r false 6 l1, qz_u, qz_i l3] [] h 0 0 (fn_Printer_write_24_b k24 l0 l1 l3 h) := by
  unfold fn_Printer_write_24_b bk_Printer_write_24; exact
    qz_iload_n rfl <|
    qz_aload_n rfl <|
    qz_nnd 0 rfl <|
    qz_getI kg_6 fl_Printer_27 rfl rfl <|
    qz_icmp_ge rfl ca_Printer_write_54
      (qz_fgt [1, 0, 0, 0] <| jb_Printer_write_54 G l0 h)
      (qz_iload_n rfl <|
        qz_iconst rfl <|
        qz_icmp_ge rfl ca_Printer_write_54
          (qz_fgt [1, 0, 0, 0] <| jb_Printer_write_54 G l0 h)
          (qz_aload_n rfl <|
            qz_aload_n rfl <|
            qz_aload_n rfl <|
            qz_nnd 0 rfl <|
            qz_getR (k1 := 45) kg_6 fl_Printer_32 rfl rfl <|
            qz_iload_n rfl <|
            qz_nnd 1 rfl <|
            qz_aald (k0 := 45) (k1 := 4) rfl rfl rfl <|
            qz_invvV [qz_r false 6 l1, qz_r false 4 (h (h l1 0) l3)] rfl (cn_Printer_writeFunction l0 l1 (h (h l1 0) l3) h) mw_Printer_writeFunction vw_Printer_writeFunction ⟨_, rfl, rfl, by decide⟩ rfl rfl ln_Printer_36 rfl fun _ h2 =>
            qz_iinc rfl (by decide) fun x3 =>
            qz_goto rfl ca_Printer_write_24 <|
            qz_fgt [1, 1, 0, 1] <| jk24 l0 l1 x3 h2))
theorem jb_Printer_write_24 (G : qz_G) : ∀ (n : Nat) (l0 l1 l3 : Int) (h : qz_H), qz_J yd_Printer_write G bk_Printer_write_24 24 [qz_r true 8 l0, qz_r false 6 l1, qz_u, qz_i l3] [] h 0 0 (fn_Printer_write_24 n l0 l1 l3 h)
  | 0, _, _, _, _ => qz_none
  | n + 1, l0, l1, l3, h => jb_Printer_write_24_b G (fn_Printer_write_24 n) (jb_Printer_write_24 G n) l0 l1 l3 h
set_option maxRecDepth 20000 in
theorem cn_Printer_write (l0 : Int) (l1 : Int) (l2 : Int) (h : qz_H) : qz_C yd_Printer_write [qz_r true 8 l0, qz_r false 6 l1, qz_r false 11 l2] h (fn_Printer_write l0 l1 l2 h) := by
  refine qz_con (is := bk_Printer_write_0) (ls := [qz_r true 8 l0, qz_r false 6 l1, qz_r false 11 l2, qz_u]) mw_Printer_write.2.2.2 ca_Printer_write_0 rfl rfl rfl fun G => ?_
  unfold fn_Printer_write bk_Printer_write_0; exact
    qz_aload_n rfl <|
    qz_aload_n rfl <|
    qz_putR (k1 := 11) kw_8 fp_Printer_9_Printer_write rfl rfl fun h1 =>
    qz_aload_n rfl <|
    qz_getR (k1 := 11) kg_8 fl_Printer_9 rfl rfl <|
    qz_iconst rfl <|
    qz_nnd 1 rfl <|
    qz_putI kw_11 fp_Printer_15_Printer_write rfl rfl fun h2 =>
    qz_aload_n rfl <|
    qz_getR (k1 := 11) kg_8 fl_Printer_9 rfl rfl <|
    qz_ldcS ss_Printer_21 rfl <|
    qz_nnd 1 rfl <|
    qz_wkS [2] <|
    qz_invvV [qz_r false 13 (-55)] rfl (cn_Text_addAll (h2 l0 0) (-55) h2) mw_Text_addAll vw_Text_addAll ⟨_, rfl, rfl, by decide⟩ rfl rfl ln_Printer_23 rfl fun _ h4 =>
    qz_iconst rfl <|
    qz_istore_n (by decide) fun x5 =>
    qz_fall rfl ca_Printer_write_24 <|
    qz_fgt [1, 1, 0, 1] <| jb_Printer_write_24 G qz_NF l0 l1 x5 h4
set_option maxRecDepth 20000 in
def fn_SA_print (l0 : Int) (h : qz_H) : Option qz_R :=
  qz_ck ((h l0 3 : Int) ≠ 0) <|
  qz_bc (fn_Printer_write (h l0 3) (h l0 6) (h l0 5) h) fun _ h2 =>
  qz_ck ((h2 l0 5 : Int) ≠ 0) <|
  if h2 (h2 l0 5) 1 ≤ 320 then
    qz_bn (h2 l0 4 : Int) fun x3 =>
    qz_ck ((0 : Int) < l0) <|
    qz_bn (qz_up h2 l0 4 (h2 l0 5)) fun h4 =>
    qz_ck ((0 : Int) < l0) <|
    qz_bn (qz_up h4 l0 5 x3) fun h5 =>
    qz_ck ((h5 l0 4 : Int) ≠ 0) <|
    some (h5 (h5 l0 4) 1, h5)
  else
    none
def bk_SA_print_0 : List (Instr × Nat) := [(.aload_n 0, 1), (.getfield 59, 3), (.aload_n 0, 1), (.getfield 22, 3), (.aload_n 0, 1), (.getfield 16, 3), (.invokevirtual 117, 3), (.aload_n 0, 1), (.getfield 16, 3), (.getfield 67, 3), (.sipush 320, 3), (.if_icmp .le 13, 3), (.new 97, 3), (.dup, 1), (.ldc 120, 2), (.invokespecial 101, 3), (.athrow, 1)]
def bk_SA_print_38 : List (Instr × Nat) := [(.aload_n 0, 1), (.getfield 10, 3), (.astore_n 1, 1), (.aload_n 0, 1), (.aload_n 0, 1), (.getfield 16, 3), (.putfield 10, 3), (.aload_n 0, 1), (.aload_n 1, 1), (.putfield 16, 3), (.aload_n 0, 1), (.getfield 10, 3), (.getfield 67, 3), (.ireturn, 1)]
theorem ca_SA_print_0 : qz_ca yd_SA_print.2.1 0 bk_SA_print_0 := qz_cab_ok _ _ (by decide +kernel)
theorem ca_SA_print_38 : qz_ca yd_SA_print.2.1 38 bk_SA_print_38 := qz_cab_ok _ _ (by decide +kernel)
set_option maxRecDepth 20000 in
theorem cn_SA_print (l0 : Int) (h : qz_H) : qz_C yd_SA_print [qz_r true 0 l0] h (fn_SA_print l0 h) := by
  refine qz_con (is := bk_SA_print_0) (ls := [qz_r true 0 l0, qz_u]) mw_SA_print.2.2.2 ca_SA_print_0 rfl rfl rfl fun G => ?_
  unfold fn_SA_print bk_SA_print_0; exact
    qz_aload_n rfl <|
    qz_getR (k1 := 8) kg_0 fl_SA_59 rfl rfl <|
    qz_aload_n rfl <|
    qz_getR (k1 := 6) kg_0 fl_SA_22 rfl rfl <|
    qz_aload_n rfl <|
    qz_getR (k1 := 11) kg_0 fl_SA_16 rfl rfl <|
    qz_nnd 2 rfl <|
    qz_invvV [qz_r false 6 (h l0 6), qz_r false 11 (h l0 5)] rfl (cn_Printer_write (h l0 3) (h l0 6) (h l0 5) h) mw_Printer_write vw_Printer_write ⟨_, rfl, rfl, by decide⟩ rfl rfl ln_SA_117 rfl fun _ h2 =>
    qz_aload_n rfl <|
    qz_getR (k1 := 11) kg_0 fl_SA_16 rfl rfl <|
    qz_nnd 0 rfl <|
    qz_getI kg_11 fl_SA_67 rfl rfl <|
    qz_sipush rfl <|
    qz_icmp_le rfl ca_SA_print_38
      (qz_aload_n rfl <|
        qz_getR (k1 := 11) kg_0 fl_SA_10 rfl rfl <|
        qz_astore_n (by decide) fun x3 =>
        qz_aload_n rfl <|
        qz_aload_n rfl <|
        qz_getR (k1 := 11) kg_0 fl_SA_16 rfl rfl <|
        qz_putR (k1 := 11) kw_0 fp_SA_10_SA_print rfl rfl fun h4 =>
        qz_aload_n rfl <|
        qz_aload_n rfl <|
        qz_putR (k1 := 11) kw_0 fp_SA_16_SA_print rfl rfl fun h5 =>
        qz_aload_n rfl <|
        qz_getR (k1 := 11) kg_0 fl_SA_10 rfl rfl <|
        qz_nnd 0 rfl <|
        qz_getI kg_11 fl_SA_67 rfl rfl <|
        qz_ireturn ⟨rfl, rfl⟩ rfl)
      (qz_none)
set_option maxRecDepth 20000 in
def fn_SA_place (l0 : Int) (h : qz_H) : Option qz_R :=
  some (h l0 8, h)
def bk_SA_place_0 : List (Instr × Nat) := [(.aload_n 0, 1), (.getfield 82, 3), (.ireturn, 1)]
theorem ca_SA_place_0 : qz_ca yd_SA_place.2.1 0 bk_SA_place_0 := qz_cab_ok _ _ (by decide +kernel)
set_option maxRecDepth 20000 in
theorem cn_SA_place (l0 : Int) (h : qz_H) : qz_C yd_SA_place [qz_r true 0 l0] h (fn_SA_place l0 h) := by
  refine qz_con (is := bk_SA_place_0) (ls := [qz_r true 0 l0]) mw_SA_place.2.2.2 ca_SA_place_0 rfl rfl rfl fun G => ?_
  unfold fn_SA_place bk_SA_place_0; exact
    qz_aload_n rfl <|
    qz_getI kg_0 fl_SA_82 rfl rfl <|
    qz_ireturn ⟨rfl, rfl⟩ rfl
set_option maxRecDepth 20000 in
def fn_SA_functions (l0 : Int) (h : qz_H) : Option qz_R :=
  qz_ck ((h l0 6 : Int) ≠ 0) <|
  some (h (h l0 6) 3, h)
def bk_SA_functions_0 : List (Instr × Nat) := [(.aload_n 0, 1), (.getfield 22, 3), (.getfield 107, 3), (.ireturn, 1)]
theorem ca_SA_functions_0 : qz_ca yd_SA_functions.2.1 0 bk_SA_functions_0 := qz_cab_ok _ _ (by decide +kernel)
set_option maxRecDepth 20000 in
theorem cn_SA_functions (l0 : Int) (h : qz_H) : qz_C yd_SA_functions [qz_r true 0 l0] h (fn_SA_functions l0 h) := by
  refine qz_con (is := bk_SA_functions_0) (ls := [qz_r true 0 l0]) mw_SA_functions.2.2.2 ca_SA_functions_0 rfl rfl rfl fun G => ?_
  unfold fn_SA_functions bk_SA_functions_0; exact
    qz_aload_n rfl <|
    qz_getR (k1 := 6) kg_0 fl_SA_22 rfl rfl <|
    qz_nnd 0 rfl <|
    qz_getI kg_6 fl_SA_107 rfl rfl <|
    qz_ireturn ⟨rfl, rfl⟩ rfl
def fn_SA_function_16 (h : qz_H) : Option qz_R :=
  some ((-1), h)
def fn_SA_function_103 (s0 : Int) (h : qz_H) : Option qz_R :=
  some (s0, h)
set_option maxRecDepth 20000 in
def fn_SA_function (l0 : Int) (l1 : Int) (l2 : Int) (h : qz_H) : Option qz_R :=
  qz_ck ((h l0 6 : Int) ≠ 0) <|
  qz_bc (fn_Module_hasFunction (h l0 6) l1 h) fun r1 h2 =>
  if r1 = 0 then
    fn_SA_function_16 h2
  else
    if 0 ≤ l2 then
      qz_ck ((h2 l0 6 : Int) ≠ 0) <|
      qz_ck ((h2 (h2 l0 6) 0 : Int) ≠ 0) <|
      qz_ck ((0 : Int) ≤ l1 ∧ l1 < h2 (h2 (h2 l0 6) 0) (-1)) <|
      qz_bn (h2 (h2 (h2 l0 6) 0) l1 : Int) fun x3 =>
      qz_swt l2 [
        (0,
          qz_ck ((x3 : Int) ≠ 0) <|
          some (h2 x3 1, h2)),
        (1,
          qz_ck ((x3 : Int) ≠ 0) <|
          some (h2 x3 2, h2)),
        (2,
          qz_ck ((x3 : Int) ≠ 0) <|
          some (h2 x3 3, h2)),
        (3,
          qz_ck ((x3 : Int) ≠ 0) <|
          some (h2 x3 5, h2))] <|
        qz_ck ((x3 : Int) ≠ 0) <|
        qz_bc (fn_Function_hasSlot x3 (qz_w (l2 - 4)) h2) fun r4 h5 =>
        if r4 = 0 then
          fn_SA_function_103 (-1) h5
        else
          qz_ck ((x3 : Int) ≠ 0) <|
          qz_ck ((h5 x3 0 : Int) ≠ 0) <|
          qz_ck ((0 : Int) ≤ qz_w (l2 - 4) ∧ qz_w (l2 - 4) < h5 (h5 x3 0) (-1)) <|
          fn_SA_function_103 (h5 (h5 x3 0) (qz_w (l2 - 4))) h5
    else
      fn_SA_function_16 h2
def bk_SA_function_0 : List (Instr × Nat) := [(.aload_n 0, 1), (.getfield 22, 3), (.iload_n 1, 1), (.i2l, 1), (.invokevirtual 122, 3), (.ifCond .eq 7, 3), (.iload_n 2, 1), (.ifCond .ge 5, 3)]
def bk_SA_function_16 : List (Instr × Nat) := [(.iconst (-1), 1), (.ireturn, 1)]
def bk_SA_function_18 : List (Instr × Nat) := [(.aload_n 0, 1), (.getfield 22, 3), (.getfield 125, 3), (.iload_n 1, 1), (.aaload, 1), (.astore_n 3, 1), (.iload_n 2, 1), (.tableswitch 51 0 3 #[31, 36, 41, 46], 31)]
def bk_SA_function_60 : List (Instr × Nat) := [(.aload_n 3, 1), (.getfield 129, 3), (.ireturn, 1)]
def bk_SA_function_65 : List (Instr × Nat) := [(.aload_n 3, 1), (.getfield 134, 3), (.ireturn, 1)]
def bk_SA_function_70 : List (Instr × Nat) := [(.aload_n 3, 1), (.getfield 137, 3), (.ireturn, 1)]
def bk_SA_function_75 : List (Instr × Nat) := [(.aload_n 3, 1), (.getfield 140, 3), (.ireturn, 1)]
def bk_SA_function_80 : List (Instr × Nat) := [(.aload_n 3, 1), (.iload_n 2, 1), (.iconst 4, 1), (.isub, 1), (.i2l, 1), (.invokevirtual 143, 3), (.ifCond .eq 14, 3), (.aload_n 3, 1), (.getfield 146, 3), (.iload_n 2, 1), (.iconst 4, 1), (.isub, 1), (.iaload, 1), (.goto 4, 3)]
def bk_SA_function_102 : List (Instr × Nat) := [(.iconst (-1), 1)]
def bk_SA_function_103 : List (Instr × Nat) := [(.ireturn, 1)]
theorem ca_SA_function_0 : qz_ca yd_SA_function.2.1 0 bk_SA_function_0 := qz_cab_ok _ _ (by decide +kernel)
theorem ca_SA_function_16 : qz_ca yd_SA_function.2.1 16 bk_SA_function_16 := qz_cab_ok _ _ (by decide +kernel)
theorem ca_SA_function_18 : qz_ca yd_SA_function.2.1 18 bk_SA_function_18 := qz_cab_ok _ _ (by decide +kernel)
theorem ca_SA_function_60 : qz_ca yd_SA_function.2.1 60 bk_SA_function_60 := qz_cab_ok _ _ (by decide +kernel)
theorem ca_SA_function_65 : qz_ca yd_SA_function.2.1 65 bk_SA_function_65 := qz_cab_ok _ _ (by decide +kernel)
theorem ca_SA_function_70 : qz_ca yd_SA_function.2.1 70 bk_SA_function_70 := qz_cab_ok _ _ (by decide +kernel)
theorem ca_SA_function_75 : qz_ca yd_SA_function.2.1 75 bk_SA_function_75 := qz_cab_ok _ _ (by decide +kernel)
theorem ca_SA_function_80 : qz_ca yd_SA_function.2.1 80 bk_SA_function_80 := qz_cab_ok _ _ (by decide +kernel)
theorem ca_SA_function_102 : qz_ca yd_SA_function.2.1 102 bk_SA_function_102 := qz_cab_ok _ _ (by decide +kernel)
theorem ca_SA_function_103 : qz_ca yd_SA_function.2.1 103 bk_SA_function_103 := qz_cab_ok _ _ (by decide +kernel)
set_option maxRecDepth 20000 in
theorem jb_SA_function_16 (G : qz_G) (h : qz_H) : qz_J yd_SA_function G bk_SA_function_16 16 [qz_u, qz_u, qz_u, qz_u] [] h 0 0 (fn_SA_function_16 h) := by
  unfold fn_SA_function_16 bk_SA_function_16; exact
    qz_iconst rfl <|
    qz_ireturn ⟨rfl, rfl⟩ rfl
set_option maxRecDepth 20000 in
theorem jb_SA_function_103 (G : qz_G) (s0 : Int) (h : qz_H) : qz_J yd_SA_function G bk_SA_function_103 103 [qz_u, qz_u, qz_u, qz_u] [qz_i s0] h 0 0 (fn_SA_function_103 s0 h) := by
  unfold fn_SA_function_103 bk_SA_function_103; exact
    qz_ireturn ⟨rfl, rfl⟩ rfl
set_option maxRecDepth 20000 in
theorem cn_SA_function (l0 : Int) (l1 : Int) (l2 : Int) (h : qz_H) : qz_C yd_SA_function [qz_r true 0 l0, qz_i l1, qz_i l2] h (fn_SA_function l0 l1 l2 h) := by
  refine qz_con (is := bk_SA_function_0) (ls := [qz_r true 0 l0, qz_i l1, qz_i l2, qz_u]) mw_SA_function.2.2.2 ca_SA_function_0 rfl rfl rfl fun G => ?_
  unfold fn_SA_function bk_SA_function_0; exact
    qz_aload_n rfl <|
    qz_getR (k1 := 6) kg_0 fl_SA_22 rfl rfl <|
    qz_iload_n rfl <|
    qz_i2l <|
    qz_nnd 1 rfl <|
    qz_invvI [qz_j l1] rfl (cn_Module_hasFunction (h l0 6) l1 h) mw_Module_hasFunction vw_Module_hasFunction ⟨_, rfl, rfl, by decide⟩ rfl rfl ln_SA_122 rfl fun r1 h2 =>
    qz_if_eq rfl ca_SA_function_16
      (qz_fgt [0, 0, 0, 0] <| jb_SA_function_16 G h2)
      (qz_iload_n rfl <|
        qz_if_ge rfl ca_SA_function_18
          (qz_aload_n rfl <|
            qz_getR (k1 := 6) kg_0 fl_SA_22 rfl rfl <|
            qz_nnd 0 rfl <|
            qz_getR (k1 := 45) kg_6 fl_SA_125 rfl rfl <|
            qz_iload_n rfl <|
            qz_nnd 1 rfl <|
            qz_aald (k0 := 45) (k1 := 4) rfl rfl rfl <|
            qz_astore_n (by decide) fun x3 =>
            qz_iload_n rfl <|
            qz_tsw [(0, 60, bk_SA_function_60), (1, 65, bk_SA_function_65), (2, 70, bk_SA_function_70), (3, 75, bk_SA_function_75)] ca_SA_function_80 rfl rfl rfl
              ⟨ca_SA_function_60, qz_aload_n rfl <|
                qz_nnd 0 rfl <|
                qz_getI kg_4 fl_SA_129 rfl rfl <|
                qz_ireturn ⟨rfl, rfl⟩ rfl,
              ⟨ca_SA_function_65, qz_aload_n rfl <|
                qz_nnd 0 rfl <|
                qz_getI kg_4 fl_SA_134 rfl rfl <|
                qz_ireturn ⟨rfl, rfl⟩ rfl,
              ⟨ca_SA_function_70, qz_aload_n rfl <|
                qz_nnd 0 rfl <|
                qz_getI kg_4 fl_SA_137 rfl rfl <|
                qz_ireturn ⟨rfl, rfl⟩ rfl,
              ⟨ca_SA_function_75, qz_aload_n rfl <|
                qz_nnd 0 rfl <|
                qz_getI kg_4 fl_SA_140 rfl rfl <|
                qz_ireturn ⟨rfl, rfl⟩ rfl,
              trivial⟩⟩⟩⟩
              (qz_aload_n rfl <|
                qz_iload_n rfl <|
                qz_iconst rfl <|
                qz_isub <|
                qz_i2l <|
                qz_nnd 1 rfl <|
                qz_invvI [qz_j (qz_w (l2 - 4))] rfl (cn_Function_hasSlot x3 (qz_w (l2 - 4)) h2) mw_Function_hasSlot vw_Function_hasSlot ⟨_, rfl, rfl, by decide⟩ rfl rfl ln_SA_143 rfl fun r4 h5 =>
                qz_if_eq rfl ca_SA_function_102
                  (qz_iconst rfl <|
                    qz_fall rfl ca_SA_function_103 <|
                    qz_fgt [0, 0, 0, 0] <| jb_SA_function_103 G (-1) h5)
                  (qz_aload_n rfl <|
                    qz_nnd 0 rfl <|
                    qz_getR (k1 := 40) kg_4 fl_SA_146 rfl rfl <|
                    qz_iload_n rfl <|
                    qz_iconst rfl <|
                    qz_isub <|
                    qz_nnd 1 rfl <|
                    qz_iald (k0 := 40) rfl rfl rfl <|
                    qz_goto rfl ca_SA_function_103 <|
                    qz_fgt [0, 0, 0, 0] <| jb_SA_function_103 G (h5 (h5 x3 0) (qz_w (l2 - 4))) h5)))
          (qz_fall rfl ca_SA_function_16 <|
            qz_fgt [0, 0, 0, 0] <| jb_SA_function_16 G h2))
def fn_Module_hasInstruction_47 (s0 : Int) (h : qz_H) : Option qz_R :=
  qz_ck ((s0 : Int) = 0 ∨ (s0 : Int) = 1) (some (s0, h))
def fn_Module_hasInstruction_46 (h : qz_H) : Option qz_R :=
  fn_Module_hasInstruction_47 0 h
set_option maxRecDepth 20000 in
def fn_Module_hasInstruction (l0 : Int) (l1 : Int) (l2 : Int) (h : qz_H) : Option qz_R :=
  qz_bc (fn_Module_hasFunction l0 l1 h) fun r1 h2 =>
  if r1 = 0 then
    fn_Module_hasInstruction_46 h2
  else
    if l2 < 0 then
      fn_Module_hasInstruction_46 h2
    else
      qz_ck ((h2 l0 0 : Int) ≠ 0) <|
      qz_ck ((0 : Int) ≤ l1 ∧ l1 < h2 (h2 l0 0) (-1)) <|
      qz_ck ((h2 (h2 l0 0) l1 : Int) ≠ 0) <|
      if h2 (h2 (h2 l0 0) l1) 5 ≤ l2 then
        fn_Module_hasInstruction_46 h2
      else
        qz_ck ((h2 l0 0 : Int) ≠ 0) <|
        qz_ck ((0 : Int) ≤ l1 ∧ l1 < h2 (h2 l0 0) (-1)) <|
        qz_ck ((h2 (h2 l0 0) l1 : Int) ≠ 0) <|
        if 64 ≤ qz_w ((h2 (h2 (h2 l0 0) l1) 4) + l2) then
          fn_Module_hasInstruction_46 h2
        else
          fn_Module_hasInstruction_47 1 h2
def bk_Module_hasInstruction_0 : List (Instr × Nat) := [(.aload_n 0, 1), (.iload_n 1, 1), (.i2l, 1), (.invokevirtual 41, 3), (.ifCond .eq 40, 3), (.iload_n 2, 1), (.ifCond .lt 36, 3), (.iload_n 2, 1), (.aload_n 0, 1), (.getfield 11, 3), (.iload_n 1, 1), (.aaload, 1), (.getfield 45, 3), (.if_icmp .ge 23, 3), (.aload_n 0, 1), (.getfield 11, 3), (.iload_n 1, 1), (.aaload, 1), (.getfield 48, 3), (.iload_n 2, 1), (.iadd, 1), (.bipush 64, 2), (.if_icmp .ge 7, 3), (.iconst 1, 1), (.goto 4, 3)]
def bk_Module_hasInstruction_46 : List (Instr × Nat) := [(.iconst 0, 1)]
def bk_Module_hasInstruction_47 : List (Instr × Nat) := [(.ireturn, 1)]
theorem ca_Module_hasInstruction_0 : qz_ca yd_Module_hasInstruction.2.1 0 bk_Module_hasInstruction_0 := qz_cab_ok _ _ (by decide +kernel)
theorem ca_Module_hasInstruction_46 : qz_ca yd_Module_hasInstruction.2.1 46 bk_Module_hasInstruction_46 := qz_cab_ok _ _ (by decide +kernel)
theorem ca_Module_hasInstruction_47 : qz_ca yd_Module_hasInstruction.2.1 47 bk_Module_hasInstruction_47 := qz_cab_ok _ _ (by decide +kernel)
set_option maxRecDepth 20000 in
theorem jb_Module_hasInstruction_47 (G : qz_G) (s0 : Int) (h : qz_H) : qz_J yd_Module_hasInstruction G bk_Module_hasInstruction_47 47 [qz_u, qz_u, qz_u] [qz_i s0] h 0 0 (fn_Module_hasInstruction_47 s0 h) := by
  unfold fn_Module_hasInstruction_47 bk_Module_hasInstruction_47; exact
    qz_zreturn ⟨rfl, rfl⟩ rfl
set_option maxRecDepth 20000 in
theorem jb_Module_hasInstruction_46 (G : qz_G) (h : qz_H) : qz_J yd_Module_hasInstruction G bk_Module_hasInstruction_46 46 [qz_u, qz_u, qz_u] [] h 0 0 (fn_Module_hasInstruction_46 h) := by
  unfold fn_Module_hasInstruction_46 bk_Module_hasInstruction_46; exact
    qz_iconst rfl <|
    qz_fall rfl ca_Module_hasInstruction_47 <|
    qz_fgt [0, 0, 0] <| jb_Module_hasInstruction_47 G 0 h
set_option maxRecDepth 20000 in
theorem cn_Module_hasInstruction (l0 : Int) (l1 : Int) (l2 : Int) (h : qz_H) : qz_C yd_Module_hasInstruction [qz_r true 6 l0, qz_i l1, qz_i l2] h (fn_Module_hasInstruction l0 l1 l2 h) := by
  refine qz_con (is := bk_Module_hasInstruction_0) (ls := [qz_r true 6 l0, qz_i l1, qz_i l2]) mw_Module_hasInstruction.2.2.2 ca_Module_hasInstruction_0 rfl rfl rfl fun G => ?_
  unfold fn_Module_hasInstruction bk_Module_hasInstruction_0; exact
    qz_aload_n rfl <|
    qz_iload_n rfl <|
    qz_i2l <|
    qz_invvI [qz_j l1] rfl (cn_Module_hasFunction l0 l1 h) mw_Module_hasFunction vw_Module_hasFunction ⟨_, rfl, rfl, by decide⟩ rfl rfl ln_Module_41 rfl fun r1 h2 =>
    qz_if_eq rfl ca_Module_hasInstruction_46
      (qz_fgt [0, 0, 0] <| jb_Module_hasInstruction_46 G h2)
      (qz_iload_n rfl <|
        qz_if_lt rfl ca_Module_hasInstruction_46
          (qz_fgt [0, 0, 0] <| jb_Module_hasInstruction_46 G h2)
          (qz_iload_n rfl <|
            qz_aload_n rfl <|
            qz_getR (k1 := 45) kg_6 fl_Module_11 rfl rfl <|
            qz_iload_n rfl <|
            qz_nnd 1 rfl <|
            qz_aald (k0 := 45) (k1 := 4) rfl rfl rfl <|
            qz_nnd 0 rfl <|
            qz_getI kg_4 fl_Module_45 rfl rfl <|
            qz_icmp_ge rfl ca_Module_hasInstruction_46
              (qz_fgt [0, 0, 0] <| jb_Module_hasInstruction_46 G h2)
              (qz_aload_n rfl <|
                qz_getR (k1 := 45) kg_6 fl_Module_11 rfl rfl <|
                qz_iload_n rfl <|
                qz_nnd 1 rfl <|
                qz_aald (k0 := 45) (k1 := 4) rfl rfl rfl <|
                qz_nnd 0 rfl <|
                qz_getI kg_4 fl_Module_48 rfl rfl <|
                qz_iload_n rfl <|
                qz_iadd <|
                qz_bipush rfl <|
                qz_icmp_ge rfl ca_Module_hasInstruction_46
                  (qz_fgt [0, 0, 0] <| jb_Module_hasInstruction_46 G h2)
                  (qz_iconst rfl <|
                    qz_goto rfl ca_Module_hasInstruction_47 <|
                    qz_fgt [0, 0, 0] <| jb_Module_hasInstruction_47 G 1 h2))))
def fn_SA_instruction_41 (s0 : Int) (h : qz_H) : Option qz_R :=
  some (s0, h)
set_option maxRecDepth 20000 in
def fn_SA_instruction (l0 : Int) (l1 : Int) (l2 : Int) (h : qz_H) : Option qz_R :=
  qz_ck ((h l0 6 : Int) ≠ 0) <|
  qz_bc (fn_Module_hasInstruction (h l0 6) l1 l2 h) fun r1 h2 =>
  if r1 = 0 then
    fn_SA_instruction_41 (-1) h2
  else
    qz_ck ((h2 l0 6 : Int) ≠ 0) <|
    qz_ck ((h2 l0 6 : Int) ≠ 0) <|
    qz_ck ((h2 (h2 l0 6) 0 : Int) ≠ 0) <|
    qz_ck ((0 : Int) ≤ l1 ∧ l1 < h2 (h2 (h2 l0 6) 0) (-1)) <|
    qz_ck ((h2 (h2 (h2 l0 6) 0) l1 : Int) ≠ 0) <|
    qz_ck ((h2 (h2 l0 6) 1 : Int) ≠ 0) <|
    qz_ck ((0 : Int) ≤ qz_w ((h2 (h2 (h2 (h2 l0 6) 0) l1) 4) + l2) ∧ qz_w ((h2 (h2 (h2 (h2 l0 6) 0) l1) 4) + l2) < h2 (h2 (h2 l0 6) 1) (-1)) <|
    qz_ck ((h2 (h2 (h2 l0 6) 1) (qz_w ((h2 (h2 (h2 (h2 l0 6) 0) l1) 4) + l2)) : Int) ≠ 0) <|
    fn_SA_instruction_41 (h2 (h2 (h2 (h2 l0 6) 1) (qz_w ((h2 (h2 (h2 (h2 l0 6) 0) l1) 4) + l2))) 1) h2
def bk_SA_instruction_0 : List (Instr × Nat) := [(.aload_n 0, 1), (.getfield 22, 3), (.iload_n 1, 1), (.iload_n 2, 1), (.invokevirtual 150, 3), (.ifCond .eq 31, 3), (.aload_n 0, 1), (.getfield 22, 3), (.getfield 154, 3), (.aload_n 0, 1), (.getfield 22, 3), (.getfield 125, 3), (.iload_n 1, 1), (.aaload, 1), (.getfield 158, 3), (.iload_n 2, 1), (.iadd, 1), (.aaload, 1), (.getfield 161, 3), (.goto 4, 3)]
def bk_SA_instruction_40 : List (Instr × Nat) := [(.iconst (-1), 1)]
def bk_SA_instruction_41 : List (Instr × Nat) := [(.ireturn, 1)]
theorem ca_SA_instruction_0 : qz_ca yd_SA_instruction.2.1 0 bk_SA_instruction_0 := qz_cab_ok _ _ (by decide +kernel)
theorem ca_SA_instruction_40 : qz_ca yd_SA_instruction.2.1 40 bk_SA_instruction_40 := qz_cab_ok _ _ (by decide +kernel)
theorem ca_SA_instruction_41 : qz_ca yd_SA_instruction.2.1 41 bk_SA_instruction_41 := qz_cab_ok _ _ (by decide +kernel)
set_option maxRecDepth 20000 in
theorem jb_SA_instruction_41 (G : qz_G) (s0 : Int) (h : qz_H) : qz_J yd_SA_instruction G bk_SA_instruction_41 41 [qz_u, qz_u, qz_u] [qz_i s0] h 0 0 (fn_SA_instruction_41 s0 h) := by
  unfold fn_SA_instruction_41 bk_SA_instruction_41; exact
    qz_ireturn ⟨rfl, rfl⟩ rfl
set_option maxRecDepth 20000 in
theorem cn_SA_instruction (l0 : Int) (l1 : Int) (l2 : Int) (h : qz_H) : qz_C yd_SA_instruction [qz_r true 0 l0, qz_i l1, qz_i l2] h (fn_SA_instruction l0 l1 l2 h) := by
  refine qz_con (is := bk_SA_instruction_0) (ls := [qz_r true 0 l0, qz_i l1, qz_i l2]) mw_SA_instruction.2.2.2 ca_SA_instruction_0 rfl rfl rfl fun G => ?_
  unfold fn_SA_instruction bk_SA_instruction_0; exact
    qz_aload_n rfl <|
    qz_getR (k1 := 6) kg_0 fl_SA_22 rfl rfl <|
    qz_iload_n rfl <|
    qz_iload_n rfl <|
    qz_nnd 2 rfl <|
    qz_invvI [qz_i l1, qz_i l2] rfl (cn_Module_hasInstruction (h l0 6) l1 l2 h) mw_Module_hasInstruction vw_Module_hasInstruction ⟨_, rfl, rfl, by decide⟩ rfl rfl ln_SA_150 rfl fun r1 h2 =>
    qz_if_eq rfl ca_SA_instruction_40
      (qz_iconst rfl <|
        qz_fall rfl ca_SA_instruction_41 <|
        qz_fgt [0, 0, 0] <| jb_SA_instruction_41 G (-1) h2)
      (qz_aload_n rfl <|
        qz_getR (k1 := 6) kg_0 fl_SA_22 rfl rfl <|
        qz_nnd 0 rfl <|
        qz_getR (k1 := 46) kg_6 fl_SA_154 rfl rfl <|
        qz_aload_n rfl <|
        qz_getR (k1 := 6) kg_0 fl_SA_22 rfl rfl <|
        qz_nnd 0 rfl <|
        qz_getR (k1 := 45) kg_6 fl_SA_125 rfl rfl <|
        qz_iload_n rfl <|
        qz_nnd 1 rfl <|
        qz_aald (k0 := 45) (k1 := 4) rfl rfl rfl <|
        qz_nnd 0 rfl <|
        qz_getI kg_4 fl_SA_158 rfl rfl <|
        qz_iload_n rfl <|
        qz_iadd <|
        qz_nnd 1 rfl <|
        qz_aald (k0 := 46) (k1 := 7) rfl rfl rfl <|
        qz_nnd 0 rfl <|
        qz_getI kg_7 fl_SA_161 rfl rfl <|
        qz_goto rfl ca_SA_instruction_41 <|
        qz_fgt [0, 0, 0] <| jb_SA_instruction_41 G (h2 (h2 (h2 (h2 l0 6) 1) (qz_w ((h2 (h2 (h2 (h2 l0 6) 0) l1) 4) + l2))) 1) h2)
def fn_SA_immediate_38 (s0 : Int) (h : qz_H) : Option qz_R :=
  some (s0, h)
set_option maxRecDepth 20000 in
def fn_SA_immediate (l0 : Int) (l1 : Int) (l2 : Int) (h : qz_H) : Option qz_R :=
  qz_ck ((h l0 6 : Int) ≠ 0) <|
  qz_bc (fn_Module_hasInstruction (h l0 6) l1 l2 h) fun r1 h2 =>
  if r1 = 0 then
    fn_SA_immediate_38 0 h2
  else
    qz_ck ((h2 l0 6 : Int) ≠ 0) <|
    qz_ck ((h2 l0 6 : Int) ≠ 0) <|
    qz_ck ((h2 (h2 l0 6) 0 : Int) ≠ 0) <|
    qz_ck ((0 : Int) ≤ l1 ∧ l1 < h2 (h2 (h2 l0 6) 0) (-1)) <|
    qz_ck ((h2 (h2 (h2 l0 6) 0) l1 : Int) ≠ 0) <|
    qz_ck ((h2 (h2 l0 6) 2 : Int) ≠ 0) <|
    qz_ck ((0 : Int) ≤ qz_w ((h2 (h2 (h2 (h2 l0 6) 0) l1) 4) + l2) ∧ qz_w ((h2 (h2 (h2 (h2 l0 6) 0) l1) 4) + l2) < h2 (h2 (h2 l0 6) 2) (-1)) <|
    fn_SA_immediate_38 (h2 (h2 (h2 l0 6) 2) (qz_w ((h2 (h2 (h2 (h2 l0 6) 0) l1) 4) + l2))) h2
def bk_SA_immediate_0 : List (Instr × Nat) := [(.aload_n 0, 1), (.getfield 22, 3), (.iload_n 1, 1), (.iload_n 2, 1), (.invokevirtual 150, 3), (.ifCond .eq 28, 3), (.aload_n 0, 1), (.getfield 22, 3), (.getfield 166, 3), (.aload_n 0, 1), (.getfield 22, 3), (.getfield 125, 3), (.iload_n 1, 1), (.aaload, 1), (.getfield 158, 3), (.iload_n 2, 1), (.iadd, 1), (.laload, 1), (.goto 4, 3)]
def bk_SA_immediate_37 : List (Instr × Nat) := [(.lconst 0, 1)]
def bk_SA_immediate_38 : List (Instr × Nat) := [(.lreturn, 1)]
theorem ca_SA_immediate_0 : qz_ca yd_SA_immediate.2.1 0 bk_SA_immediate_0 := qz_cab_ok _ _ (by decide +kernel)
theorem ca_SA_immediate_37 : qz_ca yd_SA_immediate.2.1 37 bk_SA_immediate_37 := qz_cab_ok _ _ (by decide +kernel)
theorem ca_SA_immediate_38 : qz_ca yd_SA_immediate.2.1 38 bk_SA_immediate_38 := qz_cab_ok _ _ (by decide +kernel)
set_option maxRecDepth 20000 in
theorem jb_SA_immediate_38 (G : qz_G) (s0 : Int) (h : qz_H) : qz_J yd_SA_immediate G bk_SA_immediate_38 38 [qz_u, qz_u, qz_u] [qz_j s0] h 0 0 (fn_SA_immediate_38 s0 h) := by
  unfold fn_SA_immediate_38 bk_SA_immediate_38; exact
    qz_lreturn ⟨rfl, rfl⟩ rfl
set_option maxRecDepth 20000 in
theorem cn_SA_immediate (l0 : Int) (l1 : Int) (l2 : Int) (h : qz_H) : qz_C yd_SA_immediate [qz_r true 0 l0, qz_i l1, qz_i l2] h (fn_SA_immediate l0 l1 l2 h) := by
  refine qz_con (is := bk_SA_immediate_0) (ls := [qz_r true 0 l0, qz_i l1, qz_i l2]) mw_SA_immediate.2.2.2 ca_SA_immediate_0 rfl rfl rfl fun G => ?_
  unfold fn_SA_immediate bk_SA_immediate_0; exact
    qz_aload_n rfl <|
    qz_getR (k1 := 6) kg_0 fl_SA_22 rfl rfl <|
    qz_iload_n rfl <|
    qz_iload_n rfl <|
    qz_nnd 2 rfl <|
    qz_invvI [qz_i l1, qz_i l2] rfl (cn_Module_hasInstruction (h l0 6) l1 l2 h) mw_Module_hasInstruction vw_Module_hasInstruction ⟨_, rfl, rfl, by decide⟩ rfl rfl ln_SA_150 rfl fun r1 h2 =>
    qz_if_eq rfl ca_SA_immediate_37
      (qz_lconst rfl <|
        qz_fall rfl ca_SA_immediate_38 <|
        qz_fgt [0, 0, 0] <| jb_SA_immediate_38 G 0 h2)
      (qz_aload_n rfl <|
        qz_getR (k1 := 6) kg_0 fl_SA_22 rfl rfl <|
        qz_nnd 0 rfl <|
        qz_getR (k1 := 41) kg_6 fl_SA_166 rfl rfl <|
        qz_aload_n rfl <|
        qz_getR (k1 := 6) kg_0 fl_SA_22 rfl rfl <|
        qz_nnd 0 rfl <|
        qz_getR (k1 := 45) kg_6 fl_SA_125 rfl rfl <|
        qz_iload_n rfl <|
        qz_nnd 1 rfl <|
        qz_aald (k0 := 45) (k1 := 4) rfl rfl rfl <|
        qz_nnd 0 rfl <|
        qz_getI kg_4 fl_SA_158 rfl rfl <|
        qz_iload_n rfl <|
        qz_iadd <|
        qz_nnd 1 rfl <|
        qz_lald (k0 := 41) rfl rfl rfl <|
        qz_goto rfl ca_SA_immediate_38 <|
        qz_fgt [0, 0, 0] <| jb_SA_immediate_38 G (h2 (h2 (h2 l0 6) 2) (qz_w ((h2 (h2 (h2 (h2 l0 6) 0) l1) 4) + l2))) h2)
