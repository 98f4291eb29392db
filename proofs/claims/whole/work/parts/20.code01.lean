set_option maxRecDepth 20000 in
def fn_Preconditions_checkIndex (l0 : Int) (l1 : Int) (h : qz_H) : Option qz_R :=
  if l0 < 0 then
    none
  else
    if l0 < l1 then
      some (l0, h)
    else
      none
def bk_Preconditions_checkIndex_0 : List (Instr × Nat) := [(.iload_n 0, 1), (.ifCond .lt 8, 3), (.iload_n 0, 1), (.iload_n 1, 1), (.if_icmp .lt 10, 3)]
def bk_Preconditions_checkIndex_9 : List (Instr × Nat) := [(.aload_n 2, 1), (.iload_n 0, 1), (.iload_n 1, 1), (.invokestatic 95, 3), (.athrow, 1)]
def bk_Preconditions_checkIndex_16 : List (Instr × Nat) := [(.iload_n 0, 1), (.ireturn, 1)]
theorem ca_Preconditions_checkIndex_0 : qz_ca yd_Preconditions_checkIndex.2.1 0 bk_Preconditions_checkIndex_0 := qz_cab_ok _ _ (by decide +kernel)
theorem ca_Preconditions_checkIndex_9 : qz_ca yd_Preconditions_checkIndex.2.1 9 bk_Preconditions_checkIndex_9 := qz_cab_ok _ _ (by decide +kernel)
theorem ca_Preconditions_checkIndex_16 : qz_ca yd_Preconditions_checkIndex.2.1 16 bk_Preconditions_checkIndex_16 := qz_cab_ok _ _ (by decide +kernel)
set_option maxRecDepth 20000 in
theorem cn_Preconditions_checkIndex (l0 : Int) (l1 : Int) (l2 : Option Nat) (h : qz_H) : qz_C yd_Preconditions_checkIndex [qz_i l0, qz_i l1, qz_o l2] h (fn_Preconditions_checkIndex l0 l1 h) := by
  refine qz_con (is := bk_Preconditions_checkIndex_0) (ls := [qz_i l0, qz_i l1, qz_o l2]) mw_Preconditions_checkIndex.2.2.2 ca_Preconditions_checkIndex_0 rfl rfl rfl fun G => ?_
  unfold fn_Preconditions_checkIndex bk_Preconditions_checkIndex_0; exact
    qz_iload_n rfl <|
    qz_if_lt rfl ca_Preconditions_checkIndex_9
      (qz_none)
      (qz_iload_n rfl <|
        qz_iload_n rfl <|
        qz_icmp_lt rfl ca_Preconditions_checkIndex_16
          (qz_iload_n rfl <|
            qz_ireturn ⟨rfl, rfl⟩ rfl)
          (qz_fall rfl ca_Preconditions_checkIndex_9 <|
            qz_none))
set_option maxRecDepth 20000 in
def fn_String_checkIndex (l0 : Int) (l1 : Int) (h : qz_H) : Option qz_R :=
  qz_bc (fn_Preconditions_checkIndex l0 l1 h) fun r2 h3 =>
  some (0, h3)
def bk_String_checkIndex_0 : List (Instr × Nat) := [(.iload_n 0, 1), (.iload_n 1, 1), (.getstatic 1053, 3), (.invokestatic 1059, 3), (.pop, 1), (.return_, 1)]
theorem ca_String_checkIndex_0 : qz_ca yd_String_checkIndex.2.1 0 bk_String_checkIndex_0 := qz_cab_ok _ _ (by decide +kernel)
set_option maxRecDepth 20000 in
theorem cn_String_checkIndex (l0 : Int) (l1 : Int) (h : qz_H) : qz_C yd_String_checkIndex [qz_i l0, qz_i l1] h (fn_String_checkIndex l0 l1 h) := by
  refine qz_con (is := bk_String_checkIndex_0) (ls := [qz_i l0, qz_i l1]) mw_String_checkIndex.2.2.2 ca_String_checkIndex_0 rfl rfl rfl fun G => ?_
  unfold fn_String_checkIndex bk_String_checkIndex_0; exact
    qz_iload_n rfl <|
    qz_iload_n rfl <|
    qz_getsO (List.mem_of_getElem? (i := 0) rfl) sl_java_lang_String_1053 fun o1 =>
    qz_invsI [qz_i l0, qz_i l1, qz_o o1] rfl (cn_Preconditions_checkIndex l0 l1 o1 h) mw_Preconditions_checkIndex vs_Preconditions_checkIndex rfl rfl ln_java_lang_String_1059 rfl fun r2 h3 =>
    qz_pop rfl <|
    qz_return ⟨rfl, rfl⟩ rfl
set_option maxRecDepth 20000 in
def fn_StringLatin1_charAt (l0 : Int) (l1 : Int) (h : qz_H) : Option qz_R :=
  qz_ck ((l0 : Int) ≠ 0) <|
  qz_bc (fn_String_checkIndex l1 (h l0 (-1)) h) fun _ h2 =>
  qz_ck ((l0 : Int) ≠ 0) <|
  qz_ck ((0 : Int) ≤ l1 ∧ l1 < h2 l0 (-1)) <|
  qz_ck ((0 : Int) ≤ qz_i2c (qz_and (h2 l0 l1) 255) ∧ (qz_i2c (qz_and (h2 l0 l1) 255) : Int) ≤ 65535) (some (qz_i2c (qz_and (h2 l0 l1) 255), h2))
def bk_StringLatin1_charAt_0 : List (Instr × Nat) := [(.iload_n 1, 1), (.aload_n 0, 1), (.arraylength, 1), (.invokestatic 9, 3), (.aload_n 0, 1), (.iload_n 1, 1), (.baload, 1), (.sipush 255, 3), (.iand, 1), (.i2c, 1), (.ireturn, 1)]
theorem ca_StringLatin1_charAt_0 : qz_ca yd_StringLatin1_charAt.2.1 0 bk_StringLatin1_charAt_0 := qz_cab_ok _ _ (by decide +kernel)
set_option maxRecDepth 20000 in
theorem cn_StringLatin1_charAt (l0 : Int) (l1 : Int) (h : qz_H) : qz_C yd_StringLatin1_charAt [qz_r false 43 l0, qz_i l1] h (fn_StringLatin1_charAt l0 l1 h) := by
  refine qz_con (is := bk_StringLatin1_charAt_0) (ls := [qz_r false 43 l0, qz_i l1]) mw_StringLatin1_charAt.2.2.2 ca_StringLatin1_charAt_0 rfl rfl rfl fun G => ?_
  unfold fn_StringLatin1_charAt bk_StringLatin1_charAt_0; exact
    qz_iload_n rfl <|
    qz_aload_n rfl <|
    qz_nnd 0 rfl <|
    qz_alen (k0 := 43) rfl <|
    qz_invsV [qz_i l1, qz_i (h l0 (-1))] rfl (cn_String_checkIndex l1 (h l0 (-1)) h) mw_String_checkIndex vs_String_checkIndex rfl rfl ln_java_lang_StringLatin1_9 rfl fun _ h2 =>
    qz_aload_n rfl <|
    qz_iload_n rfl <|
    qz_nnd 1 rfl <|
    qz_bald (k0 := 43) rfl rfl rfl <|
    qz_sipush rfl <|
    qz_iand <|
    qz_ins_i2c <|
    qz_creturn ⟨rfl, rfl⟩ rfl
set_option maxRecDepth 20000 in
def fn_String_charAt (l0 : Int) (l1 : Int) (h : qz_H) : Option qz_R :=
  qz_bc (fn_String_isLatin1 l0 h) fun r1 h2 =>
  if r1 = 0 then
    none
  else
    qz_bc (fn_StringLatin1_charAt (h2 l0 0) l1 h2) fun r3 h4 =>
    qz_ck ((0 : Int) ≤ r3 ∧ (r3 : Int) ≤ 65535) (some (r3, h4))
def bk_String_charAt_0 : List (Instr × Nat) := [(.aload_n 0, 1), (.invokevirtual 492, 3), (.ifCond .eq 12, 3), (.aload_n 0, 1), (.getfield 9, 3), (.iload_n 1, 1), (.invokestatic 495, 3), (.ireturn, 1)]
def bk_String_charAt_16 : List (Instr × Nat) := [(.aload_n 0, 1), (.getfield 9, 3), (.iload_n 1, 1), (.invokestatic 498, 3), (.ireturn, 1)]
theorem ca_String_charAt_0 : qz_ca yd_String_charAt.2.1 0 bk_String_charAt_0 := qz_cab_ok _ _ (by decide +kernel)
theorem ca_String_charAt_16 : qz_ca yd_String_charAt.2.1 16 bk_String_charAt_16 := qz_cab_ok _ _ (by decide +kernel)
set_option maxRecDepth 20000 in
theorem cn_String_charAt (l0 : Int) (l1 : Int) (h : qz_H) : qz_C yd_String_charAt [qz_r true 13 l0, qz_i l1] h (fn_String_charAt l0 l1 h) := by
  refine qz_con (is := bk_String_charAt_0) (ls := [qz_r true 13 l0, qz_i l1]) mw_String_charAt.2.2.2 ca_String_charAt_0 rfl rfl rfl fun G => ?_
  unfold fn_String_charAt bk_String_charAt_0; exact
    qz_aload_n rfl <|
    qz_invvI [] rfl (cn_String_isLatin1 l0 h) mw_String_isLatin1 vw_String_isLatin1 ⟨_, rfl, rfl, by decide⟩ rfl rfl ln_java_lang_String_492 rfl fun r1 h2 =>
    qz_if_eq rfl ca_String_charAt_16
      (qz_none)
      (qz_aload_n rfl <|
        qz_getR (k1 := 43) kg_13 fl_java_lang_String_9 rfl rfl <|
        qz_iload_n rfl <|
        qz_invsI [qz_r false 43 (h2 l0 0), qz_i l1] rfl (cn_StringLatin1_charAt (h2 l0 0) l1 h2) mw_StringLatin1_charAt vs_StringLatin1_charAt rfl rfl ln_java_lang_String_495 rfl fun r3 h4 =>
        qz_creturn ⟨rfl, rfl⟩ rfl)
def fn_Scanner_is_24 (h : qz_H) : Option qz_R :=
  qz_ck ((0 : Int) = 0 ∨ (0 : Int) = 1) (some (0, h))
def fn_Scanner_is_28_b (k28 : Int → Int → Int → qz_H → Option qz_R) (l0 : Int) (l1 : Int) (l2 : Int) (h : qz_H) : Option qz_R :=
  qz_ck ((l1 : Int) ≠ 0) <|
  qz_bc (fn_String_length l1 h) fun r1 h2 =>
  if r1 ≤ l2 then
    qz_ck ((1 : Int) = 0 ∨ (1 : Int) = 1) (some (1, h2))
  else
    qz_ck ((h2 l0 0 : Int) ≠ 0) <|
    qz_bc (fn_Text_at (h2 l0 0) (qz_w ((h2 l0 2) + l2)) h2) fun r3 h4 =>
    qz_ck ((l1 : Int) ≠ 0) <|
    qz_bc (fn_String_charAt l1 l2 h4) fun r5 h6 =>
    if r3 = r5 then
      qz_bn (qz_w (l2 + 1)) fun x7 =>
      k28 l0 l1 x7 h6
    else
      qz_ck ((0 : Int) = 0 ∨ (0 : Int) = 1) (some (0, h6))
def fn_Scanner_is_28 : Nat → Int → Int → Int → qz_H → Option qz_R
  | 0, _, _, _, _ => none
  | n + 1, l0, l1, l2, h => fn_Scanner_is_28_b (fn_Scanner_is_28 n) l0 l1 l2 h
set_option maxRecDepth 20000 in
def fn_Scanner_is (l0 : Int) (l1 : Int) (h : qz_H) : Option qz_R :=
  if ¬ h l0 1 = 2 then
    fn_Scanner_is_24 h
  else
    qz_ck ((l1 : Int) ≠ 0) <|
    qz_bc (fn_String_length l1 h) fun r1 h2 =>
    if qz_w ((h l0 3) - (h l0 2)) = r1 then
      qz_bn (0 : Int) fun x3 =>
      fn_Scanner_is_28 qz_NF l0 l1 x3 h2
    else
      fn_Scanner_is_24 h2
def bk_Scanner_is_0 : List (Instr × Nat) := [(.aload_n 0, 1), (.getfield 15, 3), (.iconst 2, 1), (.if_icmp .ne 19, 3), (.aload_n 0, 1), (.getfield 22, 3), (.aload_n 0, 1), (.getfield 19, 3), (.isub, 1), (.aload_n 1, 1), (.invokevirtual 62, 3), (.if_icmp .eq 5, 3)]
def bk_Scanner_is_24 : List (Instr × Nat) := [(.iconst 0, 1), (.ireturn, 1)]
def bk_Scanner_is_26 : List (Instr × Nat) := [(.iconst 0, 1), (.istore_n 2, 1)]
def bk_Scanner_is_28 : List (Instr × Nat) := [(.iload_n 2, 1), (.aload_n 1, 1), (.invokevirtual 62, 3), (.if_icmp .ge 32, 3), (.aload_n 0, 1), (.getfield 9, 3), (.aload_n 0, 1), (.getfield 19, 3), (.iload_n 2, 1), (.iadd, 1), (.invokevirtual 29, 3), (.aload_n 1, 1), (.iload_n 2, 1), (.invokevirtual 67, 3), (.if_icmp .eq 5, 3), (.iconst 0, 1), (.ireturn, 1)]
def bk_Scanner_is_65 : List (Instr × Nat) := [(.iconst 1, 1), (.ireturn, 1)]
def bk_Scanner_is_59 : List (Instr × Nat) := [(.iinc 2 1, 3), (.goto (-34), 3)]
theorem ca_Scanner_is_0 : qz_ca yd_Scanner_is.2.1 0 bk_Scanner_is_0 := qz_cab_ok _ _ (by decide +kernel)
theorem ca_Scanner_is_24 : qz_ca yd_Scanner_is.2.1 24 bk_Scanner_is_24 := qz_cab_ok _ _ (by decide +kernel)
theorem ca_Scanner_is_26 : qz_ca yd_Scanner_is.2.1 26 bk_Scanner_is_26 := qz_cab_ok _ _ (by decide +kernel)
theorem ca_Scanner_is_28 : qz_ca yd_Scanner_is.2.1 28 bk_Scanner_is_28 := qz_cab_ok _ _ (by decide +kernel)
theorem ca_Scanner_is_65 : qz_ca yd_Scanner_is.2.1 65 bk_Scanner_is_65 := qz_cab_ok _ _ (by decide +kernel)
theorem ca_Scanner_is_59 : qz_ca yd_Scanner_is.2.1 59 bk_Scanner_is_59 := qz_cab_ok _ _ (by decide +kernel)
set_option maxRecDepth 20000 in
theorem jb_Scanner_is_24 (G : qz_G) (h : qz_H) : qz_J yd_Scanner_is G bk_Scanner_is_24 24 [qz_u, qz_u, qz_u] [] h 0 0 (fn_Scanner_is_24 h) := by
  unfold fn_Scanner_is_24 bk_Scanner_is_24; exact
    qz_iconst rfl <|
    qz_zreturn ⟨rfl, rfl⟩ rfl
set_option maxRecDepth 20000 in
theorem jb_Scanner_is_28_b (G : qz_G) (k28 : Int → Int → Int → qz_H → Option qz_R) (jk28 : ∀ (l0 : Int) (l1 : Int) (l2 : Int) (h : qz_H), qz_J yd_Scanner_is G bk_Scanner_is_28 28 [qz_r true 10 l0, qz_r false 13 l1, qz_i l2] [] h 0 0 (k28 l0 l1 l2 h)) (l0 : Int) (l1 : Int) (l2 : Int) (h : qz_H) : qz_J yd_Scanner_is G bk_Scanner_is_28 28 [qz_r true 10 l0, qz_r false 13 l1, qz_i l2] [] h 0 0 (fn_Scanner_is_28_b k28 l0 l1 l2 h) := by
  unfold fn_Scanner_is_28_b bk_Scanner_is_28; exact
    qz_iload_n rfl <|
    qz_aload_n rfl <|
    qz_nnd 0 rfl <|
    qz_invvI [] rfl (cn_String_length l1 h) mw_String_length vw_String_length ⟨_, rfl, rfl, by decide⟩ rfl rfl ln_Scanner_62 rfl fun r1 h2 =>
    qz_icmp_ge rfl ca_Scanner_is_65
      (qz_iconst rfl <|
        qz_zreturn ⟨rfl, rfl⟩ rfl)
      (qz_aload_n rfl <|
        qz_getR (k1 := 11) kg_10 fl_Scanner_9 rfl rfl <|
        qz_aload_n rfl <|
        qz_getI kg_10 fl_Scanner_19 rfl rfl <|
        qz_iload_n rfl <|
        qz_iadd <|
        qz_nnd 1 rfl <|
        qz_invvI [qz_i (qz_w ((h2 l0 2) + l2))] rfl (cn_Text_at (h2 l0 0) (qz_w ((h2 l0 2) + l2)) h2) mw_Text_at vw_Text_at ⟨_, rfl, rfl, by decide⟩ rfl rfl ln_Scanner_29 rfl fun r3 h4 =>
        qz_aload_n rfl <|
        qz_iload_n rfl <|
        qz_nnd 1 rfl <|
        qz_invvI [qz_i l2] rfl (cn_String_charAt l1 l2 h4) mw_String_charAt vw_String_charAt ⟨_, rfl, rfl, by decide⟩ rfl rfl ln_Scanner_67 rfl fun r5 h6 =>
        qz_icmp_eq rfl ca_Scanner_is_59
          (qz_iinc rfl (by decide) fun x7 =>
            qz_goto rfl ca_Scanner_is_28 <|
            qz_fgt [1, 1, 1] <| jk28 l0 l1 x7 h6)
          (qz_iconst rfl <|
            qz_zreturn ⟨rfl, rfl⟩ rfl))
theorem jb_Scanner_is_28 (G : qz_G) : ∀ (n : Nat) (l0 l1 l2 : Int) (h : qz_H), qz_J yd_Scanner_is G bk_Scanner_is_28 28 [qz_r true 10 l0, qz_r false 13 l1, qz_i l2] [] h 0 0 (fn_Scanner_is_28 n l0 l1 l2 h)
  | 0, _, _, _, _ => qz_none
  | n + 1, l0, l1, l2, h => jb_Scanner_is_28_b G (fn_Scanner_is_28 n) (jb_Scanner_is_28 G n) l0 l1 l2 h
set_option maxRecDepth 20000 in
theorem cn_Scanner_is (l0 : Int) (l1 : Int) (h : qz_H) : qz_C yd_Scanner_is [qz_r true 10 l0, qz_r false 13 l1] h (fn_Scanner_is l0 l1 h) := by
  refine qz_con (is := bk_Scanner_is_0) (ls := [qz_r true 10 l0, qz_r false 13 l1, qz_u]) mw_Scanner_is.2.2.2 ca_Scanner_is_0 rfl rfl rfl fun G => ?_
  unfold fn_Scanner_is bk_Scanner_is_0; exact
    qz_aload_n rfl <|
    qz_getI kg_10 fl_Scanner_15 rfl rfl <|
    qz_iconst rfl <|
    qz_icmp_ne rfl ca_Scanner_is_24
      (qz_fgt [0, 0, 0] <| jb_Scanner_is_24 G h)
      (qz_aload_n rfl <|
        qz_getI kg_10 fl_Scanner_22 rfl rfl <|
        qz_aload_n rfl <|
        qz_getI kg_10 fl_Scanner_19 rfl rfl <|
        qz_isub <|
        qz_aload_n rfl <|
        qz_nnd 0 rfl <|
        qz_invvI [] rfl (cn_String_length l1 h) mw_String_length vw_String_length ⟨_, rfl, rfl, by decide⟩ rfl rfl ln_Scanner_62 rfl fun r1 h2 =>
        qz_icmp_eq rfl ca_Scanner_is_26
          (qz_iconst rfl <|
            qz_istore_n (by decide) fun x3 =>
            qz_fall rfl ca_Scanner_is_28 <|
            qz_fgt [1, 1, 1] <| jb_Scanner_is_28 G qz_NF l0 l1 x3 h2)
          (qz_fall rfl ca_Scanner_is_24 <|
            qz_fgt [0, 0, 0] <| jb_Scanner_is_24 G h2))
def fn_Scanner_findOp_2_b (k2 : Int → Int → qz_H → Option qz_R) (l0 : Int) (l1 : Int) (h : qz_H) : Option qz_R :=
  if h (-31) (-1) ≤ l1 then
    some (0, h)
  else
    qz_ck ((0 : Int) ≤ l1 ∧ l1 < h (-31) (-1)) <|
    qz_ck ((h (-31) l1 : Int) ≠ 0) <|
    qz_bc (fn_Scanner_is l0 (h (h (-31) l1) 0) h) fun r1 h2 =>
    if r1 = 0 then
      qz_bn (qz_w (l1 + 1)) fun x3 =>
      k2 l0 x3 h2
    else
      qz_ck ((0 : Int) ≤ l1 ∧ l1 < h2 (-31) (-1)) <|
      some (h2 (-31) l1, h2)
def fn_Scanner_findOp_2 : Nat → Int → Int → qz_H → Option qz_R
  | 0, _, _, _ => none
  | n + 1, l0, l1, h => fn_Scanner_findOp_2_b (fn_Scanner_findOp_2 n) l0 l1 h
set_option maxRecDepth 20000 in
def fn_Scanner_findOp (l0 : Int) (h : qz_H) : Option qz_R :=
  qz_bn (0 : Int) fun x1 =>
  fn_Scanner_findOp_2 qz_NF l0 x1 h
def bk_Scanner_findOp_0 : List (Instr × Nat) := [(.iconst 0, 1), (.istore_n 1, 1)]
def bk_Scanner_findOp_2 : List (Instr × Nat) := [(.iload_n 1, 1), (.getstatic 78, 3), (.arraylength, 1), (.if_icmp .ge 30, 3), (.aload_n 0, 1), (.getstatic 78, 3), (.iload_n 1, 1), (.aaload, 1), (.getfield 84, 3), (.invokevirtual 72, 3), (.ifCond .eq 9, 3), (.getstatic 78, 3), (.iload_n 1, 1), (.aaload, 1), (.areturn, 1)]
def bk_Scanner_findOp_37 : List (Instr × Nat) := [(.aconst_null, 1), (.areturn, 1)]
def bk_Scanner_findOp_31 : List (Instr × Nat) := [(.iinc 1 1, 3), (.goto (-32), 3)]
theorem ca_Scanner_findOp_0 : qz_ca yd_Scanner_findOp.2.1 0 bk_Scanner_findOp_0 := qz_cab_ok _ _ (by decide +kernel)
theorem ca_Scanner_findOp_2 : qz_ca yd_Scanner_findOp.2.1 2 bk_Scanner_findOp_2 := qz_cab_ok _ _ (by decide +kernel)
theorem ca_Scanner_findOp_37 : qz_ca yd_Scanner_findOp.2.1 37 bk_Scanner_findOp_37 := qz_cab_ok _ _ (by decide +kernel)
theorem ca_Scanner_findOp_31 : qz_ca yd_Scanner_findOp.2.1 31 bk_Scanner_findOp_31 := qz_cab_ok _ _ (by decide +kernel)
set_option maxRecDepth 20000 in
theorem jb_Scanner_findOp_2_b (G : qz_G) (k2 : Int → Int → qz_H → Option qz_R) (jk2 : ∀ (l0 : Int) (l1 : Int) (h : qz_H), qz_J yd_Scanner_findOp G bk_Scanner_findOp_2 2 [qz_r true 10 l0, qz_i l1] [] h 0 0 (k2 l0 l1 h)) (l0 : Int) (l1 : Int) (h : qz_H) : qz_J yd_Scanner_findOp G bk_Scanner_findOp_2 2 [qz_r true 10 l0, qz_i l1] [] h 0 0 (fn_Scanner_findOp_2_b k2 l0 l1 h) := by
  unfold fn_Scanner_findOp_2_b bk_Scanner_findOp_2; exact
    qz_iload_n rfl <|
    qz_getsR sz_Op_ALL sl_Scanner_78 rfl <|
    qz_alen (k0 := 46) rfl <|
    qz_icmp_ge rfl ca_Scanner_findOp_37
      (qz_null 7 <|
        qz_areturn ⟨rfl, rfl, by decide⟩ rfl)
      (qz_aload_n rfl <|
        qz_getsR sz_Op_ALL sl_Scanner_78 rfl <|
        qz_iload_n rfl <|
        qz_aald (k0 := 46) (k1 := 7) rfl rfl rfl <|
        qz_nnd 0 rfl <|
        qz_getR (k1 := 13) kg_7 fl_Scanner_84 rfl rfl <|
        qz_invvI [qz_r false 13 (h (h (-31) l1) 0)] rfl (cn_Scanner_is l0 (h (h (-31) l1) 0) h) mw_Scanner_is vw_Scanner_is ⟨_, rfl, rfl, by decide⟩ rfl rfl ln_Scanner_72 rfl fun r1 h2 =>
        qz_if_eq rfl ca_Scanner_findOp_31
          (qz_iinc rfl (by decide) fun x3 =>
            qz_goto rfl ca_Scanner_findOp_2 <|
            qz_fgt [1, 1] <| jk2 l0 x3 h2)
          (qz_getsR sz_Op_ALL sl_Scanner_78 rfl <|
            qz_iload_n rfl <|
            qz_aald (k0 := 46) (k1 := 7) rfl rfl rfl <|
            qz_areturn ⟨rfl, rfl, by decide⟩ rfl))
theorem jb_Scanner_findOp_2 (G : qz_G) : ∀ (n : Nat) (l0 l1 : Int) (h : qz_H), qz_J yd_Scanner_findOp G bk_Scanner_findOp_2 2 [qz_r true 10 l0, qz_i l1] [] h 0 0 (fn_Scanner_findOp_2 n l0 l1 h)
  | 0, _, _, _ => qz_none
  | n + 1, l0, l1, h => jb_Scanner_findOp_2_b G (fn_Scanner_findOp_2 n) (jb_Scanner_findOp_2 G n) l0 l1 h
set_option maxRecDepth 20000 in
theorem cn_Scanner_findOp (l0 : Int) (h : qz_H) : qz_C yd_Scanner_findOp [qz_r true 10 l0] h (fn_Scanner_findOp l0 h) := by
  refine qz_con (is := bk_Scanner_findOp_0) (ls := [qz_r true 10 l0, qz_u]) mw_Scanner_findOp.2.2.2 ca_Scanner_findOp_0 rfl rfl rfl fun G => ?_
  unfold fn_Scanner_findOp bk_Scanner_findOp_0; exact
    qz_iconst rfl <|
    qz_istore_n (by decide) fun x1 =>
    qz_fall rfl ca_Scanner_findOp_2 <|
    qz_fgt [1, 1] <| jb_Scanner_findOp_2 G qz_NF l0 x1 h
def fn_Scanner_next_146 (l0 : Int) (h : qz_H) : Option qz_R :=
  qz_bc (fn_Scanner_findOp l0 h) fun r1 h2 =>
  qz_ck ((0 : Int) < l0) <|
  qz_bn (qz_up h2 l0 4 r1) fun h3 =>
  some (0, h3)
def fn_Scanner_next_94 (l0 : Int) (s0 : Int) (s1 : Int) (h : qz_H) : Option qz_R :=
  qz_ck ((0 : Int) < s0) <|
  qz_bn (qz_up h s0 1 s1) fun h1 =>
  fn_Scanner_next_146 l0 h1
set_option maxRecDepth 20000 in
def fn_Scanner_next (l0 : Int) (h : qz_H) : Option qz_R :=
  qz_bc (fn_Scanner_behindGaps l0 (h l0 3) h) fun r1 h2 =>
  qz_ck ((0 : Int) < l0) <|
  qz_bn (qz_up h2 l0 2 r1) fun h3 =>
  qz_ck ((0 : Int) < l0) <|
  qz_bn (qz_up h3 l0 3 (qz_w ((h3 l0 2) + 1))) fun h4 =>
  qz_ck ((h4 l0 0 : Int) ≠ 0) <|
  qz_bc (fn_Text_at (h4 l0 0) (h4 l0 2) h4) fun r5 h6 =>
  qz_bn (r5 : Int) fun x7 =>
  qz_ck ((h6 l0 0 : Int) ≠ 0) <|
  if h6 l0 2 < h6 (h6 l0 0) 1 then
    if ¬ x7 = 40 then
      if ¬ x7 = 41 then
        qz_bc (fn_Scanner_isOfWord x7 h6) fun r8 h9 =>
        if r8 = 0 then
          qz_ck ((0 : Int) < l0) <|
          qz_bn (qz_up h9 l0 1 3) fun h10 =>
          fn_Scanner_next_146 l0 h10
        else
          qz_ck ((0 : Int) < l0) <|
          qz_bn (qz_up h9 l0 1 2) fun h11 =>
          qz_bc (fn_Scanner_behindWord l0 (h11 l0 2) h11) fun r12 h13 =>
          qz_ck ((0 : Int) < l0) <|
          qz_bn (qz_up h13 l0 3 r12) fun h14 =>
          fn_Scanner_next_146 l0 h14
      else
        qz_ck ((0 : Int) < l0) <|
        qz_bn (qz_up h6 l0 1 1) fun h15 =>
        fn_Scanner_next_146 l0 h15
    else
      qz_ck ((h6 l0 0 : Int) ≠ 0) <|
      qz_bc (fn_Text_at (h6 l0 0) (qz_w ((h6 l0 2) + 1)) h6) fun r16 h17 =>
      if ¬ r16 = 59 then
        fn_Scanner_next_94 l0 l0 0 h17
      else
        fn_Scanner_next_94 l0 l0 3 h17
  else
    qz_ck ((0 : Int) < l0) <|
    qz_bn (qz_up h6 l0 1 4) fun h18 =>
    qz_ck ((0 : Int) < l0) <|
    qz_bn (qz_up h18 l0 3 (h18 l0 2)) fun h19 =>
    fn_Scanner_next_146 l0 h19
def bk_Scanner_next_0 : List (Instr × Nat) := [(.aload_n 0, 1), (.aload_n 0, 1), (.aload_n 0, 1), (.getfield 22, 3), (.invokevirtual 25, 3), (.putfield 19, 3), (.aload_n 0, 1), (.aload_n 0, 1), (.getfield 19, 3), (.iconst 1, 1), (.iadd, 1), (.putfield 22, 3), (.aload_n 0, 1), (.getfield 9, 3), (.aload_n 0, 1), (.getfield 19, 3), (.invokevirtual 29, 3), (.istore_n 1, 1), (.aload_n 0, 1), (.getfield 19, 3), (.aload_n 0, 1), (.getfield 9, 3), (.getfield 35, 3), (.if_icmp .lt 19, 3), (.aload_n 0, 1), (.iconst 4, 1), (.putfield 15, 3), (.aload_n 0, 1), (.aload_n 0, 1), (.getfield 19, 3), (.putfield 22, 3), (.goto 85, 3)]
def bk_Scanner_next_64 : List (Instr × Nat) := [(.iload_n 1, 1), (.bipush 40, 2), (.if_icmp .ne 33, 3), (.aload_n 0, 1), (.aload_n 0, 1), (.getfield 9, 3), (.aload_n 0, 1), (.getfield 19, 3), (.iconst 1, 1), (.iadd, 1), (.invokevirtual 29, 3), (.bipush 59, 2), (.if_icmp .ne 7, 3), (.iconst 3, 1), (.goto 4, 3)]
def bk_Scanner_next_100 : List (Instr × Nat) := [(.iload_n 1, 1), (.bipush 41, 2), (.if_icmp .ne 11, 3), (.aload_n 0, 1), (.iconst 1, 1), (.putfield 15, 3), (.goto 35, 3)]
def bk_Scanner_next_114 : List (Instr × Nat) := [(.iload_n 1, 1), (.invokestatic 38, 3), (.ifCond .eq 23, 3), (.aload_n 0, 1), (.iconst 2, 1), (.putfield 15, 3), (.aload_n 0, 1), (.aload_n 0, 1), (.aload_n 0, 1), (.getfield 19, 3), (.invokevirtual 42, 3), (.putfield 22, 3), (.goto 8, 3)]
def bk_Scanner_next_141 : List (Instr × Nat) := [(.aload_n 0, 1), (.iconst 3, 1), (.putfield 15, 3)]
def bk_Scanner_next_146 : List (Instr × Nat) := [(.aload_n 0, 1), (.aload_n 0, 1), (.invokevirtual 45, 3), (.putfield 49, 3), (.return_, 1)]
def bk_Scanner_next_93 : List (Instr × Nat) := [(.iconst 0, 1)]
def bk_Scanner_next_94 : List (Instr × Nat) := [(.putfield 15, 3), (.goto 49, 3)]
theorem ca_Scanner_next_0 : qz_ca yd_Scanner_next.2.1 0 bk_Scanner_next_0 := qz_cab_ok _ _ (by decide +kernel)
theorem ca_Scanner_next_64 : qz_ca yd_Scanner_next.2.1 64 bk_Scanner_next_64 := qz_cab_ok _ _ (by decide +kernel)
theorem ca_Scanner_next_100 : qz_ca yd_Scanner_next.2.1 100 bk_Scanner_next_100 := qz_cab_ok _ _ (by decide +kernel)
theorem ca_Scanner_next_114 : qz_ca yd_Scanner_next.2.1 114 bk_Scanner_next_114 := qz_cab_ok _ _ (by decide +kernel)
theorem ca_Scanner_next_141 : qz_ca yd_Scanner_next.2.1 141 bk_Scanner_next_141 := qz_cab_ok _ _ (by decide +kernel)
theorem ca_Scanner_next_146 : qz_ca yd_Scanner_next.2.1 146 bk_Scanner_next_146 := qz_cab_ok _ _ (by decide +kernel)
theorem ca_Scanner_next_93 : qz_ca yd_Scanner_next.2.1 93 bk_Scanner_next_93 := qz_cab_ok _ _ (by decide +kernel)
theorem ca_Scanner_next_94 : qz_ca yd_Scanner_next.2.1 94 bk_Scanner_next_94 := qz_cab_ok _ _ (by decide +kernel)
set_option maxRecDepth 20000 in
theorem jb_Scanner_next_146 (G : qz_G) (l0 : Int) (h : qz_H) : qz_J yd_Scanner_next G bk_Scanner_next_146 146 [qz_r true 10 l0, qz_u] [] h 0 0 (fn_Scanner_next_146 l0 h) := by
  unfold fn_Scanner_next_146 bk_Scanner_next_146; exact
    qz_aload_n rfl <|
    qz_aload_n rfl <|
    qz_invvR [] rfl (cn_Scanner_findOp l0 h) mw_Scanner_findOp vw_Scanner_findOp ⟨_, rfl, rfl, by decide⟩ rfl rfl ln_Scanner_45 rfl fun r1 h2 =>
    qz_putR (k1 := 7) kw_10 fp_Scanner_49_Scanner_next rfl rfl fun h3 =>
    qz_return ⟨rfl, rfl⟩ rfl
set_option maxRecDepth 20000 in
theorem jb_Scanner_next_94 (G : qz_G) (l0 : Int) (s0 : Int) (s1 : Int) (h : qz_H) : qz_J yd_Scanner_next G bk_Scanner_next_94 94 [qz_r true 10 l0, qz_u] [qz_i s1, qz_r true 10 s0] h 0 0 (fn_Scanner_next_94 l0 s0 s1 h) := by
  unfold fn_Scanner_next_94 bk_Scanner_next_94; exact
    qz_putI kw_10 fp_Scanner_15_Scanner_next rfl rfl fun h1 =>
    qz_goto rfl ca_Scanner_next_146 <|
    qz_fgt [1, 0] <| jb_Scanner_next_146 G l0 h1
set_option maxRecDepth 20000 in
theorem cn_Scanner_next (l0 : Int) (h : qz_H) : qz_C yd_Scanner_next [qz_r true 10 l0] h (fn_Scanner_next l0 h) := by
  refine qz_con (is := bk_Scanner_next_0) (ls := [qz_r true 10 l0, qz_u]) mw_Scanner_next.2.2.2 ca_Scanner_next_0 rfl rfl rfl fun G => ?_
  unfold fn_Scanner_next bk_Scanner_next_0; exact
    qz_aload_n rfl <|
    qz_aload_n rfl <|
    qz_aload_n rfl <|
    qz_getI kg_10 fl_Scanner_22 rfl rfl <|
    qz_invvI [qz_i (h l0 3)] rfl (cn_Scanner_behindGaps l0 (h l0 3) h) mw_Scanner_behindGaps vw_Scanner_behindGaps ⟨_, rfl, rfl, by decide⟩ rfl rfl ln_Scanner_25 rfl fun r1 h2 =>
    qz_putI kw_10 fp_Scanner_19_Scanner_next rfl rfl fun h3 =>
    qz_aload_n rfl <|
    qz_aload_n rfl <|
    qz_getI kg_10 fl_Scanner_19 rfl rfl <|
    qz_iconst rfl <|
    qz_iadd <|
    qz_putI kw_10 fp_Scanner_22_Scanner_next rfl rfl fun h4 =>
    qz_aload_n rfl <|
    qz_getR (k1 := 11) kg_10 fl_Scanner_9 rfl rfl <|
    qz_aload_n rfl <|
    qz_getI kg_10 fl_Scanner_19 rfl rfl <|
    qz_nnd 1 rfl <|
    qz_invvI [qz_i (h4 l0 2)] rfl (cn_Text_at (h4 l0 0) (h4 l0 2) h4) mw_Text_at vw_Text_at ⟨_, rfl, rfl, by decide⟩ rfl rfl ln_Scanner_29 rfl fun r5 h6 =>
    qz_istore_n (by decide) fun x7 =>
    qz_aload_n rfl <|
    qz_getI kg_10 fl_Scanner_19 rfl rfl <|
    qz_aload_n rfl <|
    qz_getR (k1 := 11) kg_10 fl_Scanner_9 rfl rfl <|
    qz_nnd 0 rfl <|
    qz_getI kg_11 fl_Scanner_35 rfl rfl <|
    qz_icmp_lt rfl ca_Scanner_next_64
      (qz_iload_n rfl <|
        qz_bipush rfl <|
        qz_icmp_ne rfl ca_Scanner_next_100
          (qz_iload_n rfl <|
            qz_bipush rfl <|
            qz_icmp_ne rfl ca_Scanner_next_114
              (qz_iload_n rfl <|
                qz_invsI [qz_i x7] rfl (cn_Scanner_isOfWord x7 h6) mw_Scanner_isOfWord vs_Scanner_isOfWord rfl rfl ln_Scanner_38 rfl fun r8 h9 =>
                qz_if_eq rfl ca_Scanner_next_141
                  (qz_aload_n rfl <|
                    qz_iconst rfl <|
                    qz_putI kw_10 fp_Scanner_15_Scanner_next rfl rfl fun h10 =>
                    qz_fall rfl ca_Scanner_next_146 <|
                    qz_fgt [1, 0] <| jb_Scanner_next_146 G l0 h10)
                  (qz_aload_n rfl <|
                    qz_iconst rfl <|
                    qz_putI kw_10 fp_Scanner_15_Scanner_next rfl rfl fun h11 =>
                    qz_aload_n rfl <|
                    qz_aload_n rfl <|
                    qz_aload_n rfl <|
                    qz_getI kg_10 fl_Scanner_19 rfl rfl <|
                    qz_invvI [qz_i (h11 l0 2)] rfl (cn_Scanner_behindWord l0 (h11 l0 2) h11) mw_Scanner_behindWord vw_Scanner_behindWord ⟨_, rfl, rfl, by decide⟩ rfl rfl ln_Scanner_42 rfl fun r12 h13 =>
                    qz_putI kw_10 fp_Scanner_22_Scanner_next rfl rfl fun h14 =>
                    qz_goto rfl ca_Scanner_next_146 <|
                    qz_fgt [1, 0] <| jb_Scanner_next_146 G l0 h14))
              (qz_aload_n rfl <|
                qz_iconst rfl <|
                qz_putI kw_10 fp_Scanner_15_Scanner_next rfl rfl fun h15 =>
                qz_goto rfl ca_Scanner_next_146 <|
                qz_fgt [1, 0] <| jb_Scanner_next_146 G l0 h15))
          (qz_aload_n rfl <|
            qz_aload_n rfl <|
            qz_getR (k1 := 11) kg_10 fl_Scanner_9 rfl rfl <|
            qz_aload_n rfl <|
            qz_getI kg_10 fl_Scanner_19 rfl rfl <|
            qz_iconst rfl <|
            qz_iadd <|
            qz_nnd 1 rfl <|
            qz_invvI [qz_i (qz_w ((h6 l0 2) + 1))] rfl (cn_Text_at (h6 l0 0) (qz_w ((h6 l0 2) + 1)) h6) mw_Text_at vw_Text_at ⟨_, rfl, rfl, by decide⟩ rfl rfl ln_Scanner_29 rfl fun r16 h17 =>
            qz_bipush rfl <|
            qz_icmp_ne rfl ca_Scanner_next_93
              (qz_iconst rfl <|
                qz_fall rfl ca_Scanner_next_94 <|
                qz_fgt [1, 0] <| jb_Scanner_next_94 G l0 l0 0 h17)
              (qz_iconst rfl <|
                qz_goto rfl ca_Scanner_next_94 <|
                qz_fgt [1, 0] <| jb_Scanner_next_94 G l0 l0 3 h17)))
      (qz_aload_n rfl <|
        qz_iconst rfl <|
        qz_putI kw_10 fp_Scanner_15_Scanner_next rfl rfl fun h18 =>
        qz_aload_n rfl <|
        qz_aload_n rfl <|
        qz_getI kg_10 fl_Scanner_19 rfl rfl <|
        qz_putI kw_10 fp_Scanner_22_Scanner_next rfl rfl fun h19 =>
        qz_goto rfl ca_Scanner_next_146 <|
        qz_fgt [1, 0] <| jb_Scanner_next_146 G l0 h19)
def fn_Scanner_beginsWith_20 (s0 : Int) (h : qz_H) : Option qz_R :=
  qz_ck ((s0 : Int) = 0 ∨ (s0 : Int) = 1) (some (s0, h))
set_option maxRecDepth 20000 in
def fn_Scanner_beginsWith (l0 : Int) (l1 : Int) (h : qz_H) : Option qz_R :=
  qz_ck ((h l0 0 : Int) ≠ 0) <|
  qz_bc (fn_Text_at (h l0 0) (h l0 2) h) fun r1 h2 =>
  if ¬ r1 = l1 then
    fn_Scanner_beginsWith_20 0 h2
  else
    fn_Scanner_beginsWith_20 1 h2
def bk_Scanner_beginsWith_0 : List (Instr × Nat) := [(.aload_n 0, 1), (.getfield 9, 3), (.aload_n 0, 1), (.getfield 19, 3), (.invokevirtual 29, 3), (.iload_n 1, 1), (.if_icmp .ne 7, 3), (.iconst 1, 1), (.goto 4, 3)]
def bk_Scanner_beginsWith_19 : List (Instr × Nat) := [(.iconst 0, 1)]
def bk_Scanner_beginsWith_20 : List (Instr × Nat) := [(.ireturn, 1)]
theorem ca_Scanner_beginsWith_0 : qz_ca yd_Scanner_beginsWith.2.1 0 bk_Scanner_beginsWith_0 := qz_cab_ok _ _ (by decide +kernel)
theorem ca_Scanner_beginsWith_19 : qz_ca yd_Scanner_beginsWith.2.1 19 bk_Scanner_beginsWith_19 := qz_cab_ok _ _ (by decide +kernel)
theorem ca_Scanner_beginsWith_20 : qz_ca yd_Scanner_beginsWith.2.1 20 bk_Scanner_beginsWith_20 := qz_cab_ok _ _ (by decide +kernel)
set_option maxRecDepth 20000 in
theorem jb_Scanner_beginsWith_20 (G : qz_G) (s0 : Int) (h : qz_H) : qz_J yd_Scanner_beginsWith G bk_Scanner_beginsWith_20 20 [qz_u, qz_u] [qz_i s0] h 0 0 (fn_Scanner_beginsWith_20 s0 h) := by
  unfold fn_Scanner_beginsWith_20 bk_Scanner_beginsWith_20; exact
    qz_zreturn ⟨rfl, rfl⟩ rfl
set_option maxRecDepth 20000 in
theorem cn_Scanner_beginsWith (l0 : Int) (l1 : Int) (h : qz_H) : qz_C yd_Scanner_beginsWith [qz_r true 10 l0, qz_i l1] h (fn_Scanner_beginsWith l0 l1 h) := by
  refine qz_con (is := bk_Scanner_beginsWith_0) (ls := [qz_r true 10 l0, qz_i l1]) mw_Scanner_beginsWith.2.2.2 ca_Scanner_beginsWith_0 rfl rfl rfl fun G => ?_
  unfold fn_Scanner_beginsWith bk_Scanner_beginsWith_0; exact
    qz_aload_n rfl <|
    qz_getR (k1 := 11) kg_10 fl_Scanner_9 rfl rfl <|
    qz_aload_n rfl <|
    qz_getI kg_10 fl_Scanner_19 rfl rfl <|
    qz_nnd 1 rfl <|
    qz_invvI [qz_i (h l0 2)] rfl (cn_Text_at (h l0 0) (h l0 2) h) mw_Text_at vw_Text_at ⟨_, rfl, rfl, by decide⟩ rfl rfl ln_Scanner_29 rfl fun r1 h2 =>
    qz_iload_n rfl <|
    qz_icmp_ne rfl ca_Scanner_beginsWith_19
      (qz_iconst rfl <|
        qz_fall rfl ca_Scanner_beginsWith_20 <|
        qz_fgt [0, 0] <| jb_Scanner_beginsWith_20 G 0 h2)
      (qz_iconst rfl <|
        qz_goto rfl ca_Scanner_beginsWith_20 <|
        qz_fgt [0, 0] <| jb_Scanner_beginsWith_20 G 1 h2)
def fn_Long_compare_21 (s0 : Int) (h : qz_H) : Option qz_R :=
  some (s0, h)
set_option maxRecDepth 20000 in
def fn_Long_compare (l0 : Int) (l2 : Int) (h : qz_H) : Option qz_R :=
  if 0 ≤ qz_cmp l0 l2 then
    if ¬ qz_cmp l0 l2 = 0 then
      fn_Long_compare_21 1 h
    else
      fn_Long_compare_21 0 h
  else
    fn_Long_compare_21 (-1) h
def bk_Long_compare_0 : List (Instr × Nat) := [(.lload_n 0, 1), (.lload_n 2, 1), (.lcmp, 1), (.ifCond .ge 7, 3), (.iconst (-1), 1), (.goto 14, 3)]
def bk_Long_compare_10 : List (Instr × Nat) := [(.lload_n 0, 1), (.lload_n 2, 1), (.lcmp, 1), (.ifCond .ne 7, 3), (.iconst 0, 1), (.goto 4, 3)]
def bk_Long_compare_20 : List (Instr × Nat) := [(.iconst 1, 1)]
def bk_Long_compare_21 : List (Instr × Nat) := [(.ireturn, 1)]
theorem ca_Long_compare_0 : qz_ca yd_Long_compare.2.1 0 bk_Long_compare_0 := qz_cab_ok _ _ (by decide +kernel)
theorem ca_Long_compare_10 : qz_ca yd_Long_compare.2.1 10 bk_Long_compare_10 := qz_cab_ok _ _ (by decide +kernel)
theorem ca_Long_compare_20 : qz_ca yd_Long_compare.2.1 20 bk_Long_compare_20 := qz_cab_ok _ _ (by decide +kernel)
theorem ca_Long_compare_21 : qz_ca yd_Long_compare.2.1 21 bk_Long_compare_21 := qz_cab_ok _ _ (by decide +kernel)
set_option maxRecDepth 20000 in
theorem jb_Long_compare_21 (G : qz_G) (s0 : Int) (h : qz_H) : qz_J yd_Long_compare G bk_Long_compare_21 21 [qz_u, qz_u, qz_u, qz_u] [qz_i s0] h 0 0 (fn_Long_compare_21 s0 h) := by
  unfold fn_Long_compare_21 bk_Long_compare_21; exact
    qz_ireturn ⟨rfl, rfl⟩ rfl
set_option maxRecDepth 20000 in
theorem cn_Long_compare (l0 : Int) (l2 : Int) (h : qz_H) : qz_C yd_Long_compare [qz_j l0, qz_j l2] h (fn_Long_compare l0 l2 h) := by
  refine qz_con (is := bk_Long_compare_0) (ls := [qz_j l0, qz_u, qz_j l2, qz_u]) mw_Long_compare.2.2.2 ca_Long_compare_0 rfl rfl rfl fun G => ?_
  unfold fn_Long_compare bk_Long_compare_0; exact
    qz_lload_n rfl <|
    qz_lload_n rfl <|
    qz_lcmp <|
    qz_if_ge rfl ca_Long_compare_10
      (qz_lload_n rfl <|
        qz_lload_n rfl <|
        qz_lcmp <|
        qz_if_ne rfl ca_Long_compare_20
          (qz_iconst rfl <|
            qz_fall rfl ca_Long_compare_21 <|
            qz_fgt [0, 0, 0, 0] <| jb_Long_compare_21 G 1 h)
          (qz_iconst rfl <|
            qz_goto rfl ca_Long_compare_21 <|
            qz_fgt [0, 0, 0, 0] <| jb_Long_compare_21 G 0 h))
      (qz_iconst rfl <|
        qz_goto rfl ca_Long_compare_21 <|
        qz_fgt [0, 0, 0, 0] <| jb_Long_compare_21 G (-1) h)
set_option maxRecDepth 20000 in
def fn_Long_compareUnsigned (l0 : Int) (l2 : Int) (h : qz_H) : Option qz_R :=
  qz_bc (fn_Long_compare (qz_x (l0 + (-9223372036854775808))) (qz_x (l2 + (-9223372036854775808))) h) fun r1 h2 =>
  some (r1, h2)
def bk_Long_compareUnsigned_0 : List (Instr × Nat) := [(.lload_n 0, 1), (.ldc2_w 168, 3), (.ladd, 1), (.lload_n 2, 1), (.ldc2_w 168, 3), (.ladd, 1), (.invokestatic 302, 3), (.ireturn, 1)]
theorem ca_Long_compareUnsigned_0 : qz_ca yd_Long_compareUnsigned.2.1 0 bk_Long_compareUnsigned_0 := qz_cab_ok _ _ (by decide +kernel)
set_option maxRecDepth 20000 in
theorem cn_Long_compareUnsigned (l0 : Int) (l2 : Int) (h : qz_H) : qz_C yd_Long_compareUnsigned [qz_j l0, qz_j l2] h (fn_Long_compareUnsigned l0 l2 h) := by
  refine qz_con (is := bk_Long_compareUnsigned_0) (ls := [qz_j l0, qz_u, qz_j l2, qz_u]) mw_Long_compareUnsigned.2.2.2 ca_Long_compareUnsigned_0 rfl rfl rfl fun G => ?_
  unfold fn_Long_compareUnsigned bk_Long_compareUnsigned_0; exact
    qz_lload_n rfl <|
    qz_ldc2 wc_java_lang_Long_168 rfl <|
    qz_ladd <|
    qz_lload_n rfl <|
    qz_ldc2 wc_java_lang_Long_168 rfl <|
    qz_ladd <|
    qz_invsI [qz_j (qz_x (l0 + (-9223372036854775808))), qz_j (qz_x (l2 + (-9223372036854775808)))] rfl (cn_Long_compare (qz_x (l0 + (-9223372036854775808))) (qz_x (l2 + (-9223372036854775808))) h) mw_Long_compare vs_Long_compare rfl rfl ln_java_lang_Long_302 rfl fun r1 h2 =>
    qz_ireturn ⟨rfl, rfl⟩ rfl
def fn_Scanner_readDigits_100 (s0 : Int) (h : qz_H) : Option qz_R :=
  qz_ck ((s0 : Int) = 0 ∨ (s0 : Int) = 1) (some (s0, h))
def fn_Scanner_readDigits_50 (h : qz_H) : Option qz_R :=
  qz_ck ((0 : Int) = 0 ∨ (0 : Int) = 1) (some (0, h))
def fn_Scanner_readDigits_7_b (k7 : Int → Int → Int → qz_H → Option qz_R) (l0 : Int) (l1 : Int) (l2 : Int) (h : qz_H) : Option qz_R :=
  if h l0 3 ≤ l2 then
    if h l0 3 ≤ l1 then
      fn_Scanner_readDigits_100 0 h
    else
      fn_Scanner_readDigits_100 1 h
  else
    qz_ck ((h l0 0 : Int) ≠ 0) <|
    qz_bc (fn_Text_at (h l0 0) l2 h) fun r1 h2 =>
    qz_bn (qz_w (r1 - 48) : Int) fun x3 =>
    if x3 < 0 then
      fn_Scanner_readDigits_50 h2
    else
      if 9 < x3 then
        fn_Scanner_readDigits_50 h2
      else
        qz_bc (fn_Long_compareUnsigned (h2 l0 5) 1844674407370955161 h2) fun r4 h5 =>
        if r4 ≤ 0 then
          qz_ck ((0 : Int) < l0) <|
          qz_bn (qz_up h5 l0 5 (qz_x ((qz_x ((h5 l0 5) * 10)) + x3))) fun h6 =>
          qz_bc (fn_Long_compareUnsigned (h6 l0 5) x3 h6) fun r7 h8 =>
          if 0 ≤ r7 then
            qz_bn (qz_w (l2 + 1)) fun x9 =>
            k7 l0 l1 x9 h8
          else
            qz_ck ((0 : Int) = 0 ∨ (0 : Int) = 1) (some (0, h8))
        else
          fn_Scanner_readDigits_50 h5
def fn_Scanner_readDigits_7 : Nat → Int → Int → Int → qz_H → Option qz_R
  | 0, _, _, _, _ => none
  | n + 1, l0, l1, l2, h => fn_Scanner_readDigits_7_b (fn_Scanner_readDigits_7 n) l0 l1 l2 h
set_option maxRecDepth 20000 in
def fn_Scanner_readDigits (l0 : Int) (l1 : Int) (h : qz_H) : Option qz_R :=
  qz_ck ((0 : Int) < l0) <|
  qz_bn (qz_up h l0 5 0) fun h1 =>
  qz_bn (l1 : Int) fun x2 =>
  fn_Scanner_readDigits_7 qz_NF l0 l1 x2 h1
def bk_Scanner_readDigits_0 : List (Instr × Nat) := [(.aload_n 0, 1), (.lconst 0, 1), (.putfield 88, 3), (.iload_n 1, 1), (.istore_n 2, 1)]
def bk_Scanner_readDigits_7 : List (Instr × Nat) := [(.iload_n 2, 1), (.aload_n 0, 1), (.getfield 22, 3), (.if_icmp .ge 75, 3), (.aload_n 0, 1), (.getfield 9, 3), (.iload_n 2, 1), (.invokevirtual 29, 3), (.bipush 48, 2), (.isub, 1), (.istore_n 3, 1), (.iload_n 3, 1), (.ifCond .lt 22, 3), (.iload_n 3, 1), (.bipush 9, 2), (.if_icmp .gt 16, 3), (.aload_n 0, 1), (.getfield 88, 3), (.ldc2_w 92, 3), (.invokestatic 94, 3), (.ifCond .le 5, 3)]
def bk_Scanner_readDigits_87 : List (Instr × Nat) := [(.iload_n 1, 1), (.aload_n 0, 1), (.getfield 22, 3), (.if_icmp .ge 7, 3), (.iconst 1, 1), (.goto 4, 3)]
def bk_Scanner_readDigits_99 : List (Instr × Nat) := [(.iconst 0, 1)]
def bk_Scanner_readDigits_100 : List (Instr × Nat) := [(.ireturn, 1)]
def bk_Scanner_readDigits_50 : List (Instr × Nat) := [(.iconst 0, 1), (.ireturn, 1)]
def bk_Scanner_readDigits_52 : List (Instr × Nat) := [(.aload_n 0, 1), (.aload_n 0, 1), (.getfield 88, 3), (.ldc2_w 100, 3), (.lmul, 1), (.iload_n 3, 1), (.i2l, 1), (.ladd, 1), (.putfield 88, 3), (.aload_n 0, 1), (.getfield 88, 3), (.iload_n 3, 1), (.i2l, 1), (.invokestatic 94, 3), (.ifCond .ge 5, 3), (.iconst 0, 1), (.ireturn, 1)]
def bk_Scanner_readDigits_81 : List (Instr × Nat) := [(.iinc 2 1, 3), (.goto (-77), 3)]
theorem ca_Scanner_readDigits_0 : qz_ca yd_Scanner_readDigits.2.1 0 bk_Scanner_readDigits_0 := qz_cab_ok _ _ (by decide +kernel)
theorem ca_Scanner_readDigits_7 : qz_ca yd_Scanner_readDigits.2.1 7 bk_Scanner_readDigits_7 := qz_cab_ok _ _ (by decide +kernel)
theorem ca_Scanner_readDigits_87 : qz_ca yd_Scanner_readDigits.2.1 87 bk_Scanner_readDigits_87 := qz_cab_ok _ _ (by decide +kernel)
theorem ca_Scanner_readDigits_99 : qz_ca yd_Scanner_readDigits.2.1 99 bk_Scanner_readDigits_99 := qz_cab_ok _ _ (by decide +kernel)
theorem ca_Scanner_readDigits_100 : qz_ca yd_Scanner_readDigits.2.1 100 bk_Scanner_readDigits_100 := qz_cab_ok _ _ (by decide +kernel)
theorem ca_Scanner_readDigits_50 : qz_ca yd_Scanner_readDigits.2.1 50 bk_Scanner_readDigits_50 := qz_cab_ok _ _ (by decide +kernel)
theorem ca_Scanner_readDigits_52 : qz_ca yd_Scanner_readDigits.2.1 52 bk_Scanner_readDigits_52 := qz_cab_ok _ _ (by decide +kernel)
theorem ca_Scanner_readDigits_81 : qz_ca yd_Scanner_readDigits.2.1 81 bk_Scanner_readDigits_81 := qz_cab_ok _ _ (by decide +kernel)
set_option maxRecDepth 20000 in
theorem jb_Scanner_readDigits_100 (G : qz_G) (s0 : Int) (h : qz_H) : qz_J yd_Scanner_readDigits G bk_Scanner_readDigits_100 100 [qz_u, qz_u, qz_u, qz_u] [qz_i s0] h 0 0 (fn_Scanner_readDigits_100 s0 h) := by
  unfold fn_Scanner_readDigits_100 bk_Scanner_readDigits_100; exact
    qz_zreturn ⟨rfl, rfl⟩ rfl
set_option maxRecDepth 20000 in
theorem jb_Scanner_readDigits_50 (G : qz_G) (h : qz_H) : qz_J yd_Scanner_readDigits G bk_Scanner_readDigits_50 50 [qz_u, qz_u, qz_u, qz_u] [] h 0 0 (fn_Scanner_readDigits_50 h) := by
  unfold fn_Scanner_readDigits_50 bk_Scanner_readDigits_50; exact
    qz_iconst rfl <|
    qz_zreturn ⟨rfl, rfl⟩ rfl
set_option maxRecDepth 20000 in
theorem jb_Scanner_readDigits_7_b (G : qz_G) (k7 : Int → Int → Int → qz_H → Option qz_R) (jk7 : ∀ (l0 : Int) (l1 : Int) (l2 : Int) (h : qz_H), qz_J yd_Scanner_readDigits G bk_Scanner_readDigits_7 7 [qz_r true 10 l0, qz_i l1, qz_i l2, qz_u] [] h 0 0 (k7 l0 l1 l2 h)) (l0 : Int) (l1 : Int) (l2 : Int) (h : qz_H) : qz_J yd_Scanner_readDigits G bk_Scanner_readDigits_7 7 [qz_r true 10 l0, qz_i l1, qz_i l2, qz_u] [] h 0 0 (fn_Scanner_readDigits_7_b k7 l0 l1 l2 h) := by
  unfold fn_Scanner_readDigits_7_b bk_Scanner_readDigits_7; exact
    qz_iload_n rfl <|
    qz_aload_n rfl <|
    qz_getI kg_10 fl_Scanner_22 rfl rfl <|
    qz_icmp_ge rfl ca_Scanner_readDigits_87
      (qz_iload_n rfl <|
        qz_aload_n rfl <|
        qz_getI kg_10 fl_Scanner_22 rfl rfl <|
        qz_icmp_ge rfl ca_Scanner_readDigits_99
          (qz_iconst rfl <|
            qz_fall rfl ca_Scanner_readDigits_100 <|
            qz_fgt [0, 0, 0, 0] <| jb_Scanner_readDigits_100 G 0 h)
          (qz_iconst rfl <|
            qz_goto rfl ca_Scanner_readDigits_100 <|
            qz_fgt [0, 0, 0, 0] <| jb_Scanner_readDigits_100 G 1 h))
      (qz_aload_n rfl <|
        qz_getR (k1 := 11) kg_10 fl_Scanner_9 rfl rfl <|
        qz_iload_n rfl <|
        qz_nnd 1 rfl <|
        qz_invvI [qz_i l2] rfl (cn_Text_at (h l0 0) l2 h) mw_Text_at vw_Text_at ⟨_, rfl, rfl, by decide⟩ rfl rfl ln_Scanner_29 rfl fun r1 h2 =>
        qz_bipush rfl <|
        qz_isub <|
        qz_istore_n (by decide) fun x3 =>
        qz_iload_n rfl <|
        qz_if_lt rfl ca_Scanner_readDigits_50
          (qz_fgt [0, 0, 0, 0] <| jb_Scanner_readDigits_50 G h2)
          (qz_iload_n rfl <|
            qz_bipush rfl <|
            qz_icmp_gt rfl ca_Scanner_readDigits_50
              (qz_fgt [0, 0, 0, 0] <| jb_Scanner_readDigits_50 G h2)
              (qz_aload_n rfl <|
                qz_getJ kg_10 fl_Scanner_88 rfl rfl <|
                qz_ldc2 wc_Scanner_92 rfl <|
                qz_invsI [qz_j (h2 l0 5), qz_j 1844674407370955161] rfl (cn_Long_compareUnsigned (h2 l0 5) 1844674407370955161 h2) mw_Long_compareUnsigned vs_Long_compareUnsigned rfl rfl ln_Scanner_94 rfl fun r4 h5 =>
                qz_if_le rfl ca_Scanner_readDigits_52
                  (qz_aload_n rfl <|
                    qz_aload_n rfl <|
                    qz_getJ kg_10 fl_Scanner_88 rfl rfl <|
                    qz_ldc2 wc_Scanner_100 rfl <|
                    qz_lmul <|
                    qz_iload_n rfl <|
                    qz_i2l <|
                    qz_ladd <|
                    qz_putJ kw_10 fp_Scanner_88_Scanner_readDigits rfl rfl fun h6 =>
                    qz_aload_n rfl <|
                    qz_getJ kg_10 fl_Scanner_88 rfl rfl <|
                    qz_iload_n rfl <|
                    qz_i2l <|
                    qz_invsI [qz_j (h6 l0 5), qz_j x3] rfl (cn_Long_compareUnsigned (h6 l0 5) x3 h6) mw_Long_compareUnsigned vs_Long_compareUnsigned rfl rfl ln_Scanner_94 rfl fun r7 h8 =>
                    qz_if_ge rfl ca_Scanner_readDigits_81
                      (qz_iinc rfl (by decide) fun x9 =>
                        qz_goto rfl ca_Scanner_readDigits_7 <|
                        qz_fgt [1, 1, 1, 0] <| jk7 l0 l1 x9 h8)
                      (qz_iconst rfl <|
                        qz_zreturn ⟨rfl, rfl⟩ rfl))
                  (qz_fall rfl ca_Scanner_readDigits_50 <|
                    qz_fgt [0, 0, 0, 0] <| jb_Scanner_readDigits_50 G h5))))
theorem jb_Scanner_readDigits_7 (G : qz_G) : ∀ (n : Nat) (l0 l1 l2 : Int) (h : qz_H), qz_J yd_Scanner_readDigits G bk_Scanner_readDigits_7 7 [qz_r true 10 l0, qz_i l1, qz_i l2, qz_u] [] h 0 0 (fn_Scanner_readDigits_7 n l0 l1 l2 h)
  | 0, _, _, _, _ => qz_none
  | n + 1, l0, l1, l2, h => jb_Scanner_readDigits_7_b G (fn_Scanner_readDigits_7 n) (jb_Scanner_readDigits_7 G n) l0 l1 l2 h
set_option maxRecDepth 20000 in
theorem cn_Scanner_readDigits (l0 : Int) (l1 : Int) (h : qz_H) : qz_C yd_Scanner_readDigits [qz_r true 10 l0, qz_i l1] h (fn_Scanner_readDigits l0 l1 h) := by
  refine qz_con (is := bk_Scanner_readDigits_0) (ls := [qz_r true 10 l0, qz_i l1, qz_u, qz_u]) mw_Scanner_readDigits.2.2.2 ca_Scanner_readDigits_0 rfl rfl rfl fun G => ?_
  unfold fn_Scanner_readDigits bk_Scanner_readDigits_0; exact
    qz_aload_n rfl <|
    qz_lconst rfl <|
    qz_putJ kw_10 fp_Scanner_88_Scanner_readDigits rfl rfl fun h1 =>
    qz_iload_n rfl <|
    qz_istore_n (by decide) fun x2 =>
    qz_fall rfl ca_Scanner_readDigits_7 <|
    qz_fgt [1, 1, 1, 0] <| jb_Scanner_readDigits_7 G qz_NF l0 l1 x2 h1
def fn_Reader_readNumber_122 (s0 : Int) (h : qz_H) : Option qz_R :=
  qz_ck ((s0 : Int) = 0 ∨ (s0 : Int) = 1) (some (s0, h))
def fn_Reader_readNumber_121 (h : qz_H) : Option qz_R :=
  fn_Reader_readNumber_122 0 h
def fn_Reader_readNumber_111 (s0 : Int) (s1 : Int) (h : qz_H) : Option qz_R :=
  qz_bc (fn_Long_compareUnsigned s0 s1 h) fun r1 h2 =>
  if 0 < r1 then
    fn_Reader_readNumber_121 h2
  else
    fn_Reader_readNumber_122 1 h2
def fn_Reader_readNumber_91 (l1 : Int) (l3 : Int) (l5 : Int) (l7 : Int) (l8 : Int) (s0 : Int) (s1 : Int) (h : qz_H) : Option qz_R :=
  qz_ck ((0 : Int) < s0) <|
  qz_bn (qz_up h s0 8 s1) fun h1 =>
  if l7 = 0 then
    fn_Reader_readNumber_121 h1
  else
    if l5 = 0 then
      fn_Reader_readNumber_111 l8 l3 h1
    else
      fn_Reader_readNumber_111 l8 l1 h1
def fn_Reader_readNumber_63 (l0 : Int) (l1 : Int) (l3 : Int) (l5 : Int) (s0 : Int) (s1 : Int) (h : qz_H) : Option qz_R :=
  qz_ck ((s0 : Int) ≠ 0) <|
  qz_bc (fn_Scanner_readDigits s0 s1 h) fun r1 h2 =>
  qz_bn (r1 : Int) fun x3 =>
  qz_ck ((h2 l0 0 : Int) ≠ 0) <|
  qz_bn (h2 (h2 l0 0) 5 : Int) fun x4 =>
  if l5 = 0 then
    fn_Reader_readNumber_91 l1 l3 l5 x3 x4 l0 x4 h2
  else
    fn_Reader_readNumber_91 l1 l3 l5 x3 x4 l0 (qz_x (-x4)) h2
def fn_Reader_readNumber_33 (l0 : Int) (l1 : Int) (l3 : Int) (l5 : Int) (s0 : Int) (h : qz_H) : Option qz_R :=
  qz_bn (s0 : Int) fun x1 =>
  if x1 = 0 then
    qz_ck ((h l0 0 : Int) ≠ 0) <|
    fn_Reader_readNumber_63 l0 l1 l3 l5 (h l0 0) (h (h l0 0) 2) h
  else
    qz_ck ((h l0 0 : Int) ≠ 0) <|
    fn_Reader_readNumber_63 l0 l1 l3 l5 (h l0 0) (qz_w ((h (h l0 0) 2) + 1)) h
def fn_Reader_readNumber_28 (l0 : Int) (l1 : Int) (l3 : Int) (l5 : Int) (h : qz_H) : Option qz_R :=
  fn_Reader_readNumber_33 l0 l1 l3 l5 1 h
set_option maxRecDepth 20000 in
def fn_Reader_readNumber (l0 : Int) (l1 : Int) (l3 : Int) (h : qz_H) : Option qz_R :=
  qz_ck ((h l0 0 : Int) ≠ 0) <|
  qz_bc (fn_Scanner_beginsWith (h l0 0) 45 h) fun r1 h2 =>
  qz_bn (r1 : Int) fun x3 =>
  if ¬ x3 = 0 then
    fn_Reader_readNumber_28 l0 l1 l3 x3 h2
  else
    qz_ck ((h2 l0 0 : Int) ≠ 0) <|
    qz_bc (fn_Scanner_beginsWith (h2 l0 0) 43 h2) fun r4 h5 =>
    if r4 = 0 then
      fn_Reader_readNumber_33 l0 l1 l3 x3 0 h5
    else
      fn_Reader_readNumber_28 l0 l1 l3 x3 h5
def bk_Reader_readNumber_0 : List (Instr × Nat) := [(.aload_n 0, 1), (.getfield 33, 3), (.bipush 45, 2), (.invokevirtual 294, 3), (.istore 5, 2), (.iload 5, 2), (.ifCond .ne 15, 3), (.aload_n 0, 1), (.getfield 33, 3), (.bipush 43, 2), (.invokevirtual 294, 3), (.ifCond .eq 7, 3)]
def bk_Reader_readNumber_28 : List (Instr × Nat) := [(.iconst 1, 1), (.goto 4, 3)]
def bk_Reader_readNumber_32 : List (Instr × Nat) := [(.iconst 0, 1)]
def bk_Reader_readNumber_33 : List (Instr × Nat) := [(.istore 6, 2), (.aload_n 0, 1), (.getfield 33, 3), (.iload 6, 2), (.ifCond .eq 15, 3), (.aload_n 0, 1), (.getfield 33, 3), (.getfield 63, 3), (.iconst 1, 1), (.iadd, 1), (.goto 10, 3)]
def bk_Reader_readNumber_56 : List (Instr × Nat) := [(.aload_n 0, 1), (.getfield 33, 3), (.getfield 63, 3)]
def bk_Reader_readNumber_63 : List (Instr × Nat) := [(.invokevirtual 277, 3), (.istore 7, 2), (.aload_n 0, 1), (.getfield 33, 3), (.getfield 280, 3), (.lstore 8, 2), (.aload_n 0, 1), (.iload 5, 2), (.ifCond .eq 9, 3), (.lload 8, 2), (.lneg, 1), (.goto 5, 3)]
def bk_Reader_readNumber_89 : List (Instr × Nat) := [(.lload 8, 2)]
def bk_Reader_readNumber_91 : List (Instr × Nat) := [(.putfield 262, 3), (.iload 7, 2), (.ifCond .eq 25, 3), (.lload 8, 2), (.iload 5, 2), (.ifCond .eq 7, 3), (.lload_n 1, 1), (.goto 4, 3)]
def bk_Reader_readNumber_121 : List (Instr × Nat) := [(.iconst 0, 1)]
def bk_Reader_readNumber_110 : List (Instr × Nat) := [(.lload_n 3, 1)]
def bk_Reader_readNumber_111 : List (Instr × Nat) := [(.invokestatic 285, 3), (.ifCond .gt 7, 3), (.iconst 1, 1), (.goto 4, 3)]
def bk_Reader_readNumber_122 : List (Instr × Nat) := [(.ireturn, 1)]
theorem ca_Reader_readNumber_0 : qz_ca yd_Reader_readNumber.2.1 0 bk_Reader_readNumber_0 := qz_cab_ok _ _ (by decide +kernel)
theorem ca_Reader_readNumber_28 : qz_ca yd_Reader_readNumber.2.1 28 bk_Reader_readNumber_28 := qz_cab_ok _ _ (by decide +kernel)
theorem ca_Reader_readNumber_32 : qz_ca yd_Reader_readNumber.2.1 32 bk_Reader_readNumber_32 := qz_cab_ok _ _ (by decide +kernel)
theorem ca_Reader_readNumber_33 : qz_ca yd_Reader_readNumber.2.1 33 bk_Reader_readNumber_33 := qz_cab_ok _ _ (by decide +kernel)
theorem ca_Reader_readNumber_56 : qz_ca yd_Reader_readNumber.2.1 56 bk_Reader_readNumber_56 := qz_cab_ok _ _ (by decide +kernel)
theorem ca_Reader_readNumber_63 : qz_ca yd_Reader_readNumber.2.1 63 bk_Reader_readNumber_63 := qz_cab_ok _ _ (by decide +kernel)
theorem ca_Reader_readNumber_89 : qz_ca yd_Reader_readNumber.2.1 89 bk_Reader_readNumber_89 := qz_cab_ok _ _ (by decide +kernel)
theorem ca_Reader_readNumber_91 : qz_ca yd_Reader_readNumber.2.1 91 bk_Reader_readNumber_91 := qz_cab_ok _ _ (by decide +kernel)
theorem ca_Reader_readNumber_121 : qz_ca yd_Reader_readNumber.2.1 121 bk_Reader_readNumber_121 := qz_cab_ok _ _ (by decide +kernel)
theorem ca_Reader_readNumber_110 : qz_ca yd_Reader_readNumber.2.1 110 bk_Reader_readNumber_110 := qz_cab_ok _ _ (by decide +kernel)
theorem ca_Reader_readNumber_111 : qz_ca yd_Reader_readNumber.2.1 111 bk_Reader_readNumber_111 := qz_cab_ok _ _ (by decide +kernel)
theorem ca_Reader_readNumber_122 : qz_ca yd_Reader_readNumber.2.1 122 bk_Reader_readNumber_122 := qz_cab_ok _ _ (by decide +kernel)
set_option maxRecDepth 20000 in
theorem jb_Reader_readNumber_122 (G : qz_G) (s0 : Int) (h : qz_H) : qz_J yd_Reader_readNumber G bk_Reader_readNumber_122 122 [qz_u, qz_u, qz_u, qz_u, qz_u, qz_u, qz_u, qz_u, qz_u, qz_u] [qz_i s0] h 0 0 (fn_Reader_readNumber_122 s0 h) := by
  unfold fn_Reader_readNumber_122 bk_Reader_readNumber_122; exact
    qz_zreturn ⟨rfl, rfl⟩ rfl
set_option maxRecDepth 20000 in
theorem jb_Reader_readNumber_121 (G : qz_G) (h : qz_H) : qz_J yd_Reader_readNumber G bk_Reader_readNumber_121 121 [qz_u, qz_u, qz_u, qz_u, qz_u, qz_u, qz_u, qz_u, qz_u, qz_u] [] h 0 0 (fn_Reader_readNumber_121 h) := by
  unfold fn_Reader_readNumber_121 bk_Reader_readNumber_121; exact
    qz_iconst rfl <|
    qz_fall rfl ca_Reader_readNumber_122 <|
    qz_fgt [0, 0, 0, 0, 0, 0, 0, 0, 0, 0] <| jb_Reader_readNumber_122 G 0 h
set_option maxRecDepth 20000 in
theorem jb_Reader_readNumber_111 (G : qz_G) (s0 : Int) (s1 : Int) (h : qz_H) : qz_J yd_Reader_readNumber G bk_Reader_readNumber_111 111 [qz_u, qz_u, qz_u, qz_u, qz_u, qz_u, qz_u, qz_u, qz_u, qz_u] [qz_j s1, qz_j s0] h 0 0 (fn_Reader_readNumber_111 s0 s1 h) := by
  unfold fn_Reader_readNumber_111 bk_Reader_readNumber_111; exact
    qz_invsI [qz_j s0, qz_j s1] rfl (cn_Long_compareUnsigned s0 s1 h) mw_Long_compareUnsigned vs_Long_compareUnsigned rfl rfl ln_Reader_285 rfl fun r1 h2 =>
    qz_if_gt rfl ca_Reader_readNumber_121
      (qz_fgt [0, 0, 0, 0, 0, 0, 0, 0, 0, 0] <| jb_Reader_readNumber_121 G h2)
      (qz_iconst rfl <|
        qz_goto rfl ca_Reader_readNumber_122 <|
        qz_fgt [0, 0, 0, 0, 0, 0, 0, 0, 0, 0] <| jb_Reader_readNumber_122 G 1 h2)
set_option maxRecDepth 20000 in
theorem jb_Reader_readNumber_91 (G : qz_G) (l1 : Int) (l3 : Int) (l5 : Int) (l7 : Int) (l8 : Int) (s0 : Int) (s1 : Int) (h : qz_H) : qz_J yd_Reader_readNumber G bk_Reader_readNumber_91 91 [qz_u, qz_j l1, qz_u, qz_j l3, qz_u, qz_i l5, qz_u, qz_i l7, qz_j l8, qz_u] [qz_j s1, qz_r true 9 s0] h 0 0 (fn_Reader_readNumber_91 l1 l3 l5 l7 l8 s0 s1 h) := by
  unfold fn_Reader_readNumber_91 bk_Reader_readNumber_91; exact
    qz_putJ kw_9 fp_Reader_262_Reader_readNumber rfl rfl fun h1 =>
    qz_iload rfl <|
    qz_if_eq rfl ca_Reader_readNumber_121
      (qz_fgt [0, 0, 0, 0, 0, 0, 0, 0, 0, 0] <| jb_Reader_readNumber_121 G h1)
      (qz_lload rfl <|
        qz_iload rfl <|
        qz_if_eq rfl ca_Reader_readNumber_110
          (qz_lload_n rfl <|
            qz_fall rfl ca_Reader_readNumber_111 <|
            qz_fgt [0, 0, 0, 0, 0, 0, 0, 0, 0, 0] <| jb_Reader_readNumber_111 G l8 l3 h1)
          (qz_lload_n rfl <|
            qz_goto rfl ca_Reader_readNumber_111 <|
            qz_fgt [0, 0, 0, 0, 0, 0, 0, 0, 0, 0] <| jb_Reader_readNumber_111 G l8 l1 h1))
set_option maxRecDepth 20000 in
theorem jb_Reader_readNumber_63 (G : qz_G) (l0 : Int) (l1 : Int) (l3 : Int) (l5 : Int) (s0 : Int) (s1 : Int) (h : qz_H) : qz_J yd_Reader_readNumber G bk_Reader_readNumber_63 63 [qz_r true 9 l0, qz_j l1, qz_u, qz_j l3, qz_u, qz_i l5, qz_u, qz_u, qz_u, qz_u] [qz_i s1, qz_r false 10 s0] h 0 0 (fn_Reader_readNumber_63 l0 l1 l3 l5 s0 s1 h) := by
  unfold fn_Reader_readNumber_63 bk_Reader_readNumber_63; exact
    qz_nnd 1 rfl <|
    qz_invvI [qz_i s1] rfl (cn_Scanner_readDigits s0 s1 h) mw_Scanner_readDigits vw_Scanner_readDigits ⟨_, rfl, rfl, by decide⟩ rfl rfl ln_Reader_277 rfl fun r1 h2 =>
    qz_istore (by decide) fun x3 =>
    qz_aload_n rfl <|
    qz_getR (k1 := 10) kg_9 fl_Reader_33 rfl rfl <|
    qz_nnd 0 rfl <|
    qz_getJ kg_10 fl_Reader_280 rfl rfl <|
    qz_lstore (by decide) fun x4 =>
    qz_aload_n rfl <|
    qz_iload rfl <|
    qz_if_eq rfl ca_Reader_readNumber_89
      (qz_lload rfl <|
        qz_fall rfl ca_Reader_readNumber_91 <|
        qz_fgt [0, 1, 0, 1, 0, 1, 0, 1, 1, 0] <| jb_Reader_readNumber_91 G l1 l3 l5 x3 x4 l0 x4 h2)
      (qz_lload rfl <|
        qz_lneg <|
        qz_goto rfl ca_Reader_readNumber_91 <|
        qz_fgt [0, 1, 0, 1, 0, 1, 0, 1, 1, 0] <| jb_Reader_readNumber_91 G l1 l3 l5 x3 x4 l0 (qz_x (-x4)) h2)
set_option maxRecDepth 20000 in
theorem jb_Reader_readNumber_33 (G : qz_G) (l0 : Int) (l1 : Int) (l3 : Int) (l5 : Int) (s0 : Int) (h : qz_H) : qz_J yd_Reader_readNumber G bk_Reader_readNumber_33 33 [qz_r true 9 l0, qz_j l1, qz_u, qz_j l3, qz_u, qz_i l5, qz_u, qz_u, qz_u, qz_u] [qz_i s0] h 0 0 (fn_Reader_readNumber_33 l0 l1 l3 l5 s0 h) := by
  unfold fn_Reader_readNumber_33 bk_Reader_readNumber_33; exact
    qz_istore (by decide) fun x1 =>
    qz_aload_n rfl <|
    qz_getR (k1 := 10) kg_9 fl_Reader_33 rfl rfl <|
    qz_iload rfl <|
    qz_if_eq rfl ca_Reader_readNumber_56
      (qz_aload_n rfl <|
        qz_getR (k1 := 10) kg_9 fl_Reader_33 rfl rfl <|
        qz_nnd 0 rfl <|
        qz_getI kg_10 fl_Reader_63 rfl rfl <|
        qz_fall rfl ca_Reader_readNumber_63 <|
        qz_fgt [1, 1, 0, 1, 0, 1, 0, 0, 0, 0] <| jb_Reader_readNumber_63 G l0 l1 l3 l5 (h l0 0) (h (h l0 0) 2) h)
      (qz_aload_n rfl <|
        qz_getR (k1 := 10) kg_9 fl_Reader_33 rfl rfl <|
        qz_nnd 0 rfl <|
        qz_getI kg_10 fl_Reader_63 rfl rfl <|
        qz_iconst rfl <|
        qz_iadd <|
        qz_goto rfl ca_Reader_readNumber_63 <|
        qz_fgt [1, 1, 0, 1, 0, 1, 0, 0, 0, 0] <| jb_Reader_readNumber_63 G l0 l1 l3 l5 (h l0 0) (qz_w ((h (h l0 0) 2) + 1)) h)
set_option maxRecDepth 20000 in
theorem jb_Reader_readNumber_28 (G : qz_G) (l0 : Int) (l1 : Int) (l3 : Int) (l5 : Int) (h : qz_H) : qz_J yd_Reader_readNumber G bk_Reader_readNumber_28 28 [qz_r true 9 l0, qz_j l1, qz_u, qz_j l3, qz_u, qz_i l5, qz_u, qz_u, qz_u, qz_u] [] h 0 0 (fn_Reader_readNumber_28 l0 l1 l3 l5 h) := by
  unfold fn_Reader_readNumber_28 bk_Reader_readNumber_28; exact
    qz_iconst rfl <|
    qz_goto rfl ca_Reader_readNumber_33 <|
    qz_fgt [1, 1, 0, 1, 0, 1, 0, 0, 0, 0] <| jb_Reader_readNumber_33 G l0 l1 l3 l5 1 h
set_option maxRecDepth 20000 in
theorem cn_Reader_readNumber (l0 : Int) (l1 : Int) (l3 : Int) (h : qz_H) : qz_C yd_Reader_readNumber [qz_r true 9 l0, qz_j l1, qz_j l3] h (fn_Reader_readNumber l0 l1 l3 h) := by
  refine qz_con (is := bk_Reader_readNumber_0) (ls := [qz_r true 9 l0, qz_j l1, qz_u, qz_j l3, qz_u, qz_u, qz_u, qz_u, qz_u, qz_u]) mw_Reader_readNumber.2.2.2 ca_Reader_readNumber_0 rfl rfl rfl fun G => ?_
  unfold fn_Reader_readNumber bk_Reader_readNumber_0; exact
    qz_aload_n rfl <|
    qz_getR (k1 := 10) kg_9 fl_Reader_33 rfl rfl <|
    qz_bipush rfl <|
    qz_nnd 1 rfl <|
    qz_invvI [qz_i 45] rfl (cn_Scanner_beginsWith (h l0 0) 45 h) mw_Scanner_beginsWith vw_Scanner_beginsWith ⟨_, rfl, rfl, by decide⟩ rfl rfl ln_Reader_294 rfl fun r1 h2 =>
    qz_istore (by decide) fun x3 =>
    qz_iload rfl <|
    qz_if_ne rfl ca_Reader_readNumber_28
      (qz_fgt [1, 1, 0, 1, 0, 1, 0, 0, 0, 0] <| jb_Reader_readNumber_28 G l0 l1 l3 x3 h2)
      (qz_aload_n rfl <|
        qz_getR (k1 := 10) kg_9 fl_Reader_33 rfl rfl <|
        qz_bipush rfl <|
        qz_nnd 1 rfl <|
        qz_invvI [qz_i 43] rfl (cn_Scanner_beginsWith (h2 l0 0) 43 h2) mw_Scanner_beginsWith vw_Scanner_beginsWith ⟨_, rfl, rfl, by decide⟩ rfl rfl ln_Reader_294 rfl fun r4 h5 =>
        qz_if_eq rfl ca_Reader_readNumber_32
          (qz_iconst rfl <|
            qz_fall rfl ca_Reader_readNumber_33 <|
            qz_fgt [1, 1, 0, 1, 0, 1, 0, 0, 0, 0] <| jb_Reader_readNumber_33 G l0 l1 l3 x3 0 h5)
          (qz_fall rfl ca_Reader_readNumber_28 <|
            qz_fgt [1, 1, 0, 1, 0, 1, 0, 0, 0, 0] <| jb_Reader_readNumber_28 G l0 l1 l3 x3 h5))
def fn_Scanner_isName_42 (s0 : Int) (h : qz_H) : Option qz_R :=
  qz_ck ((s0 : Int) = 0 ∨ (s0 : Int) = 1) (some (s0, h))
def fn_Scanner_isName_41 (h : qz_H) : Option qz_R :=
  fn_Scanner_isName_42 0 h
set_option maxRecDepth 20000 in
def fn_Scanner_isName (l0 : Int) (h : qz_H) : Option qz_R :=
  if ¬ h l0 1 = 2 then
    fn_Scanner_isName_41 h
  else
    qz_ck ((h l0 0 : Int) ≠ 0) <|
    qz_bc (fn_Text_at (h l0 0) (h l0 2) h) fun r1 h2 =>
    if ¬ r1 = 36 then
      fn_Scanner_isName_41 h2
    else
      if qz_w ((h2 l0 3) - (h2 l0 2)) ≤ 1 then
        fn_Scanner_isName_41 h2
      else
        fn_Scanner_isName_42 1 h2
def bk_Scanner_isName_0 : List (Instr × Nat) := [(.aload_n 0, 1), (.getfield 15, 3), (.iconst 2, 1), (.if_icmp .ne 36, 3), (.aload_n 0, 1), (.getfield 9, 3), (.aload_n 0, 1), (.getfield 19, 3), (.invokevirtual 29, 3), (.bipush 36, 2), (.if_icmp .ne 20, 3), (.aload_n 0, 1), (.getfield 22, 3), (.aload_n 0, 1), (.getfield 19, 3), (.isub, 1), (.iconst 1, 1), (.if_icmp .le 7, 3), (.iconst 1, 1), (.goto 4, 3)]
def bk_Scanner_isName_41 : List (Instr × Nat) := [(.iconst 0, 1)]
def bk_Scanner_isName_42 : List (Instr × Nat) := [(.ireturn, 1)]
theorem ca_Scanner_isName_0 : qz_ca yd_Scanner_isName.2.1 0 bk_Scanner_isName_0 := qz_cab_ok _ _ (by decide +kernel)
theorem ca_Scanner_isName_41 : qz_ca yd_Scanner_isName.2.1 41 bk_Scanner_isName_41 := qz_cab_ok _ _ (by decide +kernel)
theorem ca_Scanner_isName_42 : qz_ca yd_Scanner_isName.2.1 42 bk_Scanner_isName_42 := qz_cab_ok _ _ (by decide +kernel)
set_option maxRecDepth 20000 in
theorem jb_Scanner_isName_42 (G : qz_G) (s0 : Int) (h : qz_H) : qz_J yd_Scanner_isName G bk_Scanner_isName_42 42 [qz_u] [qz_i s0] h 0 0 (fn_Scanner_isName_42 s0 h) := by
  unfold fn_Scanner_isName_42 bk_Scanner_isName_42; exact
    qz_zreturn ⟨rfl, rfl⟩ rfl
set_option maxRecDepth 20000 in
theorem jb_Scanner_isName_41 (G : qz_G) (h : qz_H) : qz_J yd_Scanner_isName G bk_Scanner_isName_41 41 [qz_u] [] h 0 0 (fn_Scanner_isName_41 h) := by
  unfold fn_Scanner_isName_41 bk_Scanner_isName_41; exact
    qz_iconst rfl <|
    qz_fall rfl ca_Scanner_isName_42 <|
    qz_fgt [0] <| jb_Scanner_isName_42 G 0 h
set_option maxRecDepth 20000 in
theorem cn_Scanner_isName (l0 : Int) (h : qz_H) : qz_C yd_Scanner_isName [qz_r true 10 l0] h (fn_Scanner_isName l0 h) := by
  refine qz_con (is := bk_Scanner_isName_0) (ls := [qz_r true 10 l0]) mw_Scanner_isName.2.2.2 ca_Scanner_isName_0 rfl rfl rfl fun G => ?_
  unfold fn_Scanner_isName bk_Scanner_isName_0; exact
    qz_aload_n rfl <|
    qz_getI kg_10 fl_Scanner_15 rfl rfl <|
    qz_iconst rfl <|
    qz_icmp_ne rfl ca_Scanner_isName_41
      (qz_fgt [0] <| jb_Scanner_isName_41 G h)
      (qz_aload_n rfl <|
        qz_getR (k1 := 11) kg_10 fl_Scanner_9 rfl rfl <|
        qz_aload_n rfl <|
        qz_getI kg_10 fl_Scanner_19 rfl rfl <|
        qz_nnd 1 rfl <|
        qz_invvI [qz_i (h l0 2)] rfl (cn_Text_at (h l0 0) (h l0 2) h) mw_Text_at vw_Text_at ⟨_, rfl, rfl, by decide⟩ rfl rfl ln_Scanner_29 rfl fun r1 h2 =>
        qz_bipush rfl <|
        qz_icmp_ne rfl ca_Scanner_isName_41
          (qz_fgt [0] <| jb_Scanner_isName_41 G h2)
          (qz_aload_n rfl <|
            qz_getI kg_10 fl_Scanner_22 rfl rfl <|
            qz_aload_n rfl <|
            qz_getI kg_10 fl_Scanner_19 rfl rfl <|
            qz_isub <|
            qz_iconst rfl <|
            qz_icmp_le rfl ca_Scanner_isName_41
              (qz_fgt [0] <| jb_Scanner_isName_41 G h2)
              (qz_iconst rfl <|
                qz_goto rfl ca_Scanner_isName_42 <|
                qz_fgt [0] <| jb_Scanner_isName_42 G 1 h2)))
def fn_Level_isBlock_23 (s0 : Int) (h : qz_H) : Option qz_R :=
  qz_ck ((s0 : Int) = 0 ∨ (s0 : Int) = 1) (some (s0, h))
def fn_Level_isBlock_18 (h : qz_H) : Option qz_R :=
  fn_Level_isBlock_23 1 h
set_option maxRecDepth 20000 in
def fn_Level_isBlock (l0 : Int) (h : qz_H) : Option qz_R :=
  if h l0 0 = 8 then
    fn_Level_isBlock_18 h
  else
    if ¬ h l0 0 = 9 then
      fn_Level_isBlock_23 0 h
    else
      fn_Level_isBlock_18 h
def bk_Level_isBlock_0 : List (Instr × Nat) := [(.aload_n 0, 1), (.getfield 18, 3), (.bipush 8, 2), (.if_icmp .eq 12, 3), (.aload_n 0, 1), (.getfield 18, 3), (.bipush 9, 2), (.if_icmp .ne 7, 3)]
def bk_Level_isBlock_18 : List (Instr × Nat) := [(.iconst 1, 1), (.goto 4, 3)]
def bk_Level_isBlock_22 : List (Instr × Nat) := [(.iconst 0, 1)]
def bk_Level_isBlock_23 : List (Instr × Nat) := [(.ireturn, 1)]
theorem ca_Level_isBlock_0 : qz_ca yd_Level_isBlock.2.1 0 bk_Level_isBlock_0 := qz_cab_ok _ _ (by decide +kernel)
theorem ca_Level_isBlock_18 : qz_ca yd_Level_isBlock.2.1 18 bk_Level_isBlock_18 := qz_cab_ok _ _ (by decide +kernel)
theorem ca_Level_isBlock_22 : qz_ca yd_Level_isBlock.2.1 22 bk_Level_isBlock_22 := qz_cab_ok _ _ (by decide +kernel)
theorem ca_Level_isBlock_23 : qz_ca yd_Level_isBlock.2.1 23 bk_Level_isBlock_23 := qz_cab_ok _ _ (by decide +kernel)
set_option maxRecDepth 20000 in
theorem jb_Level_isBlock_23 (G : qz_G) (s0 : Int) (h : qz_H) : qz_J yd_Level_isBlock G bk_Level_isBlock_23 23 [qz_u] [qz_i s0] h 0 0 (fn_Level_isBlock_23 s0 h) := by
  unfold fn_Level_isBlock_23 bk_Level_isBlock_23; exact
    qz_zreturn ⟨rfl, rfl⟩ rfl
set_option maxRecDepth 20000 in
theorem jb_Level_isBlock_18 (G : qz_G) (h : qz_H) : qz_J yd_Level_isBlock G bk_Level_isBlock_18 18 [qz_u] [] h 0 0 (fn_Level_isBlock_18 h) := by
  unfold fn_Level_isBlock_18 bk_Level_isBlock_18; exact
    qz_iconst rfl <|
    qz_goto rfl ca_Level_isBlock_23 <|
    qz_fgt [0] <| jb_Level_isBlock_23 G 1 h
set_option maxRecDepth 20000 in
theorem cn_Level_isBlock (l0 : Int) (h : qz_H) : qz_C yd_Level_isBlock [qz_r true 5 l0] h (fn_Level_isBlock l0 h) := by
  refine qz_con (is := bk_Level_isBlock_0) (ls := [qz_r true 5 l0]) mw_Level_isBlock.2.2.2 ca_Level_isBlock_0 rfl rfl rfl fun G => ?_
  unfold fn_Level_isBlock bk_Level_isBlock_0; exact
    qz_aload_n rfl <|
    qz_getI kg_5 fl_Level_18 rfl rfl <|
    qz_bipush rfl <|
    qz_icmp_eq rfl ca_Level_isBlock_18
      (qz_fgt [0] <| jb_Level_isBlock_18 G h)
      (qz_aload_n rfl <|
        qz_getI kg_5 fl_Level_18 rfl rfl <|
        qz_bipush rfl <|
        qz_icmp_ne rfl ca_Level_isBlock_22
          (qz_iconst rfl <|
            qz_fall rfl ca_Level_isBlock_23 <|
            qz_fgt [0] <| jb_Level_isBlock_23 G 0 h)
          (qz_fall rfl ca_Level_isBlock_18 <|
            qz_fgt [0] <| jb_Level_isBlock_18 G h))
def fn_Scanner_same_70 (s0 : Int) (h : qz_H) : Option qz_R :=
  qz_ck ((s0 : Int) = 0 ∨ (s0 : Int) = 1) (some (s0, h))
def fn_Scanner_same_69 (h : qz_H) : Option qz_R :=
  fn_Scanner_same_70 0 h
def fn_Scanner_same_49 (l4 : Int) (l5 : Int) (h : qz_H) : Option qz_R :=
  qz_bc (fn_Scanner_isOfWord l4 h) fun r1 h2 =>
  if ¬ r1 = 0 then
    fn_Scanner_same_69 h2
  else
    qz_bc (fn_Scanner_isOfWord l5 h2) fun r3 h4 =>
    if ¬ r3 = 0 then
      fn_Scanner_same_69 h4
    else
      fn_Scanner_same_70 1 h4
def fn_Scanner_same_2_b (k2 : Int → Int → Int → Int → qz_H → Option qz_R) (l0 : Int) (l1 : Int) (l2 : Int) (l3 : Int) (h : qz_H) : Option qz_R :=
  if 320 < l3 then
    qz_ck ((1 : Int) = 0 ∨ (1 : Int) = 1) (some (1, h))
  else
    qz_ck ((h l0 0 : Int) ≠ 0) <|
    qz_bc (fn_Text_at (h l0 0) (qz_w (l1 + l3)) h) fun r1 h2 =>
    qz_bn (r1 : Int) fun x3 =>
    qz_ck ((h2 l0 0 : Int) ≠ 0) <|
    qz_bc (fn_Text_at (h2 l0 0) (qz_w (l2 + l3)) h2) fun r4 h5 =>
    qz_bn (r4 : Int) fun x6 =>
    qz_bc (fn_Scanner_isOfWord x3 h5) fun r7 h8 =>
    if r7 = 0 then
      fn_Scanner_same_49 x3 x6 h8
    else
      qz_bc (fn_Scanner_isOfWord x6 h8) fun r9 h10 =>
      if ¬ r9 = 0 then
        if x3 = x6 then
          qz_bn (qz_w (l3 + 1)) fun x11 =>
          k2 l0 l1 l2 x11 h10
        else
          qz_ck ((0 : Int) = 0 ∨ (0 : Int) = 1) (some (0, h10))
      else
        fn_Scanner_same_49 x3 x6 h10
def fn_Scanner_same_2 : Nat → Int → Int → Int → Int → qz_H → Option qz_R
  | 0, _, _, _, _, _ => none
  | n + 1, l0, l1, l2, l3, h => fn_Scanner_same_2_b (fn_Scanner_same_2 n) l0 l1 l2 l3 h
set_option maxRecDepth 20000 in
def fn_Scanner_same (l0 : Int) (l1 : Int) (l2 : Int) (h : qz_H) : Option qz_R :=
  qz_bn (0 : Int) fun x1 =>
  fn_Scanner_same_2 qz_NF l0 l1 l2 x1 h
def bk_Scanner_same_0 : List (Instr × Nat) := [(.iconst 0, 1), (.istore_n 3, 1)]
def bk_Scanner_same_2 : List (Instr × Nat) := [(.iload_n 3, 1), (.sipush 320, 3), (.if_icmp .gt 80, 3), (.aload_n 0, 1), (.getfield 9, 3), (.iload_n 1, 1), (.iload_n 3, 1), (.iadd, 1), (.invokevirtual 29, 3), (.istore 4, 2), (.aload_n 0, 1), (.getfield 9, 3), (.iload_n 2, 1), (.iload_n 3, 1), (.iadd, 1), (.invokevirtual 29, 3), (.istore 5, 2), (.iload 4, 2), (.invokestatic 38, 3), (.ifCond .eq 11, 3), (.iload 5, 2), (.invokestatic 38, 3), (.ifCond .ne 25, 3)]
def bk_Scanner_same_86 : List (Instr × Nat) := [(.iconst 1, 1), (.ireturn, 1)]
def bk_Scanner_same_49 : List (Instr × Nat) := [(.iload 4, 2), (.invokestatic 38, 3), (.ifCond .ne 15, 3), (.iload 5, 2), (.invokestatic 38, 3), (.ifCond .ne 7, 3), (.iconst 1, 1), (.goto 4, 3)]
def bk_Scanner_same_71 : List (Instr × Nat) := [(.iload 4, 2), (.iload 5, 2), (.if_icmp .eq 5, 3), (.iconst 0, 1), (.ireturn, 1)]
def bk_Scanner_same_80 : List (Instr × Nat) := [(.iinc 3 1, 3), (.goto (-81), 3)]
def bk_Scanner_same_69 : List (Instr × Nat) := [(.iconst 0, 1)]
def bk_Scanner_same_70 : List (Instr × Nat) := [(.ireturn, 1)]
theorem ca_Scanner_same_0 : qz_ca yd_Scanner_same.2.1 0 bk_Scanner_same_0 := qz_cab_ok _ _ (by decide +kernel)
theorem ca_Scanner_same_2 : qz_ca yd_Scanner_same.2.1 2 bk_Scanner_same_2 := qz_cab_ok _ _ (by decide +kernel)
theorem ca_Scanner_same_86 : qz_ca yd_Scanner_same.2.1 86 bk_Scanner_same_86 := qz_cab_ok _ _ (by decide +kernel)
theorem ca_Scanner_same_49 : qz_ca yd_Scanner_same.2.1 49 bk_Scanner_same_49 := qz_cab_ok _ _ (by decide +kernel)
theorem ca_Scanner_same_71 : qz_ca yd_Scanner_same.2.1 71 bk_Scanner_same_71 := qz_cab_ok _ _ (by decide +kernel)
theorem ca_Scanner_same_80 : qz_ca yd_Scanner_same.2.1 80 bk_Scanner_same_80 := qz_cab_ok _ _ (by decide +kernel)
theorem ca_Scanner_same_69 : qz_ca yd_Scanner_same.2.1 69 bk_Scanner_same_69 := qz_cab_ok _ _ (by decide +kernel)
theorem ca_Scanner_same_70 : qz_ca yd_Scanner_same.2.1 70 bk_Scanner_same_70 := qz_cab_ok _ _ (by decide +kernel)
set_option maxRecDepth 20000 in
theorem jb_Scanner_same_70 (G : qz_G) (s0 : Int) (h : qz_H) : qz_J yd_Scanner_same G bk_Scanner_same_70 70 [qz_u, qz_u, qz_u, qz_u, qz_u, qz_u] [qz_i s0] h 0 0 (fn_Scanner_same_70 s0 h) := by
  unfold fn_Scanner_same_70 bk_Scanner_same_70; exact
    qz_zreturn ⟨rfl, rfl⟩ rfl
set_option maxRecDepth 20000 in
theorem jb_Scanner_same_69 (G : qz_G) (h : qz_H) : qz_J yd_Scanner_same G bk_Scanner_same_69 69 [qz_u, qz_u, qz_u, qz_u, qz_u, qz_u] [] h 0 0 (fn_Scanner_same_69 h) := by
  unfold fn_Scanner_same_69 bk_Scanner_same_69; exact
    qz_iconst rfl <|
    qz_fall rfl ca_Scanner_same_70 <|
    qz_fgt [0, 0, 0, 0, 0, 0] <| jb_Scanner_same_70 G 0 h
set_option maxRecDepth 20000 in
theorem jb_Scanner_same_49 (G : qz_G) (l4 : Int) (l5 : Int) (h : qz_H) : qz_J yd_Scanner_same G bk_Scanner_same_49 49 [qz_u, qz_u, qz_u, qz_u, qz_i l4, qz_i l5] [] h 0 0 (fn_Scanner_same_49 l4 l5 h) := by
  unfold fn_Scanner_same_49 bk_Scanner_same_49; exact
    qz_iload rfl <|
    qz_invsI [qz_i l4] rfl (cn_Scanner_isOfWord l4 h) mw_Scanner_isOfWord vs_Scanner_isOfWord rfl rfl ln_Scanner_38 rfl fun r1 h2 =>
    qz_if_ne rfl ca_Scanner_same_69
      (qz_fgt [0, 0, 0, 0, 0, 0] <| jb_Scanner_same_69 G h2)
      (qz_iload rfl <|
        qz_invsI [qz_i l5] rfl (cn_Scanner_isOfWord l5 h2) mw_Scanner_isOfWord vs_Scanner_isOfWord rfl rfl ln_Scanner_38 rfl fun r3 h4 =>
        qz_if_ne rfl ca_Scanner_same_69
          (qz_fgt [0, 0, 0, 0, 0, 0] <| jb_Scanner_same_69 G h4)
          (qz_iconst rfl <|
            qz_goto rfl ca_Scanner_same_70 <|
            qz_fgt [0, 0, 0, 0, 0, 0] <| jb_Scanner_same_70 G 1 h4))
set_option maxRecDepth 20000 in
theorem jb_Scanner_same_2_b (G : qz_G) (k2 : Int → Int → Int → Int → qz_H → Option qz_R) (jk2 : ∀ (l0 : Int) (l1 : Int) (l2 : Int) (l3 : Int) (h : qz_H), qz_J yd_Scanner_same G bk_Scanner_same_2 2 [qz_r true 10 l0, qz_i l1, qz_i l2, qz_i l3, qz_u, qz_u] [] h 0 0 (k2 l0 l1 l2 l3 h)) (l0 : Int) (l1 : Int) (l2 : Int) (l3 : Int) (h : qz_H) : qz_J yd_Scanner_same G bk_Scanner_same_2 2 [qz_r true 10 l0, qz_i l1, qz_i l2, qz_i l3, qz_u, qz_u] [] h 0 0 (fn_Scanner_same_2_b k2 l0 l1 l2 l3 h) := by
  unfold fn_Scanner_same_2_b bk_Scanner_same_2; exact
    qz_iload_n rfl <|
    qz_sipush rfl <|
    qz_icmp_gt rfl ca_Scanner_same_86
      (qz_iconst rfl <|
        qz_zreturn ⟨rfl, rfl⟩ rfl)
      (qz_aload_n rfl <|
        qz_getR (k1 := 11) kg_10 fl_Scanner_9 rfl rfl <|
        qz_iload_n rfl <|
        qz_iload_n rfl <|
        qz_iadd <|
        qz_nnd 1 rfl <|
        qz_invvI [qz_i (qz_w (l1 + l3))] rfl (cn_Text_at (h l0 0) (qz_w (l1 + l3)) h) mw_Text_at vw_Text_at ⟨_, rfl, rfl, by decide⟩ rfl rfl ln_Scanner_29 rfl fun r1 h2 =>
        qz_istore (by decide) fun x3 =>
        qz_aload_n rfl <|
        qz_getR (k1 := 11) kg_10 fl_Scanner_9 rfl rfl <|
        qz_iload_n rfl <|
        qz_iload_n rfl <|
        qz_iadd <|
        qz_nnd 1 rfl <|
        qz_invvI [qz_i (qz_w (l2 + l3))] rfl (cn_Text_at (h2 l0 0) (qz_w (l2 + l3)) h2) mw_Text_at vw_Text_at ⟨_, rfl, rfl, by decide⟩ rfl rfl ln_Scanner_29 rfl fun r4 h5 =>
        qz_istore (by decide) fun x6 =>
        qz_iload rfl <|
        qz_invsI [qz_i x3] rfl (cn_Scanner_isOfWord x3 h5) mw_Scanner_isOfWord vs_Scanner_isOfWord rfl rfl ln_Scanner_38 rfl fun r7 h8 =>
        qz_if_eq rfl ca_Scanner_same_49
          (qz_fgt [0, 0, 0, 0, 1, 1] <| jb_Scanner_same_49 G x3 x6 h8)
          (qz_iload rfl <|
            qz_invsI [qz_i x6] rfl (cn_Scanner_isOfWord x6 h8) mw_Scanner_isOfWord vs_Scanner_isOfWord rfl rfl ln_Scanner_38 rfl fun r9 h10 =>
            qz_if_ne rfl ca_Scanner_same_71
              (qz_iload rfl <|
                qz_iload rfl <|
                qz_icmp_eq rfl ca_Scanner_same_80
                  (qz_iinc rfl (by decide) fun x11 =>
                    qz_goto rfl ca_Scanner_same_2 <|
                    qz_fgt [1, 1, 1, 1, 0, 0] <| jk2 l0 l1 l2 x11 h10)
                  (qz_iconst rfl <|
                    qz_zreturn ⟨rfl, rfl⟩ rfl))
              (qz_fall rfl ca_Scanner_same_49 <|
                qz_fgt [0, 0, 0, 0, 1, 1] <| jb_Scanner_same_49 G x3 x6 h10)))
theorem jb_Scanner_same_2 (G : qz_G) : ∀ (n : Nat) (l0 l1 l2 l3 : Int) (h : qz_H), qz_J yd_Scanner_same G bk_Scanner_same_2 2 [qz_r true 10 l0, qz_i l1, qz_i l2, qz_i l3, qz_u, qz_u] [] h 0 0 (fn_Scanner_same_2 n l0 l1 l2 l3 h)
  | 0, _, _, _, _, _ => qz_none
  | n + 1, l0, l1, l2, l3, h => jb_Scanner_same_2_b G (fn_Scanner_same_2 n) (jb_Scanner_same_2 G n) l0 l1 l2 l3 h
set_option maxRecDepth 20000 in
theorem cn_Scanner_same (l0 : Int) (l1 : Int) (l2 : Int) (h : qz_H) : qz_C yd_Scanner_same [qz_r true 10 l0, qz_i l1, qz_i l2] h (fn_Scanner_same l0 l1 l2 h) := by
  refine qz_con (is := bk_Scanner_same_0) (ls := [qz_r true 10 l0, qz_i l1, qz_i l2, qz_u, qz_u, qz_u]) mw_Scanner_same.2.2.2 ca_Scanner_same_0 rfl rfl rfl fun G => ?_
  unfold fn_Scanner_same bk_Scanner_same_0; exact
    qz_iconst rfl <|
    qz_istore_n (by decide) fun x1 =>
    qz_fall rfl ca_Scanner_same_2 <|
    qz_fgt [1, 1, 1, 1, 0, 0] <| jb_Scanner_same_2 G qz_NF l0 l1 l2 x1 h
def fn_Reader_labelNamed_59 (k7 : Int → Int → Int → qz_H → Option qz_R) (l0 : Int) (l1 : Int) (l2 : Int) (h : qz_H) : Option qz_R :=
  qz_bn (qz_w (l2 + (-1))) fun x1 =>
  k7 l0 l1 x1 h
def fn_Reader_labelNamed_56 (k7 : Int → Int → Int → qz_H → Option qz_R) (l0 : Int) (l1 : Int) (l2 : Int) (h : qz_H) : Option qz_R :=
  qz_bn (qz_w (l1 + 1)) fun x1 =>
  fn_Reader_labelNamed_59 k7 l0 x1 l2 h
def fn_Reader_labelNamed_7_b (k7 : Int → Int → Int → qz_H → Option qz_R) (l0 : Int) (l1 : Int) (l2 : Int) (h : qz_H) : Option qz_R :=
  if l2 ≤ 0 then
    some ((-1), h)
  else
    qz_ck ((h l0 1 : Int) ≠ 0) <|
    qz_ck ((0 : Int) ≤ l2 ∧ l2 < h (h l0 1) (-1)) <|
    qz_bn (h (h l0 1) l2 : Int) fun x1 =>
    qz_ck ((x1 : Int) ≠ 0) <|
    qz_bc (fn_Level_isBlock x1 h) fun r2 h3 =>
    if r2 = 0 then
      fn_Reader_labelNamed_59 k7 l0 l1 l2 h3
    else
      qz_ck ((x1 : Int) ≠ 0) <|
      if h3 x1 2 = (-1) then
        fn_Reader_labelNamed_56 k7 l0 l1 l2 h3
      else
        qz_ck ((x1 : Int) ≠ 0) <|
        qz_ck ((h3 l0 0 : Int) ≠ 0) <|
        qz_ck ((h3 l0 0 : Int) ≠ 0) <|
        qz_bc (fn_Scanner_same (h3 l0 0) (h3 x1 2) (h3 (h3 l0 0) 2) h3) fun r4 h5 =>
        if r4 = 0 then
          fn_Reader_labelNamed_56 k7 l0 l1 l2 h5
        else
          some (l1, h5)
def fn_Reader_labelNamed_7 : Nat → Int → Int → Int → qz_H → Option qz_R
  | 0, _, _, _, _ => none
  | n + 1, l0, l1, l2, h => fn_Reader_labelNamed_7_b (fn_Reader_labelNamed_7 n) l0 l1 l2 h
set_option maxRecDepth 20000 in
def fn_Reader_labelNamed (l0 : Int) (h : qz_H) : Option qz_R :=
  qz_bn (0 : Int) fun x1 =>
  qz_bn (h l0 5 : Int) fun x2 =>
  fn_Reader_labelNamed_7 qz_NF l0 x1 x2 h
def bk_Reader_labelNamed_0 : List (Instr × Nat) := [(.iconst 0, 1), (.istore_n 1, 1), (.aload_n 0, 1), (.getfield 46, 3), (.istore_n 2, 1)]
def bk_Reader_labelNamed_7 : List (Instr × Nat) := [(.iload_n 2, 1), (.ifCond .le 57, 3), (.aload_n 0, 1), (.getfield 11, 3), (.iload_n 2, 1), (.aaload, 1), (.astore_n 3, 1), (.aload_n 3, 1), (.invokevirtual 244, 3), (.ifCond .eq 37, 3), (.aload_n 3, 1), (.getfield 187, 3), (.iconst (-1), 1), (.if_icmp .eq 26, 3), (.aload_n 0, 1), (.getfield 33, 3), (.aload_n 3, 1), (.getfield 187, 3), (.aload_n 0, 1), (.getfield 33, 3), (.getfield 63, 3), (.invokevirtual 227, 3), (.ifCond .eq 5, 3), (.iload_n 1, 1), (.ireturn, 1)]
def bk_Reader_labelNamed_65 : List (Instr × Nat) := [(.iconst (-1), 1), (.ireturn, 1)]
def bk_Reader_labelNamed_59 : List (Instr × Nat) := [(.iinc 2 (-1), 3), (.goto (-55), 3)]
def bk_Reader_labelNamed_56 : List (Instr × Nat) := [(.iinc 1 1, 3)]
theorem ca_Reader_labelNamed_0 : qz_ca yd_Reader_labelNamed.2.1 0 bk_Reader_labelNamed_0 := qz_cab_ok _ _ (by decide +kernel)
theorem ca_Reader_labelNamed_7 : qz_ca yd_Reader_labelNamed.2.1 7 bk_Reader_labelNamed_7 := qz_cab_ok _ _ (by decide +kernel)
theorem ca_Reader_labelNamed_65 : qz_ca yd_Reader_labelNamed.2.1 65 bk_Reader_labelNamed_65 := qz_cab_ok _ _ (by decide +kernel)
theorem ca_Reader_labelNamed_59 : qz_ca yd_Reader_labelNamed.2.1 59 bk_Reader_labelNamed_59 := qz_cab_ok _ _ (by decide +kernel)
theorem ca_Reader_labelNamed_56 : qz_ca yd_Reader_labelNamed.2.1 56 bk_Reader_labelNamed_56 := qz_cab_ok _ _ (by decide +kernel)
set_option maxRecDepth 20000 in
theorem jb_Reader_labelNamed_59 (G : qz_G) (k7 : Int → Int → Int → qz_H → Option qz_R) (jk7 : ∀ (l0 : Int) (l1 : Int) (l2 : Int) (h : qz_H), qz_J yd_Reader_labelNamed G bk_Reader_labelNamed_7 7 [qz_r true 9 l0, qz_i l1, qz_i l2, qz_u] [] h 0 0 (k7 l0 l1 l2 h)) (l0 : Int) (l1 : Int) (l2 : Int) (h : qz_H) : qz_J yd_Reader_labelNamed G bk_Reader_labelNamed_59 59 [qz_r true 9 l0, qz_i l1, qz_i l2, qz_u] [] h 0 0 (fn_Reader_labelNamed_59 k7 l0 l1 l2 h) := by
  unfold fn_Reader_labelNamed_59 bk_Reader_labelNamed_59; exact
    qz_iinc rfl (by decide) fun x1 =>
    qz_goto rfl ca_Reader_labelNamed_7 <|
    qz_fgt [1, 1, 1, 0] <| jk7 l0 l1 x1 h
set_option maxRecDepth 20000 in
theorem jb_Reader_labelNamed_56 (G : qz_G) (k7 : Int → Int → Int → qz_H → Option qz_R) (jk7 : ∀ (l0 : Int) (l1 : Int) (l2 : Int) (h : qz_H), qz_J yd_Reader_labelNamed G bk_Reader_labelNamed_7 7 [qz_r true 9 l0, qz_i l1, qz_i l2, qz_u] [] h 0 0 (k7 l0 l1 l2 h)) (l0 : Int) (l1 : Int) (l2 : Int) (h : qz_H) : qz_J yd_Reader_labelNamed G bk_Reader_labelNamed_56 56 [qz_r true 9 l0, qz_i l1, qz_i l2, qz_u] [] h 0 0 (fn_Reader_labelNamed_56 k7 l0 l1 l2 h) := by
  unfold fn_Reader_labelNamed_56 bk_Reader_labelNamed_56; exact
    qz_iinc rfl (by decide) fun x1 =>
    qz_fall rfl ca_Reader_labelNamed_59 <|
    qz_fgt [1, 1, 1, 0] <| jb_Reader_labelNamed_59 G k7 jk7 l0 x1 l2 h
set_option maxRecDepth 20000 in
theorem jb_Reader_labelNamed_7_b (G : qz_G) (k7 : Int → Int → Int → qz_H → Option qz_R) (jk7 : ∀ (l0 : Int) (l1 : Int) (l2 : Int) (h : qz_H), qz_J yd_Reader_labelNamed G bk_Reader_labelNamed_7 7 [qz_r true 9 l0, qz_i l1, qz_i l2, qz_u] [] h 0 0 (k7 l0 l1 l2 h)) (l0 : Int) (l1 : Int) (l2 : Int) (h : qz_H) : qz_J yd_Reader_labelNamed G bk_Reader_labelNamed_7 7 [qz_r true 9 l0, qz_i l1, qz_i l2, qz_u] [] h 0 0 (fn_Reader_labelNamed_7_b k7 l0 l1 l2 h) := by
  unfold fn_Reader_labelNamed_7_b bk_Reader_labelNamed_7; exact
    qz_iload_n rfl <|
    qz_if_le rfl ca_Reader_labelNamed_65
      (qz_iconst rfl <|
        qz_ireturn ⟨rfl, rfl⟩ rfl)
      (qz_aload_n rfl <|
        qz_getR (k1 := 47) kg_9 fl_Reader_11 rfl rfl <|
        qz_iload_n rfl <|
        qz_nnd 1 rfl <|
        qz_aald (k0 := 47) (k1 := 5) rfl rfl rfl <|
        qz_astore_n (by decide) fun x1 =>
        qz_aload_n rfl <|
        qz_nnd 0 rfl <|
        qz_invvI [] rfl (cn_Level_isBlock x1 h) mw_Level_isBlock vw_Level_isBlock ⟨_, rfl, rfl, by decide⟩ rfl rfl ln_Reader_244 rfl fun r2 h3 =>
        qz_if_eq rfl ca_Reader_labelNamed_59
          (qz_fgt [1, 1, 1, 0] <| jb_Reader_labelNamed_59 G k7 jk7 l0 l1 l2 h3)
          (qz_aload_n rfl <|
            qz_nnd 0 rfl <|
            qz_getI kg_5 fl_Reader_187 rfl rfl <|
            qz_iconst rfl <|
            qz_icmp_eq rfl ca_Reader_labelNamed_56
              (qz_fgt [1, 1, 1, 0] <| jb_Reader_labelNamed_56 G k7 jk7 l0 l1 l2 h3)
              (qz_aload_n rfl <|
                qz_getR (k1 := 10) kg_9 fl_Reader_33 rfl rfl <|
                qz_aload_n rfl <|
                qz_nnd 0 rfl <|
                qz_getI kg_5 fl_Reader_187 rfl rfl <|
                qz_aload_n rfl <|
                qz_getR (k1 := 10) kg_9 fl_Reader_33 rfl rfl <|
                qz_nnd 0 rfl <|
                qz_getI kg_10 fl_Reader_63 rfl rfl <|
                qz_nnd 2 rfl <|
                qz_invvI [qz_i (h3 x1 2), qz_i (h3 (h3 l0 0) 2)] rfl (cn_Scanner_same (h3 l0 0) (h3 x1 2) (h3 (h3 l0 0) 2) h3) mw_Scanner_same vw_Scanner_same ⟨_, rfl, rfl, by decide⟩ rfl rfl ln_Reader_227 rfl fun r4 h5 =>
                qz_if_eq rfl ca_Reader_labelNamed_56
                  (qz_fgt [1, 1, 1, 0] <| jb_Reader_labelNamed_56 G k7 jk7 l0 l1 l2 h5)
                  (qz_iload_n rfl <|
                    qz_ireturn ⟨rfl, rfl⟩ rfl))))
theorem jb_Reader_labelNamed_7 (G : qz_G) : ∀ (n : Nat) (l0 l1 l2 : Int) (h : qz_H), qz_J yd_Reader_labelNamed G bk_Reader_labelNamed_7 7 [qz_r true 9 l0, qz_i l1, qz_i l2, qz_u] [] h 0 0 (fn_Reader_labelNamed_7 n l0 l1 l2 h)
  | 0, _, _, _, _ => qz_none
  | n + 1, l0, l1, l2, h => jb_Reader_labelNamed_7_b G (fn_Reader_labelNamed_7 n) (jb_Reader_labelNamed_7 G n) l0 l1 l2 h
set_option maxRecDepth 20000 in
theorem cn_Reader_labelNamed (l0 : Int) (h : qz_H) : qz_C yd_Reader_labelNamed [qz_r true 9 l0] h (fn_Reader_labelNamed l0 h) := by
  refine qz_con (is := bk_Reader_labelNamed_0) (ls := [qz_r true 9 l0, qz_u, qz_u, qz_u]) mw_Reader_labelNamed.2.2.2 ca_Reader_labelNamed_0 rfl rfl rfl fun G => ?_
  unfold fn_Reader_labelNamed bk_Reader_labelNamed_0; exact
    qz_iconst rfl <|
    qz_istore_n (by decide) fun x1 =>
    qz_aload_n rfl <|
    qz_getI kg_9 fl_Reader_46 rfl rfl <|
    qz_istore_n (by decide) fun x2 =>
    qz_fall rfl ca_Reader_labelNamed_7 <|
    qz_fgt [1, 1, 1, 0] <| jb_Reader_labelNamed_7 G qz_NF l0 x1 x2 h
def fn_Reader_slotNamed_65 (h : qz_H) : Option qz_R :=
  some ((-1), h)
def fn_Reader_slotNamed_59 (k13 : Int → Int → Int → qz_H → Option qz_R) (l0 : Int) (l1 : Int) (l2 : Int) (h : qz_H) : Option qz_R :=
  qz_bn (qz_w (l2 + 1)) fun x1 =>
  k13 l0 l1 x1 h
def fn_Reader_slotNamed_13_b (k13 : Int → Int → Int → qz_H → Option qz_R) (l0 : Int) (l1 : Int) (l2 : Int) (h : qz_H) : Option qz_R :=
  if l1 ≤ l2 then
    fn_Reader_slotNamed_65 h
  else
    if 8 ≤ l2 then
      fn_Reader_slotNamed_65 h
    else
      qz_ck ((h l0 3 : Int) ≠ 0) <|
      qz_ck ((0 : Int) ≤ l2 ∧ l2 < h (h l0 3) (-1)) <|
      if h (h l0 3) l2 = (-1) then
        fn_Reader_slotNamed_59 k13 l0 l1 l2 h
      else
        qz_ck ((h l0 3 : Int) ≠ 0) <|
        qz_ck ((0 : Int) ≤ l2 ∧ l2 < h (h l0 3) (-1)) <|
        qz_ck ((h l0 0 : Int) ≠ 0) <|
        qz_ck ((h l0 0 : Int) ≠ 0) <|
        qz_bc (fn_Scanner_same (h l0 0) (h (h l0 3) l2) (h (h l0 0) 2) h) fun r1 h2 =>
        if r1 = 0 then
          fn_Reader_slotNamed_59 k13 l0 l1 l2 h2
        else
          some (l2, h2)
def fn_Reader_slotNamed_13 : Nat → Int → Int → Int → qz_H → Option qz_R
  | 0, _, _, _, _ => none
  | n + 1, l0, l1, l2, h => fn_Reader_slotNamed_13_b (fn_Reader_slotNamed_13 n) l0 l1 l2 h
set_option maxRecDepth 20000 in
def fn_Reader_slotNamed (l0 : Int) (h : qz_H) : Option qz_R :=
  qz_ck ((h l0 4 : Int) ≠ 0) <|
  qz_bc (fn_Module_latest (h l0 4) h) fun r1 h2 =>
  qz_ck ((r1 : Int) ≠ 0) <|
  qz_bn (h2 r1 2 : Int) fun x3 =>
  qz_bn (0 : Int) fun x4 =>
  fn_Reader_slotNamed_13 qz_NF l0 x3 x4 h2
def bk_Reader_slotNamed_0 : List (Instr × Nat) := [(.aload_n 0, 1), (.getfield 24, 3), (.invokevirtual 190, 3), (.getfield 194, 3), (.istore_n 1, 1), (.iconst 0, 1), (.istore_n 2, 1)]
def bk_Reader_slotNamed_13 : List (Instr × Nat) := [(.iload_n 2, 1), (.iload_n 1, 1), (.if_icmp .ge 50, 3), (.iload_n 2, 1), (.bipush 8, 2), (.if_icmp .ge 44, 3), (.aload_n 0, 1), (.getfield 21, 3), (.iload_n 2, 1), (.iaload, 1), (.iconst (-1), 1), (.if_icmp .eq 28, 3), (.aload_n 0, 1), (.getfield 33, 3), (.aload_n 0, 1), (.getfield 21, 3), (.iload_n 2, 1), (.iaload, 1), (.aload_n 0, 1), (.getfield 33, 3), (.getfield 63, 3), (.invokevirtual 227, 3), (.ifCond .eq 5, 3), (.iload_n 2, 1), (.ireturn, 1)]
def bk_Reader_slotNamed_65 : List (Instr × Nat) := [(.iconst (-1), 1), (.ireturn, 1)]
def bk_Reader_slotNamed_59 : List (Instr × Nat) := [(.iinc 2 1, 3), (.goto (-49), 3)]
theorem ca_Reader_slotNamed_0 : qz_ca yd_Reader_slotNamed.2.1 0 bk_Reader_slotNamed_0 := qz_cab_ok _ _ (by decide +kernel)
theorem ca_Reader_slotNamed_13 : qz_ca yd_Reader_slotNamed.2.1 13 bk_Reader_slotNamed_13 := qz_cab_ok _ _ (by decide +kernel)
theorem ca_Reader_slotNamed_65 : qz_ca yd_Reader_slotNamed.2.1 65 bk_Reader_slotNamed_65 := qz_cab_ok _ _ (by decide +kernel)
theorem ca_Reader_slotNamed_59 : qz_ca yd_Reader_slotNamed.2.1 59 bk_Reader_slotNamed_59 := qz_cab_ok _ _ (by decide +kernel)
set_option maxRecDepth 20000 in
theorem jb_Reader_slotNamed_65 (G : qz_G) (h : qz_H) : qz_J yd_Reader_slotNamed G bk_Reader_slotNamed_65 65 [qz_u, qz_u, qz_u] [] h 0 0 (fn_Reader_slotNamed_65 h) := by
  unfold fn_Reader_slotNamed_65 bk_Reader_slotNamed_65; exact
    qz_iconst rfl <|
    qz_ireturn ⟨rfl, rfl⟩ rfl
set_option maxRecDepth 20000 in
theorem jb_Reader_slotNamed_59 (G : qz_G) (k13 : Int → Int → Int → qz_H → Option qz_R) (jk13 : ∀ (l0 : Int) (l1 : Int) (l2 : Int) (h : qz_H), qz_J yd_Reader_slotNamed G bk_Reader_slotNamed_13 13 [qz_r true 9 l0, qz_i l1, qz_i l2] [] h 0 0 (k13 l0 l1 l2 h)) (l0 : Int) (l1 : Int) (l2 : Int) (h : qz_H) : qz_J yd_Reader_slotNamed G bk_Reader_slotNamed_59 59 [qz_r true 9 l0, qz_i l1, qz_i l2] [] h 0 0 (fn_Reader_slotNamed_59 k13 l0 l1 l2 h) := by
  unfold fn_Reader_slotNamed_59 bk_Reader_slotNamed_59; exact
    qz_iinc rfl (by decide) fun x1 =>
    qz_goto rfl ca_Reader_slotNamed_13 <|
    qz_fgt [1, 1, 1] <| jk13 l0 l1 x1 h
set_option maxRecDepth 20000 in
theorem jb_Reader_slotNamed_13_b (G : qz_G) (k13 : Int → Int → Int → qz_H → Option qz_R) (jk13 : ∀ (l0 : Int) (l1 : Int) (l2 : Int) (h : qz_H), qz_J yd_Reader_slotNamed G bk_Reader_slotNamed_13 13 [qz_r true 9 l0, qz_i l1, qz_i l2] [] h 0 0 (k13 l0 l1 l2 h)) (l0 : Int) (l1 : Int) (l2 : Int) (h : qz_H) : qz_J yd_Reader_slotNamed G bk_Reader_slotNamed_13 13 [qz_r true 9 l0, qz_i l1, qz_i l2] [] h 0 0 (fn_Reader_slotNamed_13_b k13 l0 l1 l2 h) := by
  unfold fn_Reader_slotNamed_13_b bk_Reader_slotNamed_13; exact
    qz_iload_n rfl <|
    qz_iload_n rfl <|
    qz_icmp_ge rfl ca_Reader_slotNamed_65
      (qz_fgt [0, 0, 0] <| jb_Reader_slotNamed_65 G h)
      (qz_iload_n rfl <|
        qz_bipush rfl <|
        qz_icmp_ge rfl ca_Reader_slotNamed_65
          (qz_fgt [0, 0, 0] <| jb_Reader_slotNamed_65 G h)
          (qz_aload_n rfl <|
            qz_getR (k1 := 40) kg_9 fl_Reader_21 rfl rfl <|
            qz_iload_n rfl <|
            qz_nnd 1 rfl <|
            qz_iald (k0 := 40) rfl rfl rfl <|
            qz_iconst rfl <|
            qz_icmp_eq rfl ca_Reader_slotNamed_59
              (qz_fgt [1, 1, 1] <| jb_Reader_slotNamed_59 G k13 jk13 l0 l1 l2 h)
              (qz_aload_n rfl <|
                qz_getR (k1 := 10) kg_9 fl_Reader_33 rfl rfl <|
                qz_aload_n rfl <|
                qz_getR (k1 := 40) kg_9 fl_Reader_21 rfl rfl <|
                qz_iload_n rfl <|
                qz_nnd 1 rfl <|
                qz_iald (k0 := 40) rfl rfl rfl <|
                qz_aload_n rfl <|
                qz_getR (k1 := 10) kg_9 fl_Reader_33 rfl rfl <|
                qz_nnd 0 rfl <|
                qz_getI kg_10 fl_Reader_63 rfl rfl <|
                qz_nnd 2 rfl <|
                qz_invvI [qz_i (h (h l0 3) l2), qz_i (h (h l0 0) 2)] rfl (cn_Scanner_same (h l0 0) (h (h l0 3) l2) (h (h l0 0) 2) h) mw_Scanner_same vw_Scanner_same ⟨_, rfl, rfl, by decide⟩ rfl rfl ln_Reader_227 rfl fun r1 h2 =>
                qz_if_eq rfl ca_Reader_slotNamed_59
                  (qz_fgt [1, 1, 1] <| jb_Reader_slotNamed_59 G k13 jk13 l0 l1 l2 h2)
                  (qz_iload_n rfl <|
                    qz_ireturn ⟨rfl, rfl⟩ rfl))))
theorem jb_Reader_slotNamed_13 (G : qz_G) : ∀ (n : Nat) (l0 l1 l2 : Int) (h : qz_H), qz_J yd_Reader_slotNamed G bk_Reader_slotNamed_13 13 [qz_r true 9 l0, qz_i l1, qz_i l2] [] h 0 0 (fn_Reader_slotNamed_13 n l0 l1 l2 h)
  | 0, _, _, _, _ => qz_none
  | n + 1, l0, l1, l2, h => jb_Reader_slotNamed_13_b G (fn_Reader_slotNamed_13 n) (jb_Reader_slotNamed_13 G n) l0 l1 l2 h
set_option maxRecDepth 20000 in
theorem cn_Reader_slotNamed (l0 : Int) (h : qz_H) : qz_C yd_Reader_slotNamed [qz_r true 9 l0] h (fn_Reader_slotNamed l0 h) := by
  refine qz_con (is := bk_Reader_slotNamed_0) (ls := [qz_r true 9 l0, qz_u, qz_u]) mw_Reader_slotNamed.2.2.2 ca_Reader_slotNamed_0 rfl rfl rfl fun G => ?_
  unfold fn_Reader_slotNamed bk_Reader_slotNamed_0; exact
    qz_aload_n rfl <|
    qz_getR (k1 := 6) kg_9 fl_Reader_24 rfl rfl <|
    qz_nnd 0 rfl <|
    qz_invvR [] rfl (cn_Module_latest (h l0 4) h) mw_Module_latest vw_Module_latest ⟨_, rfl, rfl, by decide⟩ rfl rfl ln_Reader_190 rfl fun r1 h2 =>
    qz_nnd 0 rfl <|
    qz_getI kg_4 fl_Reader_194 rfl rfl <|
    qz_istore_n (by decide) fun x3 =>
    qz_iconst rfl <|
    qz_istore_n (by decide) fun x4 =>
    qz_fall rfl ca_Reader_slotNamed_13 <|
    qz_fgt [1, 1, 1] <| jb_Reader_slotNamed_13 G qz_NF l0 x3 x4 h2
def fn_Reader_readOperand_163 (s0 : Int) (h : qz_H) : Option qz_R :=
  qz_ck ((s0 : Int) = 0 ∨ (s0 : Int) = 1) (some (s0, h))
def fn_Reader_readOperand_146 (l0 : Int) (s0 : Int) (s1 : Int) (h : qz_H) : Option qz_R :=
  qz_ck ((0 : Int) < s0) <|
  qz_bn (qz_up h s0 8 s1) fun h1 =>
  if qz_cmp (h1 l0 8) 0 < 0 then
    fn_Reader_readOperand_163 0 h1
  else
    fn_Reader_readOperand_163 1 h1
def fn_Reader_readOperand_103 (s0 : Int) (h : qz_H) : Option qz_R :=
  qz_ck ((s0 : Int) = 0 ∨ (s0 : Int) = 1) (some (s0, h))
def fn_Reader_readOperand_102 (h : qz_H) : Option qz_R :=
  fn_Reader_readOperand_103 0 h
set_option maxRecDepth 20000 in
def fn_Reader_readOperand (l0 : Int) (l1 : Int) (h : qz_H) : Option qz_R :=
  if ¬ l1 = 5 then
    if ¬ l1 = 6 then
      qz_ck ((h l0 0 : Int) ≠ 0) <|
      qz_bc (fn_Scanner_isName (h l0 0) h) fun r1 h2 =>
      if ¬ r1 = 0 then
        if ¬ l1 = 3 then
          if ¬ l1 = 2 then
            qz_bc (fn_Reader_slotNamed l0 h2) fun r3 h4 =>
            fn_Reader_readOperand_146 l0 l0 r3 h4
          else
            qz_bc (fn_Reader_labelNamed l0 h2) fun r5 h6 =>
            fn_Reader_readOperand_146 l0 l0 r5 h6
        else
          qz_ck ((h2 l0 0 : Int) ≠ 0) <|
          qz_ck ((0 : Int) < l0) <|
          qz_bn (qz_up h2 l0 8 (qz_x ((-1) - (h2 (h2 l0 0) 2)))) fun h7 =>
          qz_ck ((1 : Int) = 0 ∨ (1 : Int) = 1) (some (1, h7))
      else
        qz_ck ((h2 l0 0 : Int) ≠ 0) <|
        qz_ck ((h2 l0 0 : Int) ≠ 0) <|
        qz_bc (fn_Scanner_readDigits (h2 l0 0) (h2 (h2 l0 0) 2) h2) fun r8 h9 =>
        qz_bn (r8 : Int) fun x10 =>
        qz_ck ((h9 l0 0 : Int) ≠ 0) <|
        qz_ck ((0 : Int) < l0) <|
        qz_bn (qz_up h9 l0 8 (h9 (h9 l0 0) 5)) fun h11 =>
        if x10 = 0 then
          fn_Reader_readOperand_102 h11
        else
          qz_bc (fn_Long_compareUnsigned (h11 l0 8) 4294967296 h11) fun r12 h13 =>
          if 0 ≤ r12 then
            fn_Reader_readOperand_102 h13
          else
            fn_Reader_readOperand_103 1 h13
    else
      qz_bc (fn_Reader_readNumber l0 (-9223372036854775808) (-1) h) fun r14 h15 =>
      qz_ck ((r14 : Int) = 0 ∨ (r14 : Int) = 1) (some (r14, h15))
  else
    qz_bc (fn_Reader_readNumber l0 2147483648 4294967295 h) fun r16 h17 =>
    qz_bn (r16 : Int) fun x18 =>
    qz_ck ((0 : Int) < l0) <|
    qz_bn (qz_up h17 l0 8 (qz_w (h17 l0 8))) fun h19 =>
    qz_ck ((x18 : Int) = 0 ∨ (x18 : Int) = 1) (some (x18, h19))
def bk_Reader_readOperand_0 : List (Instr × Nat) := [(.iload_n 1, 1), (.iconst 5, 1), (.if_icmp .ne 26, 3), (.aload_n 0, 1), (.ldc2_w 265, 3), (.ldc2_w 267, 3), (.invokevirtual 269, 3), (.istore_n 2, 1), (.aload_n 0, 1), (.aload_n 0, 1), (.getfield 262, 3), (.l2i, 1), (.i2l, 1), (.putfield 262, 3), (.iload_n 2, 1), (.ireturn, 1)]
def bk_Reader_readOperand_28 : List (Instr × Nat) := [(.iload_n 1, 1), (.bipush 6, 2), (.if_icmp .ne 14, 3), (.aload_n 0, 1), (.ldc2_w 273, 3), (.ldc2_w 275, 3), (.invokevirtual 269, 3), (.ireturn, 1)]
def bk_Reader_readOperand_45 : List (Instr × Nat) := [(.aload_n 0, 1), (.getfield 33, 3), (.invokevirtual 181, 3), (.ifCond .ne 52, 3), (.aload_n 0, 1), (.getfield 33, 3), (.aload_n 0, 1), (.getfield 33, 3), (.getfield 63, 3), (.invokevirtual 277, 3), (.istore_n 2, 1), (.aload_n 0, 1), (.aload_n 0, 1), (.getfield 33, 3), (.getfield 280, 3), (.putfield 262, 3), (.iload_n 2, 1), (.ifCond .eq 20, 3), (.aload_n 0, 1), (.getfield 262, 3), (.ldc2_w 283, 3), (.invokestatic 285, 3), (.ifCond .ge 7, 3), (.iconst 1, 1), (.goto 4, 3)]
def bk_Reader_readOperand_104 : List (Instr × Nat) := [(.iload_n 1, 1), (.iconst 3, 1), (.if_icmp .ne 21, 3), (.aload_n 0, 1), (.ldc2_w 275, 3), (.aload_n 0, 1), (.getfield 33, 3), (.getfield 63, 3), (.i2l, 1), (.lsub, 1), (.putfield 262, 3), (.iconst 1, 1), (.ireturn, 1)]
def bk_Reader_readOperand_127 : List (Instr × Nat) := [(.aload_n 0, 1), (.iload_n 1, 1), (.iconst 2, 1), (.if_icmp .ne 11, 3), (.aload_n 0, 1), (.invokevirtual 291, 3), (.i2l, 1), (.goto 8, 3)]
def bk_Reader_readOperand_141 : List (Instr × Nat) := [(.aload_n 0, 1), (.invokevirtual 184, 3), (.i2l, 1)]
def bk_Reader_readOperand_146 : List (Instr × Nat) := [(.putfield 262, 3), (.aload_n 0, 1), (.getfield 262, 3), (.lconst 0, 1), (.lcmp, 1), (.ifCond .lt 7, 3), (.iconst 1, 1), (.goto 4, 3)]
def bk_Reader_readOperand_102 : List (Instr × Nat) := [(.iconst 0, 1)]
def bk_Reader_readOperand_103 : List (Instr × Nat) := [(.ireturn, 1)]
def bk_Reader_readOperand_162 : List (Instr × Nat) := [(.iconst 0, 1)]
def bk_Reader_readOperand_163 : List (Instr × Nat) := [(.ireturn, 1)]
theorem ca_Reader_readOperand_0 : qz_ca yd_Reader_readOperand.2.1 0 bk_Reader_readOperand_0 := qz_cab_ok _ _ (by decide +kernel)
theorem ca_Reader_readOperand_28 : qz_ca yd_Reader_readOperand.2.1 28 bk_Reader_readOperand_28 := qz_cab_ok _ _ (by decide +kernel)
theorem ca_Reader_readOperand_45 : qz_ca yd_Reader_readOperand.2.1 45 bk_Reader_readOperand_45 := qz_cab_ok _ _ (by decide +kernel)
theorem ca_Reader_readOperand_104 : qz_ca yd_Reader_readOperand.2.1 104 bk_Reader_readOperand_104 := qz_cab_ok _ _ (by decide +kernel)
theorem ca_Reader_readOperand_127 : qz_ca yd_Reader_readOperand.2.1 127 bk_Reader_readOperand_127 := qz_cab_ok _ _ (by decide +kernel)
theorem ca_Reader_readOperand_141 : qz_ca yd_Reader_readOperand.2.1 141 bk_Reader_readOperand_141 := qz_cab_ok _ _ (by decide +kernel)
theorem ca_Reader_readOperand_146 : qz_ca yd_Reader_readOperand.2.1 146 bk_Reader_readOperand_146 := qz_cab_ok _ _ (by decide +kernel)
theorem ca_Reader_readOperand_102 : qz_ca yd_Reader_readOperand.2.1 102 bk_Reader_readOperand_102 := qz_cab_ok _ _ (by decide +kernel)
theorem ca_Reader_readOperand_103 : qz_ca yd_Reader_readOperand.2.1 103 bk_Reader_readOperand_103 := qz_cab_ok _ _ (by decide +kernel)
theorem ca_Reader_readOperand_162 : qz_ca yd_Reader_readOperand.2.1 162 bk_Reader_readOperand_162 := qz_cab_ok _ _ (by decide +kernel)
theorem ca_Reader_readOperand_163 : qz_ca yd_Reader_readOperand.2.1 163 bk_Reader_readOperand_163 := qz_cab_ok _ _ (by decide +kernel)
set_option maxRecDepth 20000 in
theorem jb_Reader_readOperand_163 (G : qz_G) (s0 : Int) (h : qz_H) : qz_J yd_Reader_readOperand G bk_Reader_readOperand_163 163 [qz_u, qz_u, qz_u] [qz_i s0] h 0 0 (fn_Reader_readOperand_163 s0 h) := by
  unfold fn_Reader_readOperand_163 bk_Reader_readOperand_163; exact
    qz_zreturn ⟨rfl, rfl⟩ rfl
set_option maxRecDepth 20000 in
theorem jb_Reader_readOperand_146 (G : qz_G) (l0 : Int) (s0 : Int) (s1 : Int) (h : qz_H) : qz_J yd_Reader_readOperand G bk_Reader_readOperand_146 146 [qz_r true 9 l0, qz_u, qz_u] [qz_j s1, qz_r true 9 s0] h 0 0 (fn_Reader_readOperand_146 l0 s0 s1 h) := by
  unfold fn_Reader_readOperand_146 bk_Reader_readOperand_146; exact
    qz_putJ kw_9 fp_Reader_262_Reader_readOperand rfl rfl fun h1 =>
    qz_aload_n rfl <|
    qz_getJ kg_9 fl_Reader_262 rfl rfl <|
    qz_lconst rfl <|
    qz_lcmp <|
    qz_if_lt rfl ca_Reader_readOperand_162
      (qz_iconst rfl <|
        qz_fall rfl ca_Reader_readOperand_163 <|
        qz_fgt [0, 0, 0] <| jb_Reader_readOperand_163 G 0 h1)
      (qz_iconst rfl <|
        qz_goto rfl ca_Reader_readOperand_163 <|
        qz_fgt [0, 0, 0] <| jb_Reader_readOperand_163 G 1 h1)
set_option maxRecDepth 20000 in
theorem jb_Reader_readOperand_103 (G : qz_G) (s0 : Int) (h : qz_H) : qz_J yd_Reader_readOperand G bk_Reader_readOperand_103 103 [qz_u, qz_u, qz_u] [qz_i s0] h 0 0 (fn_Reader_readOperand_103 s0 h) := by
  unfold fn_Reader_readOperand_103 bk_Reader_readOperand_103; exact
    qz_zreturn ⟨rfl, rfl⟩ rfl
set_option maxRecDepth 20000 in
theorem jb_Reader_readOperand_102 (G : qz_G) (h : qz_H) : qz_J yd_Reader_readOperand G bk_Reader_readOperand_102 102 [qz_u, qz_u, qz_u] [] h 0 0 (fn_Reader_readOperand_102 h) := by
  unfold fn_Reader_readOperand_102 bk_Reader_readOperand_102; exact
    qz_iconst rfl <|
    qz_fall rfl ca_Reader_readOperand_103 <|
    qz_fgt [0, 0, 0] <| jb_Reader_readOperand_103 G 0 h
set_option maxRecDepth 20000 in
theorem cn_Reader_readOperand (l0 : Int) (l1 : Int) (h : qz_H) : qz_C yd_Reader_readOperand [qz_r true 9 l0, qz_i l1] h (fn_Reader_readOperand l0 l1 h) := by
  refine qz_con (is := bk_Reader_readOperand_0) (ls := [qz_r true 9 l0, qz_i l1, qz_u]) mw_Reader_readOperand.2.2.2 ca_Reader_readOperand_0 rfl rfl rfl fun G => ?_
  unfold fn_Reader_readOperand bk_Reader_readOperand_0; exact
    qz_iload_n rfl <|
    qz_iconst rfl <|
    qz_icmp_ne rfl ca_Reader_readOperand_28
      (qz_iload_n rfl <|
        qz_bipush rfl <|
        qz_icmp_ne rfl ca_Reader_readOperand_45
          (qz_aload_n rfl <|
            qz_getR (k1 := 10) kg_9 fl_Reader_33 rfl rfl <|
            qz_nnd 0 rfl <|
            qz_invvI [] rfl (cn_Scanner_isName (h l0 0) h) mw_Scanner_isName vw_Scanner_isName ⟨_, rfl, rfl, by decide⟩ rfl rfl ln_Reader_181 rfl fun r1 h2 =>
            qz_if_ne rfl ca_Reader_readOperand_104
              (qz_iload_n rfl <|
                qz_iconst rfl <|
                qz_icmp_ne rfl ca_Reader_readOperand_127
                  (qz_aload_n rfl <|
                    qz_iload_n rfl <|
                    qz_iconst rfl <|
                    qz_icmp_ne rfl ca_Reader_readOperand_141
                      (qz_aload_n rfl <|
                        qz_invvI [] rfl (cn_Reader_slotNamed l0 h2) mw_Reader_slotNamed vw_Reader_slotNamed ⟨_, rfl, rfl, by decide⟩ rfl rfl ln_Reader_184 rfl fun r3 h4 =>
                        qz_i2l <|
                        qz_fall rfl ca_Reader_readOperand_146 <|
                        qz_fgt [1, 0, 0] <| jb_Reader_readOperand_146 G l0 l0 r3 h4)
                      (qz_aload_n rfl <|
                        qz_invvI [] rfl (cn_Reader_labelNamed l0 h2) mw_Reader_labelNamed vw_Reader_labelNamed ⟨_, rfl, rfl, by decide⟩ rfl rfl ln_Reader_291 rfl fun r5 h6 =>
                        qz_i2l <|
                        qz_goto rfl ca_Reader_readOperand_146 <|
                        qz_fgt [1, 0, 0] <| jb_Reader_readOperand_146 G l0 l0 r5 h6))
                  (qz_aload_n rfl <|
                    qz_ldc2 wc_Reader_275 rfl <|
                    qz_aload_n rfl <|
                    qz_getR (k1 := 10) kg_9 fl_Reader_33 rfl rfl <|
                    qz_nnd 0 rfl <|
                    qz_getI kg_10 fl_Reader_63 rfl rfl <|
                    qz_i2l <|
                    qz_lsub <|
                    qz_putJ kw_9 fp_Reader_262_Reader_readOperand rfl rfl fun h7 =>
                    qz_iconst rfl <|
                    qz_zreturn ⟨rfl, rfl⟩ rfl))
              (qz_aload_n rfl <|
                qz_getR (k1 := 10) kg_9 fl_Reader_33 rfl rfl <|
                qz_aload_n rfl <|
                qz_getR (k1 := 10) kg_9 fl_Reader_33 rfl rfl <|
                qz_nnd 0 rfl <|
                qz_getI kg_10 fl_Reader_63 rfl rfl <|
                qz_nnd 1 rfl <|
                qz_invvI [qz_i (h2 (h2 l0 0) 2)] rfl (cn_Scanner_readDigits (h2 l0 0) (h2 (h2 l0 0) 2) h2) mw_Scanner_readDigits vw_Scanner_readDigits ⟨_, rfl, rfl, by decide⟩ rfl rfl ln_Reader_277 rfl fun r8 h9 =>
                qz_istore_n (by decide) fun x10 =>
                qz_aload_n rfl <|
                qz_aload_n rfl <|
                qz_getR (k1 := 10) kg_9 fl_Reader_33 rfl rfl <|
                qz_nnd 0 rfl <|
                qz_getJ kg_10 fl_Reader_280 rfl rfl <|
                qz_putJ kw_9 fp_Reader_262_Reader_readOperand rfl rfl fun h11 =>
                qz_iload_n rfl <|
                qz_if_eq rfl ca_Reader_readOperand_102
                  (qz_fgt [0, 0, 0] <| jb_Reader_readOperand_102 G h11)
                  (qz_aload_n rfl <|
                    qz_getJ kg_9 fl_Reader_262 rfl rfl <|
                    qz_ldc2 wc_Reader_283 rfl <|
                    qz_invsI [qz_j (h11 l0 8), qz_j 4294967296] rfl (cn_Long_compareUnsigned (h11 l0 8) 4294967296 h11) mw_Long_compareUnsigned vs_Long_compareUnsigned rfl rfl ln_Reader_285 rfl fun r12 h13 =>
                    qz_if_ge rfl ca_Reader_readOperand_102
                      (qz_fgt [0, 0, 0] <| jb_Reader_readOperand_102 G h13)
                      (qz_iconst rfl <|
                        qz_goto rfl ca_Reader_readOperand_103 <|
                        qz_fgt [0, 0, 0] <| jb_Reader_readOperand_103 G 1 h13))))
          (qz_aload_n rfl <|
            qz_ldc2 wc_Reader_273 rfl <|
            qz_ldc2 wc_Reader_275 rfl <|
            qz_invvI [qz_j (-9223372036854775808), qz_j (-1)] rfl (cn_Reader_readNumber l0 (-9223372036854775808) (-1) h) mw_Reader_readNumber vw_Reader_readNumber ⟨_, rfl, rfl, by decide⟩ rfl rfl ln_Reader_269 rfl fun r14 h15 =>
            qz_zreturn ⟨rfl, rfl⟩ rfl))
      (qz_aload_n rfl <|
        qz_ldc2 wc_Reader_265 rfl <|
        qz_ldc2 wc_Reader_267 rfl <|
        qz_invvI [qz_j 2147483648, qz_j 4294967295] rfl (cn_Reader_readNumber l0 2147483648 4294967295 h) mw_Reader_readNumber vw_Reader_readNumber ⟨_, rfl, rfl, by decide⟩ rfl rfl ln_Reader_269 rfl fun r16 h17 =>
        qz_istore_n (by decide) fun x18 =>
        qz_aload_n rfl <|
        qz_aload_n rfl <|
        qz_getJ kg_9 fl_Reader_262 rfl rfl <|
        qz_l2i <|
        qz_i2l <|
        qz_putJ kw_9 fp_Reader_262_Reader_readOperand rfl rfl fun h19 =>
        qz_iload_n rfl <|
        qz_zreturn ⟨rfl, rfl⟩ rfl)
def fn_Reader_setLatestOperand_28 (h : qz_H) : Option qz_R :=
  some (0, h)
set_option maxRecDepth 20000 in
def fn_Reader_setLatestOperand (l0 : Int) (l1 : Int) (h : qz_H) : Option qz_R :=
  qz_ck ((h l0 4 : Int) ≠ 0) <|
  if h (h l0 4) 4 ≤ 0 then
    fn_Reader_setLatestOperand_28 h
  else
    qz_ck ((h l0 4 : Int) ≠ 0) <|
    qz_ck ((h l0 4 : Int) ≠ 0) <|
    qz_ck ((h (h l0 4) 2 : Int) ≠ 0) <|
    qz_ck (0 < h (h l0 4) 2 ∧ (0 : Int) ≤ qz_w ((h (h l0 4) 4) - 1) ∧ qz_w ((h (h l0 4) 4) - 1) < h (h (h l0 4) 2) (-1)) <|
    qz_bn (qz_up h (h (h l0 4) 2) (qz_w ((h (h l0 4) 4) - 1)) l1) fun h1 =>
    fn_Reader_setLatestOperand_28 h1
def bk_Reader_setLatestOperand_0 : List (Instr × Nat) := [(.aload_n 0, 1), (.getfield 24, 3), (.getfield 214, 3), (.ifCond .le 21, 3), (.aload_n 0, 1), (.getfield 24, 3), (.getfield 217, 3), (.aload_n 0, 1), (.getfield 24, 3), (.getfield 214, 3), (.iconst 1, 1), (.isub, 1), (.lload_n 1, 1), (.lastore, 1)]
def bk_Reader_setLatestOperand_28 : List (Instr × Nat) := [(.return_, 1)]
theorem ca_Reader_setLatestOperand_0 : qz_ca yd_Reader_setLatestOperand.2.1 0 bk_Reader_setLatestOperand_0 := qz_cab_ok _ _ (by decide +kernel)
theorem ca_Reader_setLatestOperand_28 : qz_ca yd_Reader_setLatestOperand.2.1 28 bk_Reader_setLatestOperand_28 := qz_cab_ok _ _ (by decide +kernel)
set_option maxRecDepth 20000 in
theorem jb_Reader_setLatestOperand_28 (G : qz_G) (h : qz_H) : qz_J yd_Reader_setLatestOperand G bk_Reader_setLatestOperand_28 28 [qz_u, qz_u, qz_u] [] h 0 0 (fn_Reader_setLatestOperand_28 h) := by
  unfold fn_Reader_setLatestOperand_28 bk_Reader_setLatestOperand_28; exact
    qz_return ⟨rfl, rfl⟩ rfl
set_option maxRecDepth 20000 in
theorem cn_Reader_setLatestOperand (l0 : Int) (l1 : Int) (h : qz_H) : qz_C yd_Reader_setLatestOperand [qz_r true 9 l0, qz_j l1] h (fn_Reader_setLatestOperand l0 l1 h) := by
  refine qz_con (is := bk_Reader_setLatestOperand_0) (ls := [qz_r true 9 l0, qz_j l1, qz_u]) mw_Reader_setLatestOperand.2.2.2 ca_Reader_setLatestOperand_0 rfl rfl rfl fun G => ?_
  unfold fn_Reader_setLatestOperand bk_Reader_setLatestOperand_0; exact
    qz_aload_n rfl <|
    qz_getR (k1 := 6) kg_9 fl_Reader_24 rfl rfl <|
    qz_nnd 0 rfl <|
    qz_getI kg_6 fl_Reader_214 rfl rfl <|
    qz_if_le rfl ca_Reader_setLatestOperand_28
      (qz_fgt [0, 0, 0] <| jb_Reader_setLatestOperand_28 G h)
      (qz_aload_n rfl <|
        qz_getR (k1 := 6) kg_9 fl_Reader_24 rfl rfl <|
        qz_nnd 0 rfl <|
        qz_getR (k1 := 41) kg_6 fl_Reader_217 rfl rfl <|
        qz_aload_n rfl <|
        qz_getR (k1 := 6) kg_9 fl_Reader_24 rfl rfl <|
        qz_nnd 0 rfl <|
        qz_getI kg_6 fl_Reader_214 rfl rfl <|
        qz_iconst rfl <|
        qz_isub <|
        qz_lload_n rfl <|
        qz_nnd 2 rfl <|
        qz_last rfl rfl rfl fun h1 =>
        qz_fall rfl ca_Reader_setLatestOperand_28 <|
        qz_fgt [0, 0, 0] <| jb_Reader_setLatestOperand_28 G h1)
