set_option maxRecDepth 20000 in
def fn_Text_init (l0 : Int) (h : qz_H) : Option qz_R :=
  qz_mk h 42 320 fun h1 q2 =>
  qz_ck ((0 : Int) < l0) <|
  qz_bn (qz_up h1 l0 0 q2) fun h3 =>
  some (0, h3)
def bk_Text_init_0 : List (Instr × Nat) := [(.aload_n 0, 1), (.invokespecial 3, 3), (.aload_n 0, 1), (.sipush 320, 3), (.newarray .char, 2), (.putfield 9, 3), (.return_, 1)]
theorem ca_Text_init_0 : qz_ca yd_Text_init.2.1 0 bk_Text_init_0 := qz_cab_ok _ _ (by decide +kernel)
set_option maxRecDepth 20000 in
theorem cn_Text_init (l0 : Int) (h : qz_H) : qz_C yd_Text_init [qz_r true 11 l0] h (fn_Text_init l0 h) := by
  refine qz_con (is := bk_Text_init_0) (ls := [qz_r true 11 l0]) mw_Text_init.2.2.2 ca_Text_init_0 rfl rfl rfl fun G => ?_
  unfold fn_Text_init bk_Text_init_0; exact
    qz_aload_n rfl <|
    qz_objI oi_Text_3 rfl <|
    qz_aload_n rfl <|
    qz_sipush rfl <|
    qz_newa (N := 320) rfl rfl (by decide) rfl rfl rfl (by decide) wa_char rfl fun h1 q2 =>
    qz_putR (k1 := 42) kw_11 fp_Text_9_Text_init rfl rfl fun h3 =>
    qz_return ⟨rfl, rfl⟩ rfl
set_option maxRecDepth 20000 in
def fn_Function_init (l0 : Int) (h : qz_H) : Option qz_R :=
  qz_mk h 40 8 fun h1 q2 =>
  qz_ck ((0 : Int) < l0) <|
  qz_bn (qz_up h1 l0 0 q2) fun h3 =>
  some (0, h3)
def bk_Function_init_0 : List (Instr × Nat) := [(.aload_n 0, 1), (.invokespecial 3, 3), (.aload_n 0, 1), (.bipush 8, 2), (.newarray .int, 2), (.putfield 9, 3), (.return_, 1)]
theorem ca_Function_init_0 : qz_ca yd_Function_init.2.1 0 bk_Function_init_0 := qz_cab_ok _ _ (by decide +kernel)
set_option maxRecDepth 20000 in
theorem cn_Function_init (l0 : Int) (h : qz_H) : qz_C yd_Function_init [qz_r true 4 l0] h (fn_Function_init l0 h) := by
  refine qz_con (is := bk_Function_init_0) (ls := [qz_r true 4 l0]) mw_Function_init.2.2.2 ca_Function_init_0 rfl rfl rfl fun G => ?_
  unfold fn_Function_init bk_Function_init_0; exact
    qz_aload_n rfl <|
    qz_objI oi_Function_3 rfl <|
    qz_aload_n rfl <|
    qz_bipush rfl <|
    qz_newa (N := 8) rfl rfl (by decide) rfl rfl rfl (by decide) wa_int rfl fun h1 q2 =>
    qz_putR (k1 := 40) kw_4 fp_Function_9_Function_init rfl rfl fun h3 =>
    qz_return ⟨rfl, rfl⟩ rfl
def fn_Module_init_57_b (k57 : Int → Int → qz_H → Option qz_R) (l0 : Int) (l1 : Int) (h : qz_H) : Option qz_R :=
  if 64 ≤ l1 then
    some (0, h)
  else
    qz_ck ((h l0 1 : Int) ≠ 0) <|
    qz_ck (0 < h l0 1 ∧ (0 : Int) ≤ l1 ∧ l1 < h (h l0 1) (-1)) <|
    qz_bn (qz_up h (h l0 1) l1 (-2)) fun h1 =>
    qz_bn (qz_w (l1 + 1)) fun x2 =>
    k57 l0 x2 h1
def fn_Module_init_57 : Nat → Int → Int → qz_H → Option qz_R
  | 0, _, _, _ => none
  | n + 1, l0, l1, h => fn_Module_init_57_b (fn_Module_init_57 n) l0 l1 h
set_option maxRecDepth 20000 in
def fn_Module_init (l0 : Int) (h : qz_H) : Option qz_R :=
  qz_mk h 45 4 fun h1 q2 =>
  qz_ck ((0 : Int) < l0) <|
  qz_bn (qz_up h1 l0 0 q2) fun h3 =>
  qz_mk h3 46 64 fun h4 q5 =>
  qz_ck ((0 : Int) < l0) <|
  qz_bn (qz_up h4 l0 1 q5) fun h6 =>
  qz_mk h6 41 64 fun h7 q8 =>
  qz_ck ((0 : Int) < l0) <|
  qz_bn (qz_up h7 l0 2 q8) fun h9 =>
  qz_mk h9 4 0 fun h10 q11 =>
  qz_bc (fn_Function_init q11 h10) fun _ h13 =>
  qz_ck ((h9 l0 0 : Int) ≠ 0) <|
  qz_ck (0 < h9 l0 0 ∧ (0 : Int) ≤ 0 ∧ 0 < h13 (h9 l0 0) (-1)) <|
  qz_bn (qz_up h13 (h9 l0 0) 0 q11) fun h14 =>
  qz_mk h14 4 0 fun h15 q16 =>
  qz_bc (fn_Function_init q16 h15) fun _ h18 =>
  qz_ck ((h14 l0 0 : Int) ≠ 0) <|
  qz_ck (0 < h14 l0 0 ∧ (0 : Int) ≤ 1 ∧ 1 < h18 (h14 l0 0) (-1)) <|
  qz_bn (qz_up h18 (h14 l0 0) 1 q16) fun h19 =>
  qz_mk h19 4 0 fun h20 q21 =>
  qz_bc (fn_Function_init q21 h20) fun _ h23 =>
  qz_ck ((h19 l0 0 : Int) ≠ 0) <|
  qz_ck (0 < h19 l0 0 ∧ (0 : Int) ≤ 2 ∧ 2 < h23 (h19 l0 0) (-1)) <|
  qz_bn (qz_up h23 (h19 l0 0) 2 q21) fun h24 =>
  qz_mk h24 4 0 fun h25 q26 =>
  qz_bc (fn_Function_init q26 h25) fun _ h28 =>
  qz_ck ((h24 l0 0 : Int) ≠ 0) <|
  qz_ck (0 < h24 l0 0 ∧ (0 : Int) ≤ 3 ∧ 3 < h28 (h24 l0 0) (-1)) <|
  qz_bn (qz_up h28 (h24 l0 0) 3 q26) fun h29 =>
  fn_Module_init_57 qz_NF l0 0 h29
def bk_Module_init_0 : List (Instr × Nat) := [(.aload_n 0, 1), (.invokespecial 3, 3), (.aload_n 0, 1), (.iconst 4, 1), (.anewarray 9, 3), (.putfield 11, 3), (.aload_n 0, 1), (.bipush 64, 2), (.anewarray 17, 3), (.putfield 19, 3), (.aload_n 0, 1), (.bipush 64, 2), (.newarray .long, 2), (.putfield 23, 3), (.iconst 0, 1), (.istore_n 1, 1)]
def bk_Module_init_31 : List (Instr × Nat) := [(.iload_n 1, 1), (.iconst 4, 1), (.if_icmp .ge 22, 3), (.aload_n 0, 1), (.getfield 11, 3), (.iload_n 1, 1), (.new 9, 3), (.dup, 1), (.invokespecial 27, 3), (.aastore, 1), (.iinc 1 1, 3), (.goto (-21), 3)]
def bk_Module_init_55 : List (Instr × Nat) := [(.iconst 0, 1), (.istore_n 1, 1)]
def bk_Module_init_57 : List (Instr × Nat) := [(.iload_n 1, 1), (.bipush 64, 2), (.if_icmp .ge 18, 3), (.aload_n 0, 1), (.getfield 19, 3), (.iload_n 1, 1), (.getstatic 28, 3), (.aastore, 1), (.iinc 1 1, 3), (.goto (-18), 3)]
def bk_Module_init_78 : List (Instr × Nat) := [(.return_, 1)]
theorem ca_Module_init_0 : qz_ca yd_Module_init.2.1 0 bk_Module_init_0 := qz_cab_ok _ _ (by decide +kernel)
theorem ca_Module_init_31 : qz_ca yd_Module_init.2.1 31 bk_Module_init_31 := qz_cab_ok _ _ (by decide +kernel)
theorem ca_Module_init_55 : qz_ca yd_Module_init.2.1 55 bk_Module_init_55 := qz_cab_ok _ _ (by decide +kernel)
theorem ca_Module_init_57 : qz_ca yd_Module_init.2.1 57 bk_Module_init_57 := qz_cab_ok _ _ (by decide +kernel)
theorem ca_Module_init_78 : qz_ca yd_Module_init.2.1 78 bk_Module_init_78 := qz_cab_ok _ _ (by decide +kernel)
set_option maxRecDepth 20000 in
theorem jb_Module_init_57_b (G : qz_G) (k57 : Int → Int → qz_H → Option qz_R) (jk57 : ∀ (l0 : Int) (l1 : Int) (h : qz_H), qz_J yd_Module_init G bk_Module_init_57 57 [qz_r true 6 l0, qz_i l1] [] h 11 188 (k57 l0 l1 h)) (l0 : Int) (l1 : Int) (h : qz_H) : qz_J yd_Module_init G bk_Module_init_57 57 [qz_r true 6 l0, qz_i l1] [] h 11 188 (fn_Module_init_57_b k57 l0 l1 h) := by
  unfold fn_Module_init_57_b bk_Module_init_57; exact
    qz_iload_n rfl <|
    qz_bipush rfl <|
    qz_icmp_ge rfl ca_Module_init_78
      (qz_return ⟨rfl, rfl⟩ rfl)
      (qz_aload_n rfl <|
        qz_getR (k1 := 46) kg_6 fl_Module_19 rfl rfl <|
        qz_iload_n rfl <|
        qz_getsR sz_Op_NOP sl_Module_28 rfl <|
        qz_nnd 2 rfl <|
        qz_aast (k0 := 46) (k1 := 7) rfl rfl rfl (by decide) ⟨_, rfl, rfl, by decide⟩ fun h1 =>
        qz_iinc rfl (by decide) fun x2 =>
        qz_goto rfl ca_Module_init_57 <|
        qz_fgt [1, 1] <| jk57 l0 x2 h1)
theorem jb_Module_init_57 (G : qz_G) : ∀ (n : Nat) (l0 l1 : Int) (h : qz_H), qz_J yd_Module_init G bk_Module_init_57 57 [qz_r true 6 l0, qz_i l1] [] h 11 188 (fn_Module_init_57 n l0 l1 h)
  | 0, _, _, _ => qz_none
  | n + 1, l0, l1, h => jb_Module_init_57_b G (fn_Module_init_57 n) (jb_Module_init_57 G n) l0 l1 h
set_option maxRecDepth 20000 in
theorem cn_Module_init (l0 : Int) (h : qz_H) : qz_C yd_Module_init [qz_r true 6 l0] h (fn_Module_init l0 h) := by
  refine qz_con (is := bk_Module_init_0) (ls := [qz_r true 6 l0, qz_u]) mw_Module_init.2.2.2 ca_Module_init_0 rfl rfl rfl fun G => ?_
  unfold fn_Module_init bk_Module_init_0; exact
    qz_aload_n rfl <|
    qz_objI oi_Module_3 rfl <|
    qz_aload_n rfl <|
    qz_iconst rfl <|
    qz_anew (N := 4) rfl rfl (by decide) rfl rfl rfl an_Module_9 rfl fun h1 q2 =>
    qz_putR (k1 := 45) kw_6 fp_Module_11_Module_init rfl rfl fun h3 =>
    qz_aload_n rfl <|
    qz_bipush rfl <|
    qz_anew (N := 64) rfl rfl (by decide) rfl rfl rfl an_Module_17 rfl fun h4 q5 =>
    qz_putR (k1 := 46) kw_6 fp_Module_19_Module_init rfl rfl fun h6 =>
    qz_aload_n rfl <|
    qz_bipush rfl <|
    qz_newa (N := 64) rfl rfl (by decide) rfl rfl rfl (by decide) wa_long rfl fun h7 q8 =>
    qz_putR (k1 := 41) kw_6 fp_Module_23_Module_init rfl rfl fun h9 =>
    qz_iconst rfl <|
    qz_istore_nC (by decide) <|
    qz_fall rfl ca_Module_init_31 <|
    qz_iload_n rfl <|
    qz_iconst rfl <|
    qz_eqt (if_neg (by decide)) <| qz_icmp_ge rfl ca_Module_init_55 (t1 := none) qz_none <|
    qz_aload_n rfl <|
    qz_getR (k1 := 45) kg_6 fl_Module_11 rfl rfl <|
    qz_iload_n rfl <|
    qz_new kw_4 rfl nw_Module_9 rfl fun h10 q11 =>
    qz_dup rfl <|
    qz_inviV [] rfl (cn_Function_init q11 h10) mw_Function_init vi_Function_init rfl rfl ln_Module_27 rfl fun _ h13 =>
    qz_nnd 2 rfl <|
    qz_aast (k0 := 45) (k1 := 4) rfl rfl rfl (by decide) ⟨_, rfl, rfl, by decide⟩ fun h14 =>
    qz_iincC (i := 1) rfl (by decide) (y := 1) rfl <|
    qz_nl [qz_r true 6 l0, qz_i 1] rfl <|
    qz_goto rfl ca_Module_init_31 <|
    qz_iload_n rfl <|
    qz_iconst rfl <|
    qz_eqt (if_neg (by decide)) <| qz_icmp_ge rfl ca_Module_init_55 (t1 := none) qz_none <|
    qz_aload_n rfl <|
    qz_getR (k1 := 45) kg_6 fl_Module_11 rfl rfl <|
    qz_iload_n rfl <|
    qz_new kw_4 rfl nw_Module_9 rfl fun h15 q16 =>
    qz_dup rfl <|
    qz_inviV [] rfl (cn_Function_init q16 h15) mw_Function_init vi_Function_init rfl rfl ln_Module_27 rfl fun _ h18 =>
    qz_nnd 2 rfl <|
    qz_aast (k0 := 45) (k1 := 4) rfl rfl rfl (by decide) ⟨_, rfl, rfl, by decide⟩ fun h19 =>
    qz_iincC (i := 1) rfl (by decide) (y := 2) rfl <|
    qz_nl [qz_r true 6 l0, qz_i 2] rfl <|
    qz_goto rfl ca_Module_init_31 <|
    qz_iload_n rfl <|
    qz_iconst rfl <|
    qz_eqt (if_neg (by decide)) <| qz_icmp_ge rfl ca_Module_init_55 (t1 := none) qz_none <|
    qz_aload_n rfl <|
    qz_getR (k1 := 45) kg_6 fl_Module_11 rfl rfl <|
    qz_iload_n rfl <|
    qz_new kw_4 rfl nw_Module_9 rfl fun h20 q21 =>
    qz_dup rfl <|
    qz_inviV [] rfl (cn_Function_init q21 h20) mw_Function_init vi_Function_init rfl rfl ln_Module_27 rfl fun _ h23 =>
    qz_nnd 2 rfl <|
    qz_aast (k0 := 45) (k1 := 4) rfl rfl rfl (by decide) ⟨_, rfl, rfl, by decide⟩ fun h24 =>
    qz_iincC (i := 1) rfl (by decide) (y := 3) rfl <|
    qz_nl [qz_r true 6 l0, qz_i 3] rfl <|
    qz_goto rfl ca_Module_init_31 <|
    qz_iload_n rfl <|
    qz_iconst rfl <|
    qz_eqt (if_neg (by decide)) <| qz_icmp_ge rfl ca_Module_init_55 (t1 := none) qz_none <|
    qz_aload_n rfl <|
    qz_getR (k1 := 45) kg_6 fl_Module_11 rfl rfl <|
    qz_iload_n rfl <|
    qz_new kw_4 rfl nw_Module_9 rfl fun h25 q26 =>
    qz_dup rfl <|
    qz_inviV [] rfl (cn_Function_init q26 h25) mw_Function_init vi_Function_init rfl rfl ln_Module_27 rfl fun _ h28 =>
    qz_nnd 2 rfl <|
    qz_aast (k0 := 45) (k1 := 4) rfl rfl rfl (by decide) ⟨_, rfl, rfl, by decide⟩ fun h29 =>
    qz_iincC (i := 1) rfl (by decide) (y := 4) rfl <|
    qz_nl [qz_r true 6 l0, qz_i 4] rfl <|
    qz_goto rfl ca_Module_init_31 <|
    qz_iload_n rfl <|
    qz_iconst rfl <|
    qz_eqt (if_pos (by decide)) <| qz_icmp_ge rfl ca_Module_init_55 (t2 := none) (kf := qz_none) <|
    qz_iconst rfl <|
    qz_istore_nC (by decide) <|
    qz_fall rfl ca_Module_init_57 <|
    qz_fgt [1, 1] <| jb_Module_init_57 G qz_NF l0 0 h29
set_option maxRecDepth 20000 in
def fn_Scanner_init (l0 : Int) (l1 : Int) (h : qz_H) : Option qz_R :=
  qz_ck ((0 : Int) < l0) <|
  qz_bn (qz_up h l0 0 l1) fun h1 =>
  some (0, h1)
def bk_Scanner_init_0 : List (Instr × Nat) := [(.aload_n 0, 1), (.invokespecial 3, 3), (.aload_n 0, 1), (.aload_n 1, 1), (.putfield 9, 3), (.return_, 1)]
theorem ca_Scanner_init_0 : qz_ca yd_Scanner_init.2.1 0 bk_Scanner_init_0 := qz_cab_ok _ _ (by decide +kernel)
set_option maxRecDepth 20000 in
theorem cn_Scanner_init (l0 : Int) (l1 : Int) (h : qz_H) : qz_C yd_Scanner_init [qz_r true 10 l0, qz_r false 11 l1] h (fn_Scanner_init l0 l1 h) := by
  refine qz_con (is := bk_Scanner_init_0) (ls := [qz_r true 10 l0, qz_r false 11 l1]) mw_Scanner_init.2.2.2 ca_Scanner_init_0 rfl rfl rfl fun G => ?_
  unfold fn_Scanner_init bk_Scanner_init_0; exact
    qz_aload_n rfl <|
    qz_objI oi_Scanner_3 rfl <|
    qz_aload_n rfl <|
    qz_aload_n rfl <|
    qz_putR (k1 := 11) kw_10 fp_Scanner_9_Scanner_init rfl rfl fun h1 =>
    qz_return ⟨rfl, rfl⟩ rfl
set_option maxRecDepth 20000 in
def fn_Level_init (l0 : Int) (h : qz_H) : Option qz_R :=
  qz_ck ((0 : Int) < l0) <|
  qz_bn (qz_up h l0 3 (-2)) fun h1 =>
  some (0, h1)
def bk_Level_init_0 : List (Instr × Nat) := [(.aload_n 0, 1), (.invokespecial 1, 3), (.aload_n 0, 1), (.getstatic 7, 3), (.putfield 13, 3), (.return_, 1)]
theorem ca_Level_init_0 : qz_ca yd_Level_init.2.1 0 bk_Level_init_0 := qz_cab_ok _ _ (by decide +kernel)
set_option maxRecDepth 20000 in
theorem cn_Level_init (l0 : Int) (h : qz_H) : qz_C yd_Level_init [qz_r true 5 l0] h (fn_Level_init l0 h) := by
  refine qz_con (is := bk_Level_init_0) (ls := [qz_r true 5 l0]) mw_Level_init.2.2.2 ca_Level_init_0 rfl rfl rfl fun G => ?_
  unfold fn_Level_init bk_Level_init_0; exact
    qz_aload_n rfl <|
    qz_objI oi_Level_1 rfl <|
    qz_aload_n rfl <|
    qz_getsR sz_Op_NOP sl_Level_7 rfl <|
    qz_putR (k1 := 7) kw_5 fp_Level_13_Level_init rfl rfl fun h1 =>
    qz_return ⟨rfl, rfl⟩ rfl
set_option maxRecDepth 20000 in
def fn_Reader_init (l0 : Int) (l1 : Int) (l2 : Int) (h : qz_H) : Option qz_R :=
  qz_mk h 47 13 fun h1 q2 =>
  qz_ck ((0 : Int) < l0) <|
  qz_bn (qz_up h1 l0 1 q2) fun h3 =>
  qz_mk h3 40 4 fun h4 q5 =>
  qz_ck ((0 : Int) < l0) <|
  qz_bn (qz_up h4 l0 2 q5) fun h6 =>
  qz_mk h6 40 8 fun h7 q8 =>
  qz_ck ((0 : Int) < l0) <|
  qz_bn (qz_up h7 l0 3 q8) fun h9 =>
  qz_ck ((0 : Int) < l0) <|
  qz_bn (qz_up h9 l0 4 l2) fun h10 =>
  qz_mk h10 10 0 fun h11 q12 =>
  qz_bc (fn_Scanner_init q12 l1 h11) fun _ h14 =>
  qz_ck ((0 : Int) < l0) <|
  qz_bn (qz_up h14 l0 0 q12) fun h15 =>
  qz_mk h15 5 0 fun h16 q17 =>
  qz_bc (fn_Level_init q17 h16) fun _ h19 =>
  qz_ck ((h15 l0 1 : Int) ≠ 0) <|
  qz_ck (0 < h15 l0 1 ∧ (0 : Int) ≤ 0 ∧ 0 < h19 (h15 l0 1) (-1)) <|
  qz_bn (qz_up h19 (h15 l0 1) 0 q17) fun h20 =>
  qz_mk h20 5 0 fun h21 q22 =>
  qz_bc (fn_Level_init q22 h21) fun _ h24 =>
  qz_ck ((h20 l0 1 : Int) ≠ 0) <|
  qz_ck (0 < h20 l0 1 ∧ (0 : Int) ≤ 1 ∧ 1 < h24 (h20 l0 1) (-1)) <|
  qz_bn (qz_up h24 (h20 l0 1) 1 q22) fun h25 =>
  qz_mk h25 5 0 fun h26 q27 =>
  qz_bc (fn_Level_init q27 h26) fun _ h29 =>
  qz_ck ((h25 l0 1 : Int) ≠ 0) <|
  qz_ck (0 < h25 l0 1 ∧ (0 : Int) ≤ 2 ∧ 2 < h29 (h25 l0 1) (-1)) <|
  qz_bn (qz_up h29 (h25 l0 1) 2 q27) fun h30 =>
  qz_mk h30 5 0 fun h31 q32 =>
  qz_bc (fn_Level_init q32 h31) fun _ h34 =>
  qz_ck ((h30 l0 1 : Int) ≠ 0) <|
  qz_ck (0 < h30 l0 1 ∧ (0 : Int) ≤ 3 ∧ 3 < h34 (h30 l0 1) (-1)) <|
  qz_bn (qz_up h34 (h30 l0 1) 3 q32) fun h35 =>
  qz_mk h35 5 0 fun h36 q37 =>
  qz_bc (fn_Level_init q37 h36) fun _ h39 =>
  qz_ck ((h35 l0 1 : Int) ≠ 0) <|
  qz_ck (0 < h35 l0 1 ∧ (0 : Int) ≤ 4 ∧ 4 < h39 (h35 l0 1) (-1)) <|
  qz_bn (qz_up h39 (h35 l0 1) 4 q37) fun h40 =>
  qz_mk h40 5 0 fun h41 q42 =>
  qz_bc (fn_Level_init q42 h41) fun _ h44 =>
  qz_ck ((h40 l0 1 : Int) ≠ 0) <|
  qz_ck (0 < h40 l0 1 ∧ (0 : Int) ≤ 5 ∧ 5 < h44 (h40 l0 1) (-1)) <|
  qz_bn (qz_up h44 (h40 l0 1) 5 q42) fun h45 =>
  qz_mk h45 5 0 fun h46 q47 =>
  qz_bc (fn_Level_init q47 h46) fun _ h49 =>
  qz_ck ((h45 l0 1 : Int) ≠ 0) <|
  qz_ck (0 < h45 l0 1 ∧ (0 : Int) ≤ 6 ∧ 6 < h49 (h45 l0 1) (-1)) <|
  qz_bn (qz_up h49 (h45 l0 1) 6 q47) fun h50 =>
  qz_mk h50 5 0 fun h51 q52 =>
  qz_bc (fn_Level_init q52 h51) fun _ h54 =>
  qz_ck ((h50 l0 1 : Int) ≠ 0) <|
  qz_ck (0 < h50 l0 1 ∧ (0 : Int) ≤ 7 ∧ 7 < h54 (h50 l0 1) (-1)) <|
  qz_bn (qz_up h54 (h50 l0 1) 7 q52) fun h55 =>
  qz_mk h55 5 0 fun h56 q57 =>
  qz_bc (fn_Level_init q57 h56) fun _ h59 =>
  qz_ck ((h55 l0 1 : Int) ≠ 0) <|
  qz_ck (0 < h55 l0 1 ∧ (0 : Int) ≤ 8 ∧ 8 < h59 (h55 l0 1) (-1)) <|
  qz_bn (qz_up h59 (h55 l0 1) 8 q57) fun h60 =>
  qz_mk h60 5 0 fun h61 q62 =>
  qz_bc (fn_Level_init q62 h61) fun _ h64 =>
  qz_ck ((h60 l0 1 : Int) ≠ 0) <|
  qz_ck (0 < h60 l0 1 ∧ (0 : Int) ≤ 9 ∧ 9 < h64 (h60 l0 1) (-1)) <|
  qz_bn (qz_up h64 (h60 l0 1) 9 q62) fun h65 =>
  qz_mk h65 5 0 fun h66 q67 =>
  qz_bc (fn_Level_init q67 h66) fun _ h69 =>
  qz_ck ((h65 l0 1 : Int) ≠ 0) <|
  qz_ck (0 < h65 l0 1 ∧ (0 : Int) ≤ 10 ∧ 10 < h69 (h65 l0 1) (-1)) <|
  qz_bn (qz_up h69 (h65 l0 1) 10 q67) fun h70 =>
  qz_mk h70 5 0 fun h71 q72 =>
  qz_bc (fn_Level_init q72 h71) fun _ h74 =>
  qz_ck ((h70 l0 1 : Int) ≠ 0) <|
  qz_ck (0 < h70 l0 1 ∧ (0 : Int) ≤ 11 ∧ 11 < h74 (h70 l0 1) (-1)) <|
  qz_bn (qz_up h74 (h70 l0 1) 11 q72) fun h75 =>
  qz_mk h75 5 0 fun h76 q77 =>
  qz_bc (fn_Level_init q77 h76) fun _ h79 =>
  qz_ck ((h75 l0 1 : Int) ≠ 0) <|
  qz_ck (0 < h75 l0 1 ∧ (0 : Int) ≤ 12 ∧ 12 < h79 (h75 l0 1) (-1)) <|
  qz_bn (qz_up h79 (h75 l0 1) 12 q77) fun h80 =>
  some (0, h80)
def bk_Reader_init_0 : List (Instr × Nat) := [(.aload_n 0, 1), (.invokespecial 3, 3), (.aload_n 0, 1), (.bipush 13, 2), (.anewarray 9, 3), (.putfield 11, 3), (.aload_n 0, 1), (.iconst 4, 1), (.newarray .int, 2), (.putfield 17, 3), (.aload_n 0, 1), (.bipush 8, 2), (.newarray .int, 2), (.putfield 21, 3), (.aload_n 0, 1), (.aload_n 2, 1), (.putfield 24, 3), (.aload_n 0, 1), (.new 28, 3), (.dup, 1), (.aload_n 1, 1), (.invokespecial 30, 3), (.putfield 33, 3), (.iconst 0, 1), (.istore_n 3, 1)]
def bk_Reader_init_47 : List (Instr × Nat) := [(.iload_n 3, 1), (.bipush 12, 2), (.if_icmp .gt 22, 3), (.aload_n 0, 1), (.getfield 11, 3), (.iload_n 3, 1), (.new 9, 3), (.dup, 1), (.invokespecial 37, 3), (.aastore, 1), (.iinc 3 1, 3), (.goto (-22), 3)]
def bk_Reader_init_72 : List (Instr × Nat) := [(.return_, 1)]
theorem ca_Reader_init_0 : qz_ca yd_Reader_init.2.1 0 bk_Reader_init_0 := qz_cab_ok _ _ (by decide +kernel)
theorem ca_Reader_init_47 : qz_ca yd_Reader_init.2.1 47 bk_Reader_init_47 := qz_cab_ok _ _ (by decide +kernel)
theorem ca_Reader_init_72 : qz_ca yd_Reader_init.2.1 72 bk_Reader_init_72 := qz_cab_ok _ _ (by decide +kernel)
set_option maxRecDepth 20000 in
theorem cn_Reader_init (l0 : Int) (l1 : Int) (l2 : Int) (h : qz_H) : qz_C yd_Reader_init [qz_r true 9 l0, qz_r false 11 l1, qz_r false 6 l2] h (fn_Reader_init l0 l1 l2 h) := by
  refine qz_con (is := bk_Reader_init_0) (ls := [qz_r true 9 l0, qz_r false 11 l1, qz_r false 6 l2, qz_u]) mw_Reader_init.2.2.2 ca_Reader_init_0 rfl rfl rfl fun G => ?_
  unfold fn_Reader_init bk_Reader_init_0; exact
    qz_aload_n rfl <|
    qz_objI oi_Reader_3 rfl <|
    qz_aload_n rfl <|
    qz_bipush rfl <|
    qz_anew (N := 13) rfl rfl (by decide) rfl rfl rfl an_Reader_9 rfl fun h1 q2 =>
    qz_putR (k1 := 47) kw_9 fp_Reader_11_Reader_init rfl rfl fun h3 =>
    qz_aload_n rfl <|
    qz_iconst rfl <|
    qz_newa (N := 4) rfl rfl (by decide) rfl rfl rfl (by decide) wa_int rfl fun h4 q5 =>
    qz_putR (k1 := 40) kw_9 fp_Reader_17_Reader_init rfl rfl fun h6 =>
    qz_aload_n rfl <|
    qz_bipush rfl <|
    qz_newa (N := 8) rfl rfl (by decide) rfl rfl rfl (by decide) wa_int rfl fun h7 q8 =>
    qz_putR (k1 := 40) kw_9 fp_Reader_21_Reader_init rfl rfl fun h9 =>
    qz_aload_n rfl <|
    qz_aload_n rfl <|
    qz_putR (k1 := 6) kw_9 fp_Reader_24_Reader_init rfl rfl fun h10 =>
    qz_aload_n rfl <|
    qz_new kw_10 rfl nw_Reader_28 rfl fun h11 q12 =>
    qz_dup rfl <|
    qz_aload_n rfl <|
    qz_inviV [qz_r false 11 l1] rfl (cn_Scanner_init q12 l1 h11) mw_Scanner_init vi_Scanner_init rfl rfl ln_Reader_30 rfl fun _ h14 =>
    qz_putR (k1 := 10) kw_9 fp_Reader_33_Reader_init rfl rfl fun h15 =>
    qz_iconst rfl <|
    qz_istore_nC (by decide) <|
    qz_fall rfl ca_Reader_init_47 <|
    qz_iload_n rfl <|
    qz_bipush rfl <|
    qz_eqt (if_neg (by decide)) <| qz_icmp_gt rfl ca_Reader_init_72 (t1 := none) qz_none <|
    qz_aload_n rfl <|
    qz_getR (k1 := 47) kg_9 fl_Reader_11 rfl rfl <|
    qz_iload_n rfl <|
    qz_new kw_5 rfl nw_Reader_9 rfl fun h16 q17 =>
    qz_dup rfl <|
    qz_inviV [] rfl (cn_Level_init q17 h16) mw_Level_init vi_Level_init rfl rfl ln_Reader_37 rfl fun _ h19 =>
    qz_nnd 2 rfl <|
    qz_aast (k0 := 47) (k1 := 5) rfl rfl rfl (by decide) ⟨_, rfl, rfl, by decide⟩ fun h20 =>
    qz_iincC (i := 3) rfl (by decide) (y := 1) rfl <|
    qz_nl [qz_r true 9 l0, qz_r false 11 l1, qz_r false 6 l2, qz_i 1] rfl <|
    qz_goto rfl ca_Reader_init_47 <|
    qz_iload_n rfl <|
    qz_bipush rfl <|
    qz_eqt (if_neg (by decide)) <| qz_icmp_gt rfl ca_Reader_init_72 (t1 := none) qz_none <|
    qz_aload_n rfl <|
    qz_getR (k1 := 47) kg_9 fl_Reader_11 rfl rfl <|
    qz_iload_n rfl <|
    qz_new kw_5 rfl nw_Reader_9 rfl fun h21 q22 =>
    qz_dup rfl <|
    qz_inviV [] rfl (cn_Level_init q22 h21) mw_Level_init vi_Level_init rfl rfl ln_Reader_37 rfl fun _ h24 =>
    qz_nnd 2 rfl <|
    qz_aast (k0 := 47) (k1 := 5) rfl rfl rfl (by decide) ⟨_, rfl, rfl, by decide⟩ fun h25 =>
    qz_iincC (i := 3) rfl (by decide) (y := 2) rfl <|
    qz_nl [qz_r true 9 l0, qz_r false 11 l1, qz_r false 6 l2, qz_i 2] rfl <|
    qz_goto rfl ca_Reader_init_47 <|
    qz_iload_n rfl <|
    qz_bipush rfl <|
    qz_eqt (if_neg (by decide)) <| qz_icmp_gt rfl ca_Reader_init_72 (t1 := none) qz_none <|
    qz_aload_n rfl <|
    qz_getR (k1 := 47) kg_9 fl_Reader_11 rfl rfl <|
    qz_iload_n rfl <|
    qz_new kw_5 rfl nw_Reader_9 rfl fun h26 q27 =>
    qz_dup rfl <|
    qz_inviV [] rfl (cn_Level_init q27 h26) mw_Level_init vi_Level_init rfl rfl ln_Reader_37 rfl fun _ h29 =>
    qz_nnd 2 rfl <|
    qz_aast (k0 := 47) (k1 := 5) rfl rfl rfl (by decide) ⟨_, rfl, rfl, by decide⟩ fun h30 =>
    qz_iincC (i := 3) rfl (by decide) (y := 3) rfl <|
    qz_nl [qz_r true 9 l0, qz_r false 11 l1, qz_r false 6 l2, qz_i 3] rfl <|
    qz_goto rfl ca_Reader_init_47 <|
    qz_iload_n rfl <|
    qz_bipush rfl <|
    qz_eqt (if_neg (by decide)) <| qz_icmp_gt rfl ca_Reader_init_72 (t1 := none) qz_none <|
    qz_aload_n rfl <|
    qz_getR (k1 := 47) kg_9 fl_Reader_11 rfl rfl <|
    qz_iload_n rfl <|
    qz_new kw_5 rfl nw_Reader_9 rfl fun h31 q32 =>
    qz_dup rfl <|
    qz_inviV [] rfl (cn_Level_init q32 h31) mw_Level_init vi_Level_init rfl rfl ln_Reader_37 rfl fun _ h34 =>
    qz_nnd 2 rfl <|
    qz_aast (k0 := 47) (k1 := 5) rfl rfl rfl (by decide) ⟨_, rfl, rfl, by decide⟩ fun h35 =>
    qz_iincC (i := 3) rfl (by decide) (y := 4) rfl <|
    qz_nl [qz_r true 9 l0, qz_r false 11 l1, qz_r false 6 l2, qz_i 4] rfl <|
    qz_goto rfl ca_Reader_init_47 <|
    qz_iload_n rfl <|
    qz_bipush rfl <|
    qz_eqt (if_neg (by decide)) <| qz_icmp_gt rfl ca_Reader_init_72 (t1 := none) qz_none <|
    qz_aload_n rfl <|
    qz_getR (k1 := 47) kg_9 fl_Reader_11 rfl rfl <|
    qz_iload_n rfl <|
    qz_new kw_5 rfl nw_Reader_9 rfl fun h36 q37 =>
    qz_dup rfl <|
    qz_inviV [] rfl (cn_Level_init q37 h36) mw_Level_init vi_Level_init rfl rfl ln_Reader_37 rfl fun _ h39 =>
    qz_nnd 2 rfl <|
    qz_aast (k0 := 47) (k1 := 5) rfl rfl rfl (by decide) ⟨_, rfl, rfl, by decide⟩ fun h40 =>
    qz_iincC (i := 3) rfl (by decide) (y := 5) rfl <|
    qz_nl [qz_r true 9 l0, qz_r false 11 l1, qz_r false 6 l2, qz_i 5] rfl <|
    qz_goto rfl ca_Reader_init_47 <|
    qz_iload_n rfl <|
    qz_bipush rfl <|
    qz_eqt (if_neg (by decide)) <| qz_icmp_gt rfl ca_Reader_init_72 (t1 := none) qz_none <|
    qz_aload_n rfl <|
    qz_getR (k1 := 47) kg_9 fl_Reader_11 rfl rfl <|
    qz_iload_n rfl <|
    qz_new kw_5 rfl nw_Reader_9 rfl fun h41 q42 =>
    qz_dup rfl <|
    qz_inviV [] rfl (cn_Level_init q42 h41) mw_Level_init vi_Level_init rfl rfl ln_Reader_37 rfl fun _ h44 =>
    qz_nnd 2 rfl <|
    qz_aast (k0 := 47) (k1 := 5) rfl rfl rfl (by decide) ⟨_, rfl, rfl, by decide⟩ fun h45 =>
    qz_iincC (i := 3) rfl (by decide) (y := 6) rfl <|
    qz_nl [qz_r true 9 l0, qz_r false 11 l1, qz_r false 6 l2, qz_i 6] rfl <|
    qz_goto rfl ca_Reader_init_47 <|
    qz_iload_n rfl <|
    qz_bipush rfl <|
    qz_eqt (if_neg (by decide)) <| qz_icmp_gt rfl ca_Reader_init_72 (t1 := none) qz_none <|
    qz_aload_n rfl <|
    qz_getR (k1 := 47) kg_9 fl_Reader_11 rfl rfl <|
    qz_iload_n rfl <|
    qz_new kw_5 rfl nw_Reader_9 rfl fun h46 q47 =>
    qz_dup rfl <|
    qz_inviV [] rfl (cn_Level_init q47 h46) mw_Level_init vi_Level_init rfl rfl ln_Reader_37 rfl fun _ h49 =>
    qz_nnd 2 rfl <|
    qz_aast (k0 := 47) (k1 := 5) rfl rfl rfl (by decide) ⟨_, rfl, rfl, by decide⟩ fun h50 =>
    qz_iincC (i := 3) rfl (by decide) (y := 7) rfl <|
    qz_nl [qz_r true 9 l0, qz_r false 11 l1, qz_r false 6 l2, qz_i 7] rfl <|
    qz_goto rfl ca_Reader_init_47 <|
    qz_iload_n rfl <|
    qz_bipush rfl <|
    qz_eqt (if_neg (by decide)) <| qz_icmp_gt rfl ca_Reader_init_72 (t1 := none) qz_none <|
    qz_aload_n rfl <|
    qz_getR (k1 := 47) kg_9 fl_Reader_11 rfl rfl <|
    qz_iload_n rfl <|
    qz_new kw_5 rfl nw_Reader_9 rfl fun h51 q52 =>
    qz_dup rfl <|
    qz_inviV [] rfl (cn_Level_init q52 h51) mw_Level_init vi_Level_init rfl rfl ln_Reader_37 rfl fun _ h54 =>
    qz_nnd 2 rfl <|
    qz_aast (k0 := 47) (k1 := 5) rfl rfl rfl (by decide) ⟨_, rfl, rfl, by decide⟩ fun h55 =>
    qz_iincC (i := 3) rfl (by decide) (y := 8) rfl <|
    qz_nl [qz_r true 9 l0, qz_r false 11 l1, qz_r false 6 l2, qz_i 8] rfl <|
    qz_goto rfl ca_Reader_init_47 <|
    qz_iload_n rfl <|
    qz_bipush rfl <|
    qz_eqt (if_neg (by decide)) <| qz_icmp_gt rfl ca_Reader_init_72 (t1 := none) qz_none <|
    qz_aload_n rfl <|
    qz_getR (k1 := 47) kg_9 fl_Reader_11 rfl rfl <|
    qz_iload_n rfl <|
    qz_new kw_5 rfl nw_Reader_9 rfl fun h56 q57 =>
    qz_dup rfl <|
    qz_inviV [] rfl (cn_Level_init q57 h56) mw_Level_init vi_Level_init rfl rfl ln_Reader_37 rfl fun _ h59 =>
    qz_nnd 2 rfl <|
    qz_aast (k0 := 47) (k1 := 5) rfl rfl rfl (by decide) ⟨_, rfl, rfl, by decide⟩ fun h60 =>
    qz_iincC (i := 3) rfl (by decide) (y := 9) rfl <|
    qz_nl [qz_r true 9 l0, qz_r false 11 l1, qz_r false 6 l2, qz_i 9] rfl <|
    qz_goto rfl ca_Reader_init_47 <|
    qz_iload_n rfl <|
    qz_bipush rfl <|
    qz_eqt (if_neg (by decide)) <| qz_icmp_gt rfl ca_Reader_init_72 (t1 := none) qz_none <|
    qz_aload_n rfl <|
    qz_getR (k1 := 47) kg_9 fl_Reader_11 rfl rfl <|
    qz_iload_n rfl <|
    qz_new kw_5 rfl nw_Reader_9 rfl fun h61 q62 =>
    qz_dup rfl <|
    qz_inviV [] rfl (cn_Level_init q62 h61) mw_Level_init vi_Level_init rfl rfl ln_Reader_37 rfl fun _ h64 =>
    qz_nnd 2 rfl <|
    qz_aast (k0 := 47) (k1 := 5) rfl rfl rfl (by decide) ⟨_, rfl, rfl, by decide⟩ fun h65 =>
    qz_iincC (i := 3) rfl (by decide) (y := 10) rfl <|
    qz_nl [qz_r true 9 l0, qz_r false 11 l1, qz_r false 6 l2, qz_i 10] rfl <|
    qz_goto rfl ca_Reader_init_47 <|
    qz_iload_n rfl <|
    qz_bipush rfl <|
    qz_eqt (if_neg (by decide)) <| qz_icmp_gt rfl ca_Reader_init_72 (t1 := none) qz_none <|
    qz_aload_n rfl <|
    qz_getR (k1 := 47) kg_9 fl_Reader_11 rfl rfl <|
    qz_iload_n rfl <|
    qz_new kw_5 rfl nw_Reader_9 rfl fun h66 q67 =>
    qz_dup rfl <|
    qz_inviV [] rfl (cn_Level_init q67 h66) mw_Level_init vi_Level_init rfl rfl ln_Reader_37 rfl fun _ h69 =>
    qz_nnd 2 rfl <|
    qz_aast (k0 := 47) (k1 := 5) rfl rfl rfl (by decide) ⟨_, rfl, rfl, by decide⟩ fun h70 =>
    qz_iincC (i := 3) rfl (by decide) (y := 11) rfl <|
    qz_nl [qz_r true 9 l0, qz_r false 11 l1, qz_r false 6 l2, qz_i 11] rfl <|
    qz_goto rfl ca_Reader_init_47 <|
    qz_iload_n rfl <|
    qz_bipush rfl <|
    qz_eqt (if_neg (by decide)) <| qz_icmp_gt rfl ca_Reader_init_72 (t1 := none) qz_none <|
    qz_aload_n rfl <|
    qz_getR (k1 := 47) kg_9 fl_Reader_11 rfl rfl <|
    qz_iload_n rfl <|
    qz_new kw_5 rfl nw_Reader_9 rfl fun h71 q72 =>
    qz_dup rfl <|
    qz_inviV [] rfl (cn_Level_init q72 h71) mw_Level_init vi_Level_init rfl rfl ln_Reader_37 rfl fun _ h74 =>
    qz_nnd 2 rfl <|
    qz_aast (k0 := 47) (k1 := 5) rfl rfl rfl (by decide) ⟨_, rfl, rfl, by decide⟩ fun h75 =>
    qz_iincC (i := 3) rfl (by decide) (y := 12) rfl <|
    qz_nl [qz_r true 9 l0, qz_r false 11 l1, qz_r false 6 l2, qz_i 12] rfl <|
    qz_goto rfl ca_Reader_init_47 <|
    qz_iload_n rfl <|
    qz_bipush rfl <|
    qz_eqt (if_neg (by decide)) <| qz_icmp_gt rfl ca_Reader_init_72 (t1 := none) qz_none <|
    qz_aload_n rfl <|
    qz_getR (k1 := 47) kg_9 fl_Reader_11 rfl rfl <|
    qz_iload_n rfl <|
    qz_new kw_5 rfl nw_Reader_9 rfl fun h76 q77 =>
    qz_dup rfl <|
    qz_inviV [] rfl (cn_Level_init q77 h76) mw_Level_init vi_Level_init rfl rfl ln_Reader_37 rfl fun _ h79 =>
    qz_nnd 2 rfl <|
    qz_aast (k0 := 47) (k1 := 5) rfl rfl rfl (by decide) ⟨_, rfl, rfl, by decide⟩ fun h80 =>
    qz_iincC (i := 3) rfl (by decide) (y := 13) rfl <|
    qz_nl [qz_r true 9 l0, qz_r false 11 l1, qz_r false 6 l2, qz_i 13] rfl <|
    qz_goto rfl ca_Reader_init_47 <|
    qz_iload_n rfl <|
    qz_bipush rfl <|
    qz_eqt (if_pos (by decide)) <| qz_icmp_gt rfl ca_Reader_init_72 (t2 := none) (kf := qz_none) <|
    qz_return ⟨rfl, rfl⟩ rfl
set_option maxRecDepth 20000 in
def fn_Module_latest (l0 : Int) (h : qz_H) : Option qz_R :=
  qz_ck ((h l0 0 : Int) ≠ 0) <|
  qz_ck ((0 : Int) ≤ qz_max 0 (qz_w ((qz_min (h l0 3) 4) - 1)) ∧ qz_max 0 (qz_w ((qz_min (h l0 3) 4) - 1)) < h (h l0 0) (-1)) <|
  some (h (h l0 0) (qz_max 0 (qz_w ((qz_min (h l0 3) 4) - 1))), h)
def bk_Module_latest_0 : List (Instr × Nat) := [(.aload_n 0, 1), (.getfield 11, 3), (.iconst 0, 1), (.aload_n 0, 1), (.getfield 32, 3), (.iconst 4, 1), (.invokestatic 51, 3), (.iconst 1, 1), (.isub, 1), (.invokestatic 57, 3), (.aaload, 1), (.areturn, 1)]
theorem ca_Module_latest_0 : qz_ca yd_Module_latest.2.1 0 bk_Module_latest_0 := qz_cab_ok _ _ (by decide +kernel)
set_option maxRecDepth 20000 in
theorem cn_Module_latest (l0 : Int) (h : qz_H) : qz_C yd_Module_latest [qz_r true 6 l0] h (fn_Module_latest l0 h) := by
  refine qz_con (is := bk_Module_latest_0) (ls := [qz_r true 6 l0]) mw_Module_latest.2.2.2 ca_Module_latest_0 rfl rfl rfl fun G => ?_
  unfold fn_Module_latest bk_Module_latest_0; exact
    qz_aload_n rfl <|
    qz_getR (k1 := 45) kg_6 fl_Module_11 rfl rfl <|
    qz_iconst rfl <|
    qz_aload_n rfl <|
    qz_getI kg_6 fl_Module_32 rfl rfl <|
    qz_iconst rfl <|
    qz_mmin ma_Module_51 rfl <|
    qz_iconst rfl <|
    qz_isub <|
    qz_mmax ma_Module_57 rfl <|
    qz_nnd 1 rfl <|
    qz_aald (k0 := 45) (k1 := 4) rfl rfl rfl <|
    qz_areturn ⟨rfl, rfl, by decide⟩ rfl
set_option maxRecDepth 20000 in
def fn_Frame_init (l0 : Int) (h : qz_H) : Option qz_R :=
  some (0, h)
def bk_Frame_init_0 : List (Instr × Nat) := [(.aload_n 0, 1), (.invokespecial 1, 3), (.return_, 1)]
theorem ca_Frame_init_0 : qz_ca yd_Frame_init.2.1 0 bk_Frame_init_0 := qz_cab_ok _ _ (by decide +kernel)
set_option maxRecDepth 20000 in
theorem cn_Frame_init (l0 : Int) (h : qz_H) : qz_C yd_Frame_init [qz_r true 3 l0] h (fn_Frame_init l0 h) := by
  refine qz_con (is := bk_Frame_init_0) (ls := [qz_r true 3 l0]) mw_Frame_init.2.2.2 ca_Frame_init_0 rfl rfl rfl fun G => ?_
  unfold fn_Frame_init bk_Frame_init_0; exact
    qz_aload_n rfl <|
    qz_objI oi_Frame_1 rfl <|
    qz_return ⟨rfl, rfl⟩ rfl
set_option maxRecDepth 20000 in
def fn_Checker_init (l0 : Int) (l1 : Int) (h : qz_H) : Option qz_R :=
  qz_mk h 40 64 fun h1 q2 =>
  qz_ck ((0 : Int) < l0) <|
  qz_bn (qz_up h1 l0 0 q2) fun h3 =>
  qz_mk h3 48 12 fun h4 q5 =>
  qz_ck ((0 : Int) < l0) <|
  qz_bn (qz_up h4 l0 1 q5) fun h6 =>
  qz_ck ((0 : Int) < l0) <|
  qz_bn (qz_up h6 l0 2 l1) fun h7 =>
  qz_ck ((l1 : Int) ≠ 0) <|
  qz_bc (fn_Module_latest l1 h7) fun r8 h9 =>
  qz_ck ((0 : Int) < l0) <|
  qz_bn (qz_up h9 l0 3 r8) fun h10 =>
  qz_mk h10 3 0 fun h11 q12 =>
  qz_bc (fn_Frame_init q12 h11) fun _ h14 =>
  qz_ck ((h10 l0 1 : Int) ≠ 0) <|
  qz_ck (0 < h10 l0 1 ∧ (0 : Int) ≤ 0 ∧ 0 < h14 (h10 l0 1) (-1)) <|
  qz_bn (qz_up h14 (h10 l0 1) 0 q12) fun h15 =>
  qz_mk h15 3 0 fun h16 q17 =>
  qz_bc (fn_Frame_init q17 h16) fun _ h19 =>
  qz_ck ((h15 l0 1 : Int) ≠ 0) <|
  qz_ck (0 < h15 l0 1 ∧ (0 : Int) ≤ 1 ∧ 1 < h19 (h15 l0 1) (-1)) <|
  qz_bn (qz_up h19 (h15 l0 1) 1 q17) fun h20 =>
  qz_mk h20 3 0 fun h21 q22 =>
  qz_bc (fn_Frame_init q22 h21) fun _ h24 =>
  qz_ck ((h20 l0 1 : Int) ≠ 0) <|
  qz_ck (0 < h20 l0 1 ∧ (0 : Int) ≤ 2 ∧ 2 < h24 (h20 l0 1) (-1)) <|
  qz_bn (qz_up h24 (h20 l0 1) 2 q22) fun h25 =>
  qz_mk h25 3 0 fun h26 q27 =>
  qz_bc (fn_Frame_init q27 h26) fun _ h29 =>
  qz_ck ((h25 l0 1 : Int) ≠ 0) <|
  qz_ck (0 < h25 l0 1 ∧ (0 : Int) ≤ 3 ∧ 3 < h29 (h25 l0 1) (-1)) <|
  qz_bn (qz_up h29 (h25 l0 1) 3 q27) fun h30 =>
  qz_mk h30 3 0 fun h31 q32 =>
  qz_bc (fn_Frame_init q32 h31) fun _ h34 =>
  qz_ck ((h30 l0 1 : Int) ≠ 0) <|
  qz_ck (0 < h30 l0 1 ∧ (0 : Int) ≤ 4 ∧ 4 < h34 (h30 l0 1) (-1)) <|
  qz_bn (qz_up h34 (h30 l0 1) 4 q32) fun h35 =>
  qz_mk h35 3 0 fun h36 q37 =>
  qz_bc (fn_Frame_init q37 h36) fun _ h39 =>
  qz_ck ((h35 l0 1 : Int) ≠ 0) <|
  qz_ck (0 < h35 l0 1 ∧ (0 : Int) ≤ 5 ∧ 5 < h39 (h35 l0 1) (-1)) <|
  qz_bn (qz_up h39 (h35 l0 1) 5 q37) fun h40 =>
  qz_mk h40 3 0 fun h41 q42 =>
  qz_bc (fn_Frame_init q42 h41) fun _ h44 =>
  qz_ck ((h40 l0 1 : Int) ≠ 0) <|
  qz_ck (0 < h40 l0 1 ∧ (0 : Int) ≤ 6 ∧ 6 < h44 (h40 l0 1) (-1)) <|
  qz_bn (qz_up h44 (h40 l0 1) 6 q42) fun h45 =>
  qz_mk h45 3 0 fun h46 q47 =>
  qz_bc (fn_Frame_init q47 h46) fun _ h49 =>
  qz_ck ((h45 l0 1 : Int) ≠ 0) <|
  qz_ck (0 < h45 l0 1 ∧ (0 : Int) ≤ 7 ∧ 7 < h49 (h45 l0 1) (-1)) <|
  qz_bn (qz_up h49 (h45 l0 1) 7 q47) fun h50 =>
  qz_mk h50 3 0 fun h51 q52 =>
  qz_bc (fn_Frame_init q52 h51) fun _ h54 =>
  qz_ck ((h50 l0 1 : Int) ≠ 0) <|
  qz_ck (0 < h50 l0 1 ∧ (0 : Int) ≤ 8 ∧ 8 < h54 (h50 l0 1) (-1)) <|
  qz_bn (qz_up h54 (h50 l0 1) 8 q52) fun h55 =>
  qz_mk h55 3 0 fun h56 q57 =>
  qz_bc (fn_Frame_init q57 h56) fun _ h59 =>
  qz_ck ((h55 l0 1 : Int) ≠ 0) <|
  qz_ck (0 < h55 l0 1 ∧ (0 : Int) ≤ 9 ∧ 9 < h59 (h55 l0 1) (-1)) <|
  qz_bn (qz_up h59 (h55 l0 1) 9 q57) fun h60 =>
  qz_mk h60 3 0 fun h61 q62 =>
  qz_bc (fn_Frame_init q62 h61) fun _ h64 =>
  qz_ck ((h60 l0 1 : Int) ≠ 0) <|
  qz_ck (0 < h60 l0 1 ∧ (0 : Int) ≤ 10 ∧ 10 < h64 (h60 l0 1) (-1)) <|
  qz_bn (qz_up h64 (h60 l0 1) 10 q62) fun h65 =>
  qz_mk h65 3 0 fun h66 q67 =>
  qz_bc (fn_Frame_init q67 h66) fun _ h69 =>
  qz_ck ((h65 l0 1 : Int) ≠ 0) <|
  qz_ck (0 < h65 l0 1 ∧ (0 : Int) ≤ 11 ∧ 11 < h69 (h65 l0 1) (-1)) <|
  qz_bn (qz_up h69 (h65 l0 1) 11 q67) fun h70 =>
  some (0, h70)
def bk_Checker_init_0 : List (Instr × Nat) := [(.aload_n 0, 1), (.invokespecial 3, 3), (.aload_n 0, 1), (.bipush 64, 2), (.newarray .int, 2), (.putfield 9, 3), (.aload_n 0, 1), (.bipush 12, 2), (.anewarray 15, 3), (.putfield 17, 3), (.aload_n 0, 1), (.aload_n 1, 1), (.putfield 21, 3), (.aload_n 0, 1), (.aload_n 1, 1), (.invokevirtual 25, 3), (.putfield 31, 3), (.iconst 0, 1), (.istore_n 2, 1)]
def bk_Checker_init_36 : List (Instr × Nat) := [(.iload_n 2, 1), (.bipush 12, 2), (.if_icmp .ge 22, 3), (.aload_n 0, 1), (.getfield 17, 3), (.iload_n 2, 1), (.new 15, 3), (.dup, 1), (.invokespecial 35, 3), (.aastore, 1), (.iinc 2 1, 3), (.goto (-22), 3)]
def bk_Checker_init_61 : List (Instr × Nat) := [(.return_, 1)]
theorem ca_Checker_init_0 : qz_ca yd_Checker_init.2.1 0 bk_Checker_init_0 := qz_cab_ok _ _ (by decide +kernel)
theorem ca_Checker_init_36 : qz_ca yd_Checker_init.2.1 36 bk_Checker_init_36 := qz_cab_ok _ _ (by decide +kernel)
theorem ca_Checker_init_61 : qz_ca yd_Checker_init.2.1 61 bk_Checker_init_61 := qz_cab_ok _ _ (by decide +kernel)
set_option maxRecDepth 20000 in
theorem cn_Checker_init (l0 : Int) (l1 : Int) (h : qz_H) : qz_C yd_Checker_init [qz_r true 1 l0, qz_r false 6 l1] h (fn_Checker_init l0 l1 h) := by
  refine qz_con (is := bk_Checker_init_0) (ls := [qz_r true 1 l0, qz_r false 6 l1, qz_u]) mw_Checker_init.2.2.2 ca_Checker_init_0 rfl rfl rfl fun G => ?_
  unfold fn_Checker_init bk_Checker_init_0; exact
    qz_aload_n rfl <|
    qz_objI oi_Checker_3 rfl <|
    qz_aload_n rfl <|
    qz_bipush rfl <|
    qz_newa (N := 64) rfl rfl (by decide) rfl rfl rfl (by decide) wa_int rfl fun h1 q2 =>
    qz_putR (k1 := 40) kw_1 fp_Checker_9_Checker_init rfl rfl fun h3 =>
    qz_aload_n rfl <|
    qz_bipush rfl <|
    qz_anew (N := 12) rfl rfl (by decide) rfl rfl rfl an_Checker_15 rfl fun h4 q5 =>
    qz_putR (k1 := 48) kw_1 fp_Checker_17_Checker_init rfl rfl fun h6 =>
    qz_aload_n rfl <|
    qz_aload_n rfl <|
    qz_putR (k1 := 6) kw_1 fp_Checker_21_Checker_init rfl rfl fun h7 =>
    qz_aload_n rfl <|
    qz_aload_n rfl <|
    qz_nnd 0 rfl <|
    qz_invvR [] rfl (cn_Module_latest l1 h7) mw_Module_latest vw_Module_latest ⟨_, rfl, rfl, by decide⟩ rfl rfl ln_Checker_25 rfl fun r8 h9 =>
    qz_putR (k1 := 4) kw_1 fp_Checker_31_Checker_init rfl rfl fun h10 =>
    qz_iconst rfl <|
    qz_istore_nC (by decide) <|
    qz_fall rfl ca_Checker_init_36 <|
    qz_iload_n rfl <|
    qz_bipush rfl <|
    qz_eqt (if_neg (by decide)) <| qz_icmp_ge rfl ca_Checker_init_61 (t1 := none) qz_none <|
    qz_aload_n rfl <|
    qz_getR (k1 := 48) kg_1 fl_Checker_17 rfl rfl <|
    qz_iload_n rfl <|
    qz_new kw_3 rfl nw_Checker_15 rfl fun h11 q12 =>
    qz_dup rfl <|
    qz_inviV [] rfl (cn_Frame_init q12 h11) mw_Frame_init vi_Frame_init rfl rfl ln_Checker_35 rfl fun _ h14 =>
    qz_nnd 2 rfl <|
    qz_aast (k0 := 48) (k1 := 3) rfl rfl rfl (by decide) ⟨_, rfl, rfl, by decide⟩ fun h15 =>
    qz_iincC (i := 2) rfl (by decide) (y := 1) rfl <|
    qz_nl [qz_r true 1 l0, qz_r false 6 l1, qz_i 1] rfl <|
    qz_goto rfl ca_Checker_init_36 <|
    qz_iload_n rfl <|
    qz_bipush rfl <|
    qz_eqt (if_neg (by decide)) <| qz_icmp_ge rfl ca_Checker_init_61 (t1 := none) qz_none <|
    qz_aload_n rfl <|
    qz_getR (k1 := 48) kg_1 fl_Checker_17 rfl rfl <|
    qz_iload_n rfl <|
    qz_new kw_3 rfl nw_Checker_15 rfl fun h16 q17 =>
    qz_dup rfl <|
    qz_inviV [] rfl (cn_Frame_init q17 h16) mw_Frame_init vi_Frame_init rfl rfl ln_Checker_35 rfl fun _ h19 =>
    qz_nnd 2 rfl <|
    qz_aast (k0 := 48) (k1 := 3) rfl rfl rfl (by decide) ⟨_, rfl, rfl, by decide⟩ fun h20 =>
    qz_iincC (i := 2) rfl (by decide) (y := 2) rfl <|
    qz_nl [qz_r true 1 l0, qz_r false 6 l1, qz_i 2] rfl <|
    qz_goto rfl ca_Checker_init_36 <|
    qz_iload_n rfl <|
    qz_bipush rfl <|
    qz_eqt (if_neg (by decide)) <| qz_icmp_ge rfl ca_Checker_init_61 (t1 := none) qz_none <|
    qz_aload_n rfl <|
    qz_getR (k1 := 48) kg_1 fl_Checker_17 rfl rfl <|
    qz_iload_n rfl <|
    qz_new kw_3 rfl nw_Checker_15 rfl fun h21 q22 =>
    qz_dup rfl <|
    qz_inviV [] rfl (cn_Frame_init q22 h21) mw_Frame_init vi_Frame_init rfl rfl ln_Checker_35 rfl fun _ h24 =>
    qz_nnd 2 rfl <|
    qz_aast (k0 := 48) (k1 := 3) rfl rfl rfl (by decide) ⟨_, rfl, rfl, by decide⟩ fun h25 =>
    qz_iincC (i := 2) rfl (by decide) (y := 3) rfl <|
    qz_nl [qz_r true 1 l0, qz_r false 6 l1, qz_i 3] rfl <|
    qz_goto rfl ca_Checker_init_36 <|
    qz_iload_n rfl <|
    qz_bipush rfl <|
    qz_eqt (if_neg (by decide)) <| qz_icmp_ge rfl ca_Checker_init_61 (t1 := none) qz_none <|
    qz_aload_n rfl <|
    qz_getR (k1 := 48) kg_1 fl_Checker_17 rfl rfl <|
    qz_iload_n rfl <|
    qz_new kw_3 rfl nw_Checker_15 rfl fun h26 q27 =>
    qz_dup rfl <|
    qz_inviV [] rfl (cn_Frame_init q27 h26) mw_Frame_init vi_Frame_init rfl rfl ln_Checker_35 rfl fun _ h29 =>
    qz_nnd 2 rfl <|
    qz_aast (k0 := 48) (k1 := 3) rfl rfl rfl (by decide) ⟨_, rfl, rfl, by decide⟩ fun h30 =>
    qz_iincC (i := 2) rfl (by decide) (y := 4) rfl <|
    qz_nl [qz_r true 1 l0, qz_r false 6 l1, qz_i 4] rfl <|
    qz_goto rfl ca_Checker_init_36 <|
    qz_iload_n rfl <|
    qz_bipush rfl <|
    qz_eqt (if_neg (by decide)) <| qz_icmp_ge rfl ca_Checker_init_61 (t1 := none) qz_none <|
    qz_aload_n rfl <|
    qz_getR (k1 := 48) kg_1 fl_Checker_17 rfl rfl <|
    qz_iload_n rfl <|
    qz_new kw_3 rfl nw_Checker_15 rfl fun h31 q32 =>
    qz_dup rfl <|
    qz_inviV [] rfl (cn_Frame_init q32 h31) mw_Frame_init vi_Frame_init rfl rfl ln_Checker_35 rfl fun _ h34 =>
    qz_nnd 2 rfl <|
    qz_aast (k0 := 48) (k1 := 3) rfl rfl rfl (by decide) ⟨_, rfl, rfl, by decide⟩ fun h35 =>
    qz_iincC (i := 2) rfl (by decide) (y := 5) rfl <|
    qz_nl [qz_r true 1 l0, qz_r false 6 l1, qz_i 5] rfl <|
    qz_goto rfl ca_Checker_init_36 <|
    qz_iload_n rfl <|
    qz_bipush rfl <|
    qz_eqt (if_neg (by decide)) <| qz_icmp_ge rfl ca_Checker_init_61 (t1 := none) qz_none <|
    qz_aload_n rfl <|
    qz_getR (k1 := 48) kg_1 fl_Checker_17 rfl rfl <|
    qz_iload_n rfl <|
    qz_new kw_3 rfl nw_Checker_15 rfl fun h36 q37 =>
    qz_dup rfl <|
    qz_inviV [] rfl (cn_Frame_init q37 h36) mw_Frame_init vi_Frame_init rfl rfl ln_Checker_35 rfl fun _ h39 =>
    qz_nnd 2 rfl <|
    qz_aast (k0 := 48) (k1 := 3) rfl rfl rfl (by decide) ⟨_, rfl, rfl, by decide⟩ fun h40 =>
    qz_iincC (i := 2) rfl (by decide) (y := 6) rfl <|
    qz_nl [qz_r true 1 l0, qz_r false 6 l1, qz_i 6] rfl <|
    qz_goto rfl ca_Checker_init_36 <|
    qz_iload_n rfl <|
    qz_bipush rfl <|
    qz_eqt (if_neg (by decide)) <| qz_icmp_ge rfl ca_Checker_init_61 (t1 := none) qz_none <|
    qz_aload_n rfl <|
    qz_getR (k1 := 48) kg_1 fl_Checker_17 rfl rfl <|
    qz_iload_n rfl <|
    qz_new kw_3 rfl nw_Checker_15 rfl fun h41 q42 =>
    qz_dup rfl <|
    qz_inviV [] rfl (cn_Frame_init q42 h41) mw_Frame_init vi_Frame_init rfl rfl ln_Checker_35 rfl fun _ h44 =>
    qz_nnd 2 rfl <|
    qz_aast (k0 := 48) (k1 := 3) rfl rfl rfl (by decide) ⟨_, rfl, rfl, by decide⟩ fun h45 =>
    qz_iincC (i := 2) rfl (by decide) (y := 7) rfl <|
    qz_nl [qz_r true 1 l0, qz_r false 6 l1, qz_i 7] rfl <|
    qz_goto rfl ca_Checker_init_36 <|
    qz_iload_n rfl <|
    qz_bipush rfl <|
    qz_eqt (if_neg (by decide)) <| qz_icmp_ge rfl ca_Checker_init_61 (t1 := none) qz_none <|
    qz_aload_n rfl <|
    qz_getR (k1 := 48) kg_1 fl_Checker_17 rfl rfl <|
    qz_iload_n rfl <|
    qz_new kw_3 rfl nw_Checker_15 rfl fun h46 q47 =>
    qz_dup rfl <|
    qz_inviV [] rfl (cn_Frame_init q47 h46) mw_Frame_init vi_Frame_init rfl rfl ln_Checker_35 rfl fun _ h49 =>
    qz_nnd 2 rfl <|
    qz_aast (k0 := 48) (k1 := 3) rfl rfl rfl (by decide) ⟨_, rfl, rfl, by decide⟩ fun h50 =>
    qz_iincC (i := 2) rfl (by decide) (y := 8) rfl <|
    qz_nl [qz_r true 1 l0, qz_r false 6 l1, qz_i 8] rfl <|
    qz_goto rfl ca_Checker_init_36 <|
    qz_iload_n rfl <|
    qz_bipush rfl <|
    qz_eqt (if_neg (by decide)) <| qz_icmp_ge rfl ca_Checker_init_61 (t1 := none) qz_none <|
    qz_aload_n rfl <|
    qz_getR (k1 := 48) kg_1 fl_Checker_17 rfl rfl <|
    qz_iload_n rfl <|
    qz_new kw_3 rfl nw_Checker_15 rfl fun h51 q52 =>
    qz_dup rfl <|
    qz_inviV [] rfl (cn_Frame_init q52 h51) mw_Frame_init vi_Frame_init rfl rfl ln_Checker_35 rfl fun _ h54 =>
    qz_nnd 2 rfl <|
    qz_aast (k0 := 48) (k1 := 3) rfl rfl rfl (by decide) ⟨_, rfl, rfl, by decide⟩ fun h55 =>
    qz_iincC (i := 2) rfl (by decide) (y := 9) rfl <|
    qz_nl [qz_r true 1 l0, qz_r false 6 l1, qz_i 9] rfl <|
    qz_goto rfl ca_Checker_init_36 <|
    qz_iload_n rfl <|
    qz_bipush rfl <|
    qz_eqt (if_neg (by decide)) <| qz_icmp_ge rfl ca_Checker_init_61 (t1 := none) qz_none <|
    qz_aload_n rfl <|
    qz_getR (k1 := 48) kg_1 fl_Checker_17 rfl rfl <|
    qz_iload_n rfl <|
    qz_new kw_3 rfl nw_Checker_15 rfl fun h56 q57 =>
    qz_dup rfl <|
    qz_inviV [] rfl (cn_Frame_init q57 h56) mw_Frame_init vi_Frame_init rfl rfl ln_Checker_35 rfl fun _ h59 =>
    qz_nnd 2 rfl <|
    qz_aast (k0 := 48) (k1 := 3) rfl rfl rfl (by decide) ⟨_, rfl, rfl, by decide⟩ fun h60 =>
    qz_iincC (i := 2) rfl (by decide) (y := 10) rfl <|
    qz_nl [qz_r true 1 l0, qz_r false 6 l1, qz_i 10] rfl <|
    qz_goto rfl ca_Checker_init_36 <|
    qz_iload_n rfl <|
    qz_bipush rfl <|
    qz_eqt (if_neg (by decide)) <| qz_icmp_ge rfl ca_Checker_init_61 (t1 := none) qz_none <|
    qz_aload_n rfl <|
    qz_getR (k1 := 48) kg_1 fl_Checker_17 rfl rfl <|
    qz_iload_n rfl <|
    qz_new kw_3 rfl nw_Checker_15 rfl fun h61 q62 =>
    qz_dup rfl <|
    qz_inviV [] rfl (cn_Frame_init q62 h61) mw_Frame_init vi_Frame_init rfl rfl ln_Checker_35 rfl fun _ h64 =>
    qz_nnd 2 rfl <|
    qz_aast (k0 := 48) (k1 := 3) rfl rfl rfl (by decide) ⟨_, rfl, rfl, by decide⟩ fun h65 =>
    qz_iincC (i := 2) rfl (by decide) (y := 11) rfl <|
    qz_nl [qz_r true 1 l0, qz_r false 6 l1, qz_i 11] rfl <|
    qz_goto rfl ca_Checker_init_36 <|
    qz_iload_n rfl <|
    qz_bipush rfl <|
    qz_eqt (if_neg (by decide)) <| qz_icmp_ge rfl ca_Checker_init_61 (t1 := none) qz_none <|
    qz_aload_n rfl <|
    qz_getR (k1 := 48) kg_1 fl_Checker_17 rfl rfl <|
    qz_iload_n rfl <|
    qz_new kw_3 rfl nw_Checker_15 rfl fun h66 q67 =>
    qz_dup rfl <|
    qz_inviV [] rfl (cn_Frame_init q67 h66) mw_Frame_init vi_Frame_init rfl rfl ln_Checker_35 rfl fun _ h69 =>
    qz_nnd 2 rfl <|
    qz_aast (k0 := 48) (k1 := 3) rfl rfl rfl (by decide) ⟨_, rfl, rfl, by decide⟩ fun h70 =>
    qz_iincC (i := 2) rfl (by decide) (y := 12) rfl <|
    qz_nl [qz_r true 1 l0, qz_r false 6 l1, qz_i 12] rfl <|
    qz_goto rfl ca_Checker_init_36 <|
    qz_iload_n rfl <|
    qz_bipush rfl <|
    qz_eqt (if_pos (by decide)) <| qz_icmp_ge rfl ca_Checker_init_61 (t2 := none) (kf := qz_none) <|
    qz_return ⟨rfl, rfl⟩ rfl
set_option maxRecDepth 20000 in
def fn_Encoder_init (l0 : Int) (h : qz_H) : Option qz_R :=
  qz_mk h 43 1024 fun h1 q2 =>
  qz_ck ((0 : Int) < l0) <|
  qz_bn (qz_up h1 l0 0 q2) fun h3 =>
  qz_mk h3 40 4 fun h4 q5 =>
  qz_ck ((0 : Int) < l0) <|
  qz_bn (qz_up h4 l0 1 q5) fun h6 =>
  some (0, h6)
def bk_Encoder_init_0 : List (Instr × Nat) := [(.aload_n 0, 1), (.invokespecial 3, 3), (.aload_n 0, 1), (.sipush 1024, 3), (.newarray .byte, 2), (.putfield 11, 3), (.aload_n 0, 1), (.iconst 4, 1), (.newarray .int, 2), (.putfield 15, 3), (.return_, 1)]
theorem ca_Encoder_init_0 : qz_ca yd_Encoder_init.2.1 0 bk_Encoder_init_0 := qz_cab_ok _ _ (by decide +kernel)
set_option maxRecDepth 20000 in
theorem cn_Encoder_init (l0 : Int) (h : qz_H) : qz_C yd_Encoder_init [qz_r true 2 l0] h (fn_Encoder_init l0 h) := by
  refine qz_con (is := bk_Encoder_init_0) (ls := [qz_r true 2 l0]) mw_Encoder_init.2.2.2 ca_Encoder_init_0 rfl rfl rfl fun G => ?_
  unfold fn_Encoder_init bk_Encoder_init_0; exact
    qz_aload_n rfl <|
    qz_objI oi_Encoder_3 rfl <|
    qz_aload_n rfl <|
    qz_sipush rfl <|
    qz_newa (N := 1024) rfl rfl (by decide) rfl rfl rfl (by decide) wa_byte rfl fun h1 q2 =>
    qz_putR (k1 := 43) kw_2 fp_Encoder_11_Encoder_init rfl rfl fun h3 =>
    qz_aload_n rfl <|
    qz_iconst rfl <|
    qz_newa (N := 4) rfl rfl (by decide) rfl rfl rfl (by decide) wa_int rfl fun h4 q5 =>
    qz_putR (k1 := 40) kw_2 fp_Encoder_15_Encoder_init rfl rfl fun h6 =>
    qz_return ⟨rfl, rfl⟩ rfl
set_option maxRecDepth 20000 in
def fn_Printer_init (l0 : Int) (l1 : Int) (h : qz_H) : Option qz_R :=
  qz_ck ((0 : Int) < l0) <|
  qz_bn (qz_up h l0 0 l1) fun h1 =>
  some (0, h1)
def bk_Printer_init_0 : List (Instr × Nat) := [(.aload_n 0, 1), (.invokespecial 3, 3), (.aload_n 0, 1), (.aload_n 1, 1), (.putfield 9, 3), (.return_, 1)]
theorem ca_Printer_init_0 : qz_ca yd_Printer_init.2.1 0 bk_Printer_init_0 := qz_cab_ok _ _ (by decide +kernel)
set_option maxRecDepth 20000 in
theorem cn_Printer_init (l0 : Int) (l1 : Int) (h : qz_H) : qz_C yd_Printer_init [qz_r true 8 l0, qz_r false 11 l1] h (fn_Printer_init l0 l1 h) := by
  refine qz_con (is := bk_Printer_init_0) (ls := [qz_r true 8 l0, qz_r false 11 l1]) mw_Printer_init.2.2.2 ca_Printer_init_0 rfl rfl rfl fun G => ?_
  unfold fn_Printer_init bk_Printer_init_0; exact
    qz_aload_n rfl <|
    qz_objI oi_Printer_3 rfl <|
    qz_aload_n rfl <|
    qz_aload_n rfl <|
    qz_putR (k1 := 11) kw_8 fp_Printer_9_Printer_init rfl rfl fun h1 =>
    qz_return ⟨rfl, rfl⟩ rfl
set_option maxRecDepth 20000 in
def fn_SA_init (l0 : Int) (h : qz_H) : Option qz_R :=
  qz_mk h 11 0 fun h1 q2 =>
  qz_bc (fn_Text_init q2 h1) fun _ h4 =>
  qz_ck ((0 : Int) < l0) <|
  qz_bn (qz_up h4 l0 4 q2) fun h5 =>
  qz_mk h5 11 0 fun h6 q7 =>
  qz_bc (fn_Text_init q7 h6) fun _ h9 =>
  qz_ck ((0 : Int) < l0) <|
  qz_bn (qz_up h9 l0 5 q7) fun h10 =>
  qz_mk h10 6 0 fun h11 q12 =>
  qz_bc (fn_Module_init q12 h11) fun _ h14 =>
  qz_ck ((0 : Int) < l0) <|
  qz_bn (qz_up h14 l0 6 q12) fun h15 =>
  qz_mk h15 6 0 fun h16 q17 =>
  qz_bc (fn_Module_init q17 h16) fun _ h19 =>
  qz_ck ((0 : Int) < l0) <|
  qz_bn (qz_up h19 l0 7 q17) fun h20 =>
  qz_mk h20 9 0 fun h21 q22 =>
  qz_bc (fn_Reader_init q22 (h21 l0 4) (h21 l0 7) h21) fun _ h24 =>
  qz_ck ((0 : Int) < l0) <|
  qz_bn (qz_up h24 l0 0 q22) fun h25 =>
  qz_mk h25 1 0 fun h26 q27 =>
  qz_bc (fn_Checker_init q27 (h26 l0 7) h26) fun _ h29 =>
  qz_ck ((0 : Int) < l0) <|
  qz_bn (qz_up h29 l0 1 q27) fun h30 =>
  qz_mk h30 2 0 fun h31 q32 =>
  qz_bc (fn_Encoder_init q32 h31) fun _ h34 =>
  qz_ck ((0 : Int) < l0) <|
  qz_bn (qz_up h34 l0 2 q32) fun h35 =>
  qz_mk h35 8 0 fun h36 q37 =>
  qz_bc (fn_Printer_init q37 (h36 l0 5) h36) fun _ h39 =>
  qz_ck ((0 : Int) < l0) <|
  qz_bn (qz_up h39 l0 3 q37) fun h40 =>
  some (0, h40)
def bk_SA_init_0 : List (Instr × Nat) := [(.aload_n 0, 1), (.invokespecial 1, 3), (.aload_n 0, 1), (.new 7, 3), (.dup, 1), (.invokespecial 9, 3), (.putfield 10, 3), (.aload_n 0, 1), (.new 7, 3), (.dup, 1), (.invokespecial 9, 3), (.putfield 16, 3), (.aload_n 0, 1), (.new 19, 3), (.dup, 1), (.invokespecial 21, 3), (.putfield 22, 3), (.aload_n 0, 1), (.new 19, 3), (.dup, 1), (.invokespecial 21, 3), (.putfield 26, 3), (.aload_n 0, 1), (.new 29, 3), (.dup, 1), (.aload_n 0, 1), (.getfield 10, 3), (.aload_n 0, 1), (.getfield 26, 3), (.invokespecial 31, 3), (.putfield 34, 3), (.aload_n 0, 1), (.new 38, 3), (.dup, 1), (.aload_n 0, 1), (.getfield 26, 3), (.invokespecial 40, 3), (.putfield 43, 3), (.aload_n 0, 1), (.new 47, 3), (.dup, 1), (.invokespecial 49, 3), (.putfield 50, 3), (.aload_n 0, 1), (.new 54, 3), (.dup, 1), (.aload_n 0, 1), (.getfield 16, 3), (.invokespecial 56, 3), (.putfield 59, 3), (.return_, 1)]
theorem ca_SA_init_0 : qz_ca yd_SA_init.2.1 0 bk_SA_init_0 := qz_cab_ok _ _ (by decide +kernel)
set_option maxRecDepth 20000 in
theorem cn_SA_init (l0 : Int) (h : qz_H) : qz_C yd_SA_init [qz_r true 0 l0] h (fn_SA_init l0 h) := by
  refine qz_con (is := bk_SA_init_0) (ls := [qz_r true 0 l0]) mw_SA_init.2.2.2 ca_SA_init_0 rfl rfl rfl fun G => ?_
  unfold fn_SA_init bk_SA_init_0; exact
    qz_aload_n rfl <|
    qz_objI oi_SA_1 rfl <|
    qz_aload_n rfl <|
    qz_new kw_11 rfl nw_SA_7 rfl fun h1 q2 =>
    qz_dup rfl <|
    qz_inviV [] rfl (cn_Text_init q2 h1) mw_Text_init vi_Text_init rfl rfl ln_SA_9 rfl fun _ h4 =>
    qz_putR (k1 := 11) kw_0 fp_SA_10_SA_init rfl rfl fun h5 =>
    qz_aload_n rfl <|
    qz_new kw_11 rfl nw_SA_7 rfl fun h6 q7 =>
    qz_dup rfl <|
    qz_inviV [] rfl (cn_Text_init q7 h6) mw_Text_init vi_Text_init rfl rfl ln_SA_9 rfl fun _ h9 =>
    qz_putR (k1 := 11) kw_0 fp_SA_16_SA_init rfl rfl fun h10 =>
    qz_aload_n rfl <|
    qz_new kw_6 rfl nw_SA_19 rfl fun h11 q12 =>
    qz_dup rfl <|
    qz_inviV [] rfl (cn_Module_init q12 h11) mw_Module_init vi_Module_init rfl rfl ln_SA_21 rfl fun _ h14 =>
    qz_putR (k1 := 6) kw_0 fp_SA_22_SA_init rfl rfl fun h15 =>
    qz_aload_n rfl <|
    qz_new kw_6 rfl nw_SA_19 rfl fun h16 q17 =>
    qz_dup rfl <|
    qz_inviV [] rfl (cn_Module_init q17 h16) mw_Module_init vi_Module_init rfl rfl ln_SA_21 rfl fun _ h19 =>
    qz_putR (k1 := 6) kw_0 fp_SA_26_SA_init rfl rfl fun h20 =>
    qz_aload_n rfl <|
    qz_new kw_9 rfl nw_SA_29 rfl fun h21 q22 =>
    qz_dup rfl <|
    qz_aload_n rfl <|
    qz_getR (k1 := 11) kg_0 fl_SA_10 rfl rfl <|
    qz_aload_n rfl <|
    qz_getR (k1 := 6) kg_0 fl_SA_26 rfl rfl <|
    qz_inviV [qz_r false 11 (h21 l0 4), qz_r false 6 (h21 l0 7)] rfl (cn_Reader_init q22 (h21 l0 4) (h21 l0 7) h21) mw_Reader_init vi_Reader_init rfl rfl ln_SA_31 rfl fun _ h24 =>
    qz_putR (k1 := 9) kw_0 fp_SA_34_SA_init rfl rfl fun h25 =>
    qz_aload_n rfl <|
    qz_new kw_1 rfl nw_SA_38 rfl fun h26 q27 =>
    qz_dup rfl <|
    qz_aload_n rfl <|
    qz_getR (k1 := 6) kg_0 fl_SA_26 rfl rfl <|
    qz_inviV [qz_r false 6 (h26 l0 7)] rfl (cn_Checker_init q27 (h26 l0 7) h26) mw_Checker_init vi_Checker_init rfl rfl ln_SA_40 rfl fun _ h29 =>
    qz_putR (k1 := 1) kw_0 fp_SA_43_SA_init rfl rfl fun h30 =>
    qz_aload_n rfl <|
    qz_new kw_2 rfl nw_SA_47 rfl fun h31 q32 =>
    qz_dup rfl <|
    qz_inviV [] rfl (cn_Encoder_init q32 h31) mw_Encoder_init vi_Encoder_init rfl rfl ln_SA_49 rfl fun _ h34 =>
    qz_putR (k1 := 2) kw_0 fp_SA_50_SA_init rfl rfl fun h35 =>
    qz_aload_n rfl <|
    qz_new kw_8 rfl nw_SA_54 rfl fun h36 q37 =>
    qz_dup rfl <|
    qz_aload_n rfl <|
    qz_getR (k1 := 11) kg_0 fl_SA_16 rfl rfl <|
    qz_inviV [qz_r false 11 (h36 l0 5)] rfl (cn_Printer_init q37 (h36 l0 5) h36) mw_Printer_init vi_Printer_init rfl rfl ln_SA_56 rfl fun _ h39 =>
    qz_putR (k1 := 8) kw_0 fp_SA_59_SA_init rfl rfl fun h40 =>
    qz_return ⟨rfl, rfl⟩ rfl
def fn_Text_add_27 (l0 : Int) (h : qz_H) : Option qz_R :=
  qz_ck ((0 : Int) < l0) <|
  qz_bn (qz_up h l0 1 (qz_w ((h l0 1) + 1))) fun h1 =>
  some (0, h1)
set_option maxRecDepth 20000 in
def fn_Text_add (l0 : Int) (l1 : Int) (h : qz_H) : Option qz_R :=
  if h l0 1 < 0 then
    fn_Text_add_27 l0 h
  else
    if 320 ≤ h l0 1 then
      fn_Text_add_27 l0 h
    else
      qz_ck ((h l0 0 : Int) ≠ 0) <|
      qz_ck (0 < h l0 0 ∧ (0 : Int) ≤ h l0 1 ∧ h l0 1 < h (h l0 0) (-1)) <|
      qz_bn (qz_up h (h l0 0) (h l0 1) (qz_nc l1)) fun h1 =>
      fn_Text_add_27 l0 h1
def bk_Text_add_0 : List (Instr × Nat) := [(.aload_n 0, 1), (.getfield 15, 3), (.ifCond .lt 23, 3), (.aload_n 0, 1), (.getfield 15, 3), (.sipush 320, 3), (.if_icmp .ge 13, 3), (.aload_n 0, 1), (.getfield 9, 3), (.aload_n 0, 1), (.getfield 15, 3), (.iload_n 1, 1), (.castore, 1)]
def bk_Text_add_27 : List (Instr × Nat) := [(.aload_n 0, 1), (.dup, 1), (.getfield 15, 3), (.iconst 1, 1), (.iadd, 1), (.putfield 15, 3), (.return_, 1)]
theorem ca_Text_add_0 : qz_ca yd_Text_add.2.1 0 bk_Text_add_0 := qz_cab_ok _ _ (by decide +kernel)
theorem ca_Text_add_27 : qz_ca yd_Text_add.2.1 27 bk_Text_add_27 := qz_cab_ok _ _ (by decide +kernel)
set_option maxRecDepth 20000 in
theorem jb_Text_add_27 (G : qz_G) (l0 : Int) (h : qz_H) : qz_J yd_Text_add G bk_Text_add_27 27 [qz_r true 11 l0, qz_u] [] h 0 0 (fn_Text_add_27 l0 h) := by
  unfold fn_Text_add_27 bk_Text_add_27; exact
    qz_aload_n rfl <|
    qz_dup rfl <|
    qz_getI kg_11 fl_Text_15 rfl rfl <|
    qz_iconst rfl <|
    qz_iadd <|
    qz_putI kw_11 fp_Text_15_Text_add rfl rfl fun h1 =>
    qz_return ⟨rfl, rfl⟩ rfl
set_option maxRecDepth 20000 in
theorem cn_Text_add (l0 : Int) (l1 : Int) (h : qz_H) : qz_C yd_Text_add [qz_r true 11 l0, qz_i l1] h (fn_Text_add l0 l1 h) := by
  refine qz_con (is := bk_Text_add_0) (ls := [qz_r true 11 l0, qz_i l1]) mw_Text_add.2.2.2 ca_Text_add_0 rfl rfl rfl fun G => ?_
  unfold fn_Text_add bk_Text_add_0; exact
    qz_aload_n rfl <|
    qz_getI kg_11 fl_Text_15 rfl rfl <|
    qz_if_lt rfl ca_Text_add_27
      (qz_fgt [1, 0] <| jb_Text_add_27 G l0 h)
      (qz_aload_n rfl <|
        qz_getI kg_11 fl_Text_15 rfl rfl <|
        qz_sipush rfl <|
        qz_icmp_ge rfl ca_Text_add_27
          (qz_fgt [1, 0] <| jb_Text_add_27 G l0 h)
          (qz_aload_n rfl <|
            qz_getR (k1 := 42) kg_11 fl_Text_9 rfl rfl <|
            qz_aload_n rfl <|
            qz_getI kg_11 fl_Text_15 rfl rfl <|
            qz_iload_n rfl <|
            qz_nnd 2 rfl <|
            qz_cast rfl rfl rfl fun h1 =>
            qz_fall rfl ca_Text_add_27 <|
            qz_fgt [1, 0] <| jb_Text_add_27 G l0 h1))
def fn_Text_addBytes_115 (k87 : Int → Int → Int → qz_H → Option qz_R) (l0 : Int) (l1 : Int) (l4 : Int) (h : qz_H) : Option qz_R :=
  qz_bn (qz_w (l4 + (-8))) fun x1 =>
  k87 l0 l1 x1 h
def fn_Text_addBytes_87_b (k87 : Int → Int → Int → qz_H → Option qz_R) (l0 : Int) (l1 : Int) (l4 : Int) (h : qz_H) : Option qz_R :=
  if l4 < 0 then
    qz_ck ((1 : Int) = 0 ∨ (1 : Int) = 1) (some (1, h))
  else
    qz_bn (qz_and (qz_w (qz_ushJ l1 l4)) 255 : Int) fun x1 =>
    if x1 = 0 then
      fn_Text_addBytes_115 k87 l0 l1 l4 h
    else
      qz_bc (fn_Text_add l0 (qz_i2c x1) h) fun _ h3 =>
      fn_Text_addBytes_115 k87 l0 l1 l4 h3
def fn_Text_addBytes_87 : Nat → Int → Int → Int → qz_H → Option qz_R
  | 0, _, _, _, _ => none
  | n + 1, l0, l1, l4, h => fn_Text_addBytes_87_b (fn_Text_addBytes_87 n) l0 l1 l4 h
def fn_Text_addBytes_61 (k6 : Int → Int → Int → Int → qz_H → Option qz_R) (l0 : Int) (l1 : Int) (l4 : Int) (s0 : Int) (s1 : Int) (h : qz_H) : Option qz_R :=
  qz_bn (qz_w (s0 + s1) : Int) fun x1 =>
  qz_bn (qz_w (l4 + (-8))) fun x2 =>
  k6 l0 l1 x1 x2 h
def fn_Text_addBytes_50 (k6 : Int → Int → Int → Int → qz_H → Option qz_R) (l0 : Int) (l1 : Int) (l3 : Int) (l4 : Int) (l5 : Int) (h : qz_H) : Option qz_R :=
  if ¬ l5 = 0 then
    fn_Text_addBytes_61 k6 l0 l1 l4 l3 1 h
  else
    fn_Text_addBytes_61 k6 l0 l1 l4 l3 0 h
def fn_Text_addBytes_48 (h : qz_H) : Option qz_R :=
  qz_ck ((0 : Int) = 0 ∨ (0 : Int) = 1) (some (0, h))
def fn_Text_addBytes_6_b (k6 : Int → Int → Int → Int → qz_H → Option qz_R) (l0 : Int) (l1 : Int) (l3 : Int) (l4 : Int) (h : qz_H) : Option qz_R :=
  if l4 < 0 then
    if qz_w ((h l0 1) + l3) ≤ 320 then
      qz_bn (56 : Int) fun x1 =>
      fn_Text_addBytes_87 qz_NF l0 l1 x1 h
    else
      qz_ck ((0 : Int) = 0 ∨ (0 : Int) = 1) (some (0, h))
  else
    qz_bn (qz_and (qz_w (qz_ushJ l1 l4)) 255 : Int) fun x2 =>
    if x2 = 0 then
      fn_Text_addBytes_50 k6 l0 l1 l3 l4 x2 h
    else
      if x2 = 10 then
        fn_Text_addBytes_50 k6 l0 l1 l3 l4 x2 h
      else
        if x2 < 32 then
          fn_Text_addBytes_48 h
        else
          if x2 ≤ 126 then
            fn_Text_addBytes_50 k6 l0 l1 l3 l4 x2 h
          else
            fn_Text_addBytes_48 h
def fn_Text_addBytes_6 : Nat → Int → Int → Int → Int → qz_H → Option qz_R
  | 0, _, _, _, _, _ => none
  | n + 1, l0, l1, l3, l4, h => fn_Text_addBytes_6_b (fn_Text_addBytes_6 n) l0 l1 l3 l4 h
set_option maxRecDepth 20000 in
def fn_Text_addBytes (l0 : Int) (l1 : Int) (h : qz_H) : Option qz_R :=
  qz_bn (0 : Int) fun x1 =>
  qz_bn (56 : Int) fun x2 =>
  fn_Text_addBytes_6 qz_NF l0 l1 x1 x2 h
def bk_Text_addBytes_0 : List (Instr × Nat) := [(.iconst 0, 1), (.istore_n 3, 1), (.bipush 56, 2), (.istore 4, 2)]
def bk_Text_addBytes_6 : List (Instr × Nat) := [(.iload 4, 2), (.ifCond .lt 61, 3), (.lload_n 1, 1), (.iload 4, 2), (.lushr, 1), (.l2i, 1), (.sipush 255, 3), (.iand, 1), (.istore 5, 2), (.iload 5, 2), (.ifCond .eq 26, 3), (.iload 5, 2), (.bipush 10, 2), (.if_icmp .eq 19, 3), (.iload 5, 2), (.bipush 32, 2), (.if_icmp .lt 10, 3), (.iload 5, 2), (.bipush 126, 2), (.if_icmp .le 5, 3)]
def bk_Text_addBytes_69 : List (Instr × Nat) := [(.aload_n 0, 1), (.getfield 15, 3), (.iload_n 3, 1), (.iadd, 1), (.sipush 320, 3), (.if_icmp .le 5, 3), (.iconst 0, 1), (.ireturn, 1)]
def bk_Text_addBytes_83 : List (Instr × Nat) := [(.bipush 56, 2), (.istore 4, 2)]
def bk_Text_addBytes_87 : List (Instr × Nat) := [(.iload 4, 2), (.ifCond .lt 32, 3), (.lload_n 1, 1), (.iload 4, 2), (.lushr, 1), (.l2i, 1), (.sipush 255, 3), (.iand, 1), (.istore 5, 2), (.iload 5, 2), (.ifCond .eq 10, 3), (.aload_n 0, 1), (.iload 5, 2), (.i2c, 1), (.invokevirtual 28, 3)]
def bk_Text_addBytes_50 : List (Instr × Nat) := [(.iload_n 3, 1), (.iload 5, 2), (.ifCond .ne 7, 3), (.iconst 0, 1), (.goto 4, 3)]
def bk_Text_addBytes_48 : List (Instr × Nat) := [(.iconst 0, 1), (.ireturn, 1)]
def bk_Text_addBytes_121 : List (Instr × Nat) := [(.iconst 1, 1), (.ireturn, 1)]
def bk_Text_addBytes_115 : List (Instr × Nat) := [(.iinc 4 (-8), 3), (.goto (-31), 3)]
def bk_Text_addBytes_60 : List (Instr × Nat) := [(.iconst 1, 1)]
def bk_Text_addBytes_61 : List (Instr × Nat) := [(.iadd, 1), (.istore_n 3, 1), (.iinc 4 (-8), 3), (.goto (-60), 3)]
theorem ca_Text_addBytes_0 : qz_ca yd_Text_addBytes.2.1 0 bk_Text_addBytes_0 := qz_cab_ok _ _ (by decide +kernel)
theorem ca_Text_addBytes_6 : qz_ca yd_Text_addBytes.2.1 6 bk_Text_addBytes_6 := qz_cab_ok _ _ (by decide +kernel)
theorem ca_Text_addBytes_69 : qz_ca yd_Text_addBytes.2.1 69 bk_Text_addBytes_69 := qz_cab_ok _ _ (by decide +kernel)
theorem ca_Text_addBytes_83 : qz_ca yd_Text_addBytes.2.1 83 bk_Text_addBytes_83 := qz_cab_ok _ _ (by decide +kernel)
theorem ca_Text_addBytes_87 : qz_ca yd_Text_addBytes.2.1 87 bk_Text_addBytes_87 := qz_cab_ok _ _ (by decide +kernel)
theorem ca_Text_addBytes_50 : qz_ca yd_Text_addBytes.2.1 50 bk_Text_addBytes_50 := qz_cab_ok _ _ (by decide +kernel)
theorem ca_Text_addBytes_48 : qz_ca yd_Text_addBytes.2.1 48 bk_Text_addBytes_48 := qz_cab_ok _ _ (by decide +kernel)
theorem ca_Text_addBytes_121 : qz_ca yd_Text_addBytes.2.1 121 bk_Text_addBytes_121 := qz_cab_ok _ _ (by decide +kernel)
theorem ca_Text_addBytes_115 : qz_ca yd_Text_addBytes.2.1 115 bk_Text_addBytes_115 := qz_cab_ok _ _ (by decide +kernel)
theorem ca_Text_addBytes_60 : qz_ca yd_Text_addBytes.2.1 60 bk_Text_addBytes_60 := qz_cab_ok _ _ (by decide +kernel)
theorem ca_Text_addBytes_61 : qz_ca yd_Text_addBytes.2.1 61 bk_Text_addBytes_61 := qz_cab_ok _ _ (by decide +kernel)
set_option maxRecDepth 20000 in
theorem jb_Text_addBytes_115 (G : qz_G) (k87 : Int → Int → Int → qz_H → Option qz_R) (jk87 : ∀ (l0 : Int) (l1 : Int) (l4 : Int) (h : qz_H), qz_J yd_Text_addBytes G bk_Text_addBytes_87 87 [qz_r true 11 l0, qz_j l1, qz_u, qz_u, qz_i l4, qz_u] [] h 0 0 (k87 l0 l1 l4 h)) (l0 : Int) (l1 : Int) (l4 : Int) (h : qz_H) : qz_J yd_Text_addBytes G bk_Text_addBytes_115 115 [qz_r true 11 l0, qz_j l1, qz_u, qz_u, qz_i l4, qz_u] [] h 0 0 (fn_Text_addBytes_115 k87 l0 l1 l4 h) := by
  unfold fn_Text_addBytes_115 bk_Text_addBytes_115; exact
    qz_iinc rfl (by decide) fun x1 =>
    qz_goto rfl ca_Text_addBytes_87 <|
    qz_fgt [1, 1, 0, 0, 1, 0] <| jk87 l0 l1 x1 h
set_option maxRecDepth 20000 in
theorem jb_Text_addBytes_87_b (G : qz_G) (k87 : Int → Int → Int → qz_H → Option qz_R) (jk87 : ∀ (l0 : Int) (l1 : Int) (l4 : Int) (h : qz_H), qz_J yd_Text_addBytes G bk_Text_addBytes_87 87 [qz_r true 11 l0, qz_j l1, qz_u, qz_u, qz_i l4, qz_u] [] h 0 0 (k87 l0 l1 l4 h)) (l0 : Int) (l1 : Int) (l4 : Int) (h : qz_H) : qz_J yd_Text_addBytes G bk_Text_addBytes_87 87 [qz_r true 11 l0, qz_j l1, qz_u, qz_u, qz_i l4, qz_u] [] h 0 0 (fn_Text_addBytes_87_b k87 l0 l1 l4 h) := by
  unfold fn_Text_addBytes_87_b bk_Text_addBytes_87; exact
    qz_iload rfl <|
    qz_if_lt rfl ca_Text_addBytes_121
      (qz_iconst rfl <|
        qz_zreturn ⟨rfl, rfl⟩ rfl)
      (qz_lload_n rfl <|
        qz_iload rfl <|
        qz_lushr <|
        qz_l2i <|
        qz_sipush rfl <|
        qz_iand <|
        qz_istore (by decide) fun x1 =>
        qz_iload rfl <|
        qz_if_eq rfl ca_Text_addBytes_115
          (qz_fgt [1, 1, 0, 0, 1, 0] <| jb_Text_addBytes_115 G k87 jk87 l0 l1 l4 h)
          (qz_aload_n rfl <|
            qz_iload rfl <|
            qz_ins_i2c <|
            qz_invvV [qz_i (qz_i2c x1)] rfl (cn_Text_add l0 (qz_i2c x1) h) mw_Text_add vw_Text_add ⟨_, rfl, rfl, by decide⟩ rfl rfl ln_Text_28 rfl fun _ h3 =>
            qz_fall rfl ca_Text_addBytes_115 <|
            qz_fgt [1, 1, 0, 0, 1, 0] <| jb_Text_addBytes_115 G k87 jk87 l0 l1 l4 h3))
theorem jb_Text_addBytes_87 (G : qz_G) : ∀ (n : Nat) (l0 l1 l4 : Int) (h : qz_H), qz_J yd_Text_addBytes G bk_Text_addBytes_87 87 [qz_r true 11 l0, qz_j l1, qz_u, qz_u, qz_i l4, qz_u] [] h 0 0 (fn_Text_addBytes_87 n l0 l1 l4 h)
  | 0, _, _, _, _ => qz_none
  | n + 1, l0, l1, l4, h => jb_Text_addBytes_87_b G (fn_Text_addBytes_87 n) (jb_Text_addBytes_87 G n) l0 l1 l4 h
set_option maxRecDepth 20000 in
theorem jb_Text_addBytes_61 (G : qz_G) (k6 : Int → Int → Int → Int → qz_H → Option qz_R) (jk6 : ∀ (l0 : Int) (l1 : Int) (l3 : Int) (l4 : Int) (h : qz_H), qz_J yd_Text_addBytes G bk_Text_addBytes_6 6 [qz_r true 11 l0, qz_j l1, qz_u, qz_i l3, qz_i l4, qz_u] [] h 0 0 (k6 l0 l1 l3 l4 h)) (l0 : Int) (l1 : Int) (l4 : Int) (s0 : Int) (s1 : Int) (h : qz_H) : qz_J yd_Text_addBytes G bk_Text_addBytes_61 61 [qz_r true 11 l0, qz_j l1, qz_u, qz_u, qz_i l4, qz_u] [qz_i s1, qz_i s0] h 0 0 (fn_Text_addBytes_61 k6 l0 l1 l4 s0 s1 h) := by
  unfold fn_Text_addBytes_61 bk_Text_addBytes_61; exact
    qz_iadd <|
    qz_istore_n (by decide) fun x1 =>
    qz_iinc rfl (by decide) fun x2 =>
    qz_goto rfl ca_Text_addBytes_6 <|
    qz_fgt [1, 1, 0, 1, 1, 0] <| jk6 l0 l1 x1 x2 h
set_option maxRecDepth 20000 in
theorem jb_Text_addBytes_50 (G : qz_G) (k6 : Int → Int → Int → Int → qz_H → Option qz_R) (jk6 : ∀ (l0 : Int) (l1 : Int) (l3 : Int) (l4 : Int) (h : qz_H), qz_J yd_Text_addBytes G bk_Text_addBytes_6 6 [qz_r true 11 l0, qz_j l1, qz_u, qz_i l3, qz_i l4, qz_u] [] h 0 0 (k6 l0 l1 l3 l4 h)) (l0 : Int) (l1 : Int) (l3 : Int) (l4 : Int) (l5 : Int) (h : qz_H) : qz_J yd_Text_addBytes G bk_Text_addBytes_50 50 [qz_r true 11 l0, qz_j l1, qz_u, qz_i l3, qz_i l4, qz_i l5] [] h 0 0 (fn_Text_addBytes_50 k6 l0 l1 l3 l4 l5 h) := by
  unfold fn_Text_addBytes_50 bk_Text_addBytes_50; exact
    qz_iload_n rfl <|
    qz_iload rfl <|
    qz_if_ne rfl ca_Text_addBytes_60
      (qz_iconst rfl <|
        qz_fall rfl ca_Text_addBytes_61 <|
        qz_fgt [1, 1, 0, 0, 1, 0] <| jb_Text_addBytes_61 G k6 jk6 l0 l1 l4 l3 1 h)
      (qz_iconst rfl <|
        qz_goto rfl ca_Text_addBytes_61 <|
        qz_fgt [1, 1, 0, 0, 1, 0] <| jb_Text_addBytes_61 G k6 jk6 l0 l1 l4 l3 0 h)
set_option maxRecDepth 20000 in
theorem jb_Text_addBytes_48 (G : qz_G) (h : qz_H) : qz_J yd_Text_addBytes G bk_Text_addBytes_48 48 [qz_u, qz_u, qz_u, qz_u, qz_u, qz_u] [] h 0 0 (fn_Text_addBytes_48 h) := by
  unfold fn_Text_addBytes_48 bk_Text_addBytes_48; exact
    qz_iconst rfl <|
    qz_zreturn ⟨rfl, rfl⟩ rfl
set_option maxRecDepth 20000 in
theorem jb_Text_addBytes_6_b (G : qz_G) (k6 : Int → Int → Int → Int → qz_H → Option qz_R) (jk6 : ∀ (l0 : Int) (l1 : Int) (l3 : Int) (l4 : Int) (h : qz_H), qz_J yd_Text_addBytes G bk_Text_addBytes_6 6 [qz_r true 11 l0, qz_j l1, qz_u, qz_i l3, qz_i l4, qz_u] [] h 0 0 (k6 l0 l1 l3 l4 h)) (l0 : Int) (l1 : Int) (l3 : Int) (l4 : Int) (h : qz_H) : qz_J yd_Text_addBytes G bk_Text_addBytes_6 6 [qz_r true 11 l0, qz_j l1, qz_u, qz_i l3, qz_i l4, qz_u] [] h 0 0 (fn_Text_addBytes_6_b k6 l0 l1 l3 l4 h) := by
  unfold fn_Text_addBytes_6_b bk_Text_addBytes_6; exact
    qz_iload rfl <|
    qz_if_lt rfl ca_Text_addBytes_69
      (qz_aload_n rfl <|
        qz_getI kg_11 fl_Text_15 rfl rfl <|
        qz_iload_n rfl <|
        qz_iadd <|
        qz_sipush rfl <|
        qz_icmp_le rfl ca_Text_addBytes_83
          (qz_bipush rfl <|
            qz_istore (by decide) fun x1 =>
            qz_fall rfl ca_Text_addBytes_87 <|
            qz_fgt [1, 1, 0, 0, 1, 0] <| jb_Text_addBytes_87 G qz_NF l0 l1 x1 h)
          (qz_iconst rfl <|
            qz_zreturn ⟨rfl, rfl⟩ rfl))
      (qz_lload_n rfl <|
        qz_iload rfl <|
        qz_lushr <|
        qz_l2i <|
        qz_sipush rfl <|
        qz_iand <|
        qz_istore (by decide) fun x2 =>
        qz_iload rfl <|
        qz_if_eq rfl ca_Text_addBytes_50
          (qz_fgt [1, 1, 0, 1, 1, 1] <| jb_Text_addBytes_50 G k6 jk6 l0 l1 l3 l4 x2 h)
          (qz_iload rfl <|
            qz_bipush rfl <|
            qz_icmp_eq rfl ca_Text_addBytes_50
              (qz_fgt [1, 1, 0, 1, 1, 1] <| jb_Text_addBytes_50 G k6 jk6 l0 l1 l3 l4 x2 h)
              (qz_iload rfl <|
                qz_bipush rfl <|
                qz_icmp_lt rfl ca_Text_addBytes_48
                  (qz_fgt [0, 0, 0, 0, 0, 0] <| jb_Text_addBytes_48 G h)
                  (qz_iload rfl <|
                    qz_bipush rfl <|
                    qz_icmp_le rfl ca_Text_addBytes_50
                      (qz_fgt [1, 1, 0, 1, 1, 1] <| jb_Text_addBytes_50 G k6 jk6 l0 l1 l3 l4 x2 h)
                      (qz_fall rfl ca_Text_addBytes_48 <|
                        qz_fgt [0, 0, 0, 0, 0, 0] <| jb_Text_addBytes_48 G h)))))
theorem jb_Text_addBytes_6 (G : qz_G) : ∀ (n : Nat) (l0 l1 l3 l4 : Int) (h : qz_H), qz_J yd_Text_addBytes G bk_Text_addBytes_6 6 [qz_r true 11 l0, qz_j l1, qz_u, qz_i l3, qz_i l4, qz_u] [] h 0 0 (fn_Text_addBytes_6 n l0 l1 l3 l4 h)
  | 0, _, _, _, _, _ => qz_none
  | n + 1, l0, l1, l3, l4, h => jb_Text_addBytes_6_b G (fn_Text_addBytes_6 n) (jb_Text_addBytes_6 G n) l0 l1 l3 l4 h
set_option maxRecDepth 20000 in
theorem cn_Text_addBytes (l0 : Int) (l1 : Int) (h : qz_H) : qz_C yd_Text_addBytes [qz_r true 11 l0, qz_j l1] h (fn_Text_addBytes l0 l1 h) := by
  refine qz_con (is := bk_Text_addBytes_0) (ls := [qz_r true 11 l0, qz_j l1, qz_u, qz_u, qz_u, qz_u]) mw_Text_addBytes.2.2.2 ca_Text_addBytes_0 rfl rfl rfl fun G => ?_
  unfold fn_Text_addBytes bk_Text_addBytes_0; exact
    qz_iconst rfl <|
    qz_istore_n (by decide) fun x1 =>
    qz_bipush rfl <|
    qz_istore (by decide) fun x2 =>
    qz_fall rfl ca_Text_addBytes_6 <|
    qz_fgt [1, 1, 0, 1, 1, 0] <| jb_Text_addBytes_6 G qz_NF l0 l1 x1 x2 h
set_option maxRecDepth 20000 in
def fn_SA_type (l0 : Int) (l1 : Int) (h : qz_H) : Option qz_R :=
  qz_ck ((h l0 4 : Int) ≠ 0) <|
  qz_bc (fn_Text_addBytes (h l0 4) l1 h) fun r1 h2 =>
  qz_ck ((r1 : Int) = 0 ∨ (r1 : Int) = 1) (some (r1, h2))
def bk_SA_type_0 : List (Instr × Nat) := [(.aload_n 0, 1), (.getfield 10, 3), (.lload_n 1, 1), (.invokevirtual 63, 3), (.ireturn, 1)]
theorem ca_SA_type_0 : qz_ca yd_SA_type.2.1 0 bk_SA_type_0 := qz_cab_ok _ _ (by decide +kernel)
set_option maxRecDepth 20000 in
theorem cn_SA_type (l0 : Int) (l1 : Int) (h : qz_H) : qz_C yd_SA_type [qz_r true 0 l0, qz_j l1] h (fn_SA_type l0 l1 h) := by
  refine qz_con (is := bk_SA_type_0) (ls := [qz_r true 0 l0, qz_j l1, qz_u]) mw_SA_type.2.2.2 ca_SA_type_0 rfl rfl rfl fun G => ?_
  unfold fn_SA_type bk_SA_type_0; exact
    qz_aload_n rfl <|
    qz_getR (k1 := 11) kg_0 fl_SA_10 rfl rfl <|
    qz_lload_n rfl <|
    qz_nnd 1 rfl <|
    qz_invvI [qz_j l1] rfl (cn_Text_addBytes (h l0 4) l1 h) mw_Text_addBytes vw_Text_addBytes ⟨_, rfl, rfl, by decide⟩ rfl rfl ln_SA_63 rfl fun r1 h2 =>
    qz_zreturn ⟨rfl, rfl⟩ rfl
set_option maxRecDepth 20000 in
def fn_SA_wipe (l0 : Int) (h : qz_H) : Option qz_R :=
  qz_ck ((h l0 4 : Int) ≠ 0) <|
  qz_ck ((0 : Int) < h l0 4) <|
  qz_bn (qz_up h (h l0 4) 1 0) fun h1 =>
  some (0, h1)
def bk_SA_wipe_0 : List (Instr × Nat) := [(.aload_n 0, 1), (.getfield 10, 3), (.iconst 0, 1), (.putfield 67, 3), (.return_, 1)]
theorem ca_SA_wipe_0 : qz_ca yd_SA_wipe.2.1 0 bk_SA_wipe_0 := qz_cab_ok _ _ (by decide +kernel)
set_option maxRecDepth 20000 in
theorem cn_SA_wipe (l0 : Int) (h : qz_H) : qz_C yd_SA_wipe [qz_r true 0 l0] h (fn_SA_wipe l0 h) := by
  refine qz_con (is := bk_SA_wipe_0) (ls := [qz_r true 0 l0]) mw_SA_wipe.2.2.2 ca_SA_wipe_0 rfl rfl rfl fun G => ?_
  unfold fn_SA_wipe bk_SA_wipe_0; exact
    qz_aload_n rfl <|
    qz_getR (k1 := 11) kg_0 fl_SA_10 rfl rfl <|
    qz_iconst rfl <|
    qz_nnd 1 rfl <|
    qz_putI kw_11 fp_SA_67_SA_wipe rfl rfl fun h1 =>
    qz_return ⟨rfl, rfl⟩ rfl
def fn_Text_at_29 (s0 : Int) (h : qz_H) : Option qz_R :=
  qz_ck ((0 : Int) ≤ s0 ∧ (s0 : Int) ≤ 65535) (some (s0, h))
def fn_Text_at_28 (h : qz_H) : Option qz_R :=
  fn_Text_at_29 0 h
set_option maxRecDepth 20000 in
def fn_Text_at (l0 : Int) (l1 : Int) (h : qz_H) : Option qz_R :=
  if l1 < 0 then
    fn_Text_at_28 h
  else
    if h l0 1 ≤ l1 then
      fn_Text_at_28 h
    else
      if 320 ≤ l1 then
        fn_Text_at_28 h
      else
        qz_ck ((h l0 0 : Int) ≠ 0) <|
        qz_ck ((0 : Int) ≤ l1 ∧ l1 < h (h l0 0) (-1)) <|
        fn_Text_at_29 (h (h l0 0) l1) h
def bk_Text_at_0 : List (Instr × Nat) := [(.iload_n 1, 1), (.ifCond .lt 27, 3), (.iload_n 1, 1), (.aload_n 0, 1), (.getfield 15, 3), (.if_icmp .ge 19, 3), (.iload_n 1, 1), (.sipush 320, 3), (.if_icmp .ge 12, 3), (.aload_n 0, 1), (.getfield 9, 3), (.iload_n 1, 1), (.caload, 1), (.goto 4, 3)]
def bk_Text_at_28 : List (Instr × Nat) := [(.iconst 0, 1)]
def bk_Text_at_29 : List (Instr × Nat) := [(.ireturn, 1)]
theorem ca_Text_at_0 : qz_ca yd_Text_at.2.1 0 bk_Text_at_0 := qz_cab_ok _ _ (by decide +kernel)
theorem ca_Text_at_28 : qz_ca yd_Text_at.2.1 28 bk_Text_at_28 := qz_cab_ok _ _ (by decide +kernel)
theorem ca_Text_at_29 : qz_ca yd_Text_at.2.1 29 bk_Text_at_29 := qz_cab_ok _ _ (by decide +kernel)
set_option maxRecDepth 20000 in
theorem jb_Text_at_29 (G : qz_G) (s0 : Int) (h : qz_H) : qz_J yd_Text_at G bk_Text_at_29 29 [qz_u, qz_u] [qz_i s0] h 0 0 (fn_Text_at_29 s0 h) := by
  unfold fn_Text_at_29 bk_Text_at_29; exact
    qz_creturn ⟨rfl, rfl⟩ rfl
set_option maxRecDepth 20000 in
theorem jb_Text_at_28 (G : qz_G) (h : qz_H) : qz_J yd_Text_at G bk_Text_at_28 28 [qz_u, qz_u] [] h 0 0 (fn_Text_at_28 h) := by
  unfold fn_Text_at_28 bk_Text_at_28; exact
    qz_iconst rfl <|
    qz_fall rfl ca_Text_at_29 <|
    qz_fgt [0, 0] <| jb_Text_at_29 G 0 h
set_option maxRecDepth 20000 in
theorem cn_Text_at (l0 : Int) (l1 : Int) (h : qz_H) : qz_C yd_Text_at [qz_r true 11 l0, qz_i l1] h (fn_Text_at l0 l1 h) := by
  refine qz_con (is := bk_Text_at_0) (ls := [qz_r true 11 l0, qz_i l1]) mw_Text_at.2.2.2 ca_Text_at_0 rfl rfl rfl fun G => ?_
  unfold fn_Text_at bk_Text_at_0; exact
    qz_iload_n rfl <|
    qz_if_lt rfl ca_Text_at_28
      (qz_fgt [0, 0] <| jb_Text_at_28 G h)
      (qz_iload_n rfl <|
        qz_aload_n rfl <|
        qz_getI kg_11 fl_Text_15 rfl rfl <|
        qz_icmp_ge rfl ca_Text_at_28
          (qz_fgt [0, 0] <| jb_Text_at_28 G h)
          (qz_iload_n rfl <|
            qz_sipush rfl <|
            qz_icmp_ge rfl ca_Text_at_28
              (qz_fgt [0, 0] <| jb_Text_at_28 G h)
              (qz_aload_n rfl <|
                qz_getR (k1 := 42) kg_11 fl_Text_9 rfl rfl <|
                qz_iload_n rfl <|
                qz_nnd 1 rfl <|
                qz_cald (k0 := 42) rfl rfl rfl <|
                qz_goto rfl ca_Text_at_29 <|
                qz_fgt [0, 0] <| jb_Text_at_29 G (h (h l0 0) l1) h)))
set_option maxRecDepth 20000 in
def fn_SA_character (l0 : Int) (l1 : Int) (h : qz_H) : Option qz_R :=
  qz_ck ((h l0 4 : Int) ≠ 0) <|
  qz_bc (fn_Text_at (h l0 4) l1 h) fun r1 h2 =>
  qz_ck ((0 : Int) ≤ r1 ∧ (r1 : Int) ≤ 65535) (some (r1, h2))
def bk_SA_character_0 : List (Instr × Nat) := [(.aload_n 0, 1), (.getfield 10, 3), (.iload_n 1, 1), (.invokevirtual 71, 3), (.ireturn, 1)]
theorem ca_SA_character_0 : qz_ca yd_SA_character.2.1 0 bk_SA_character_0 := qz_cab_ok _ _ (by decide +kernel)
set_option maxRecDepth 20000 in
theorem cn_SA_character (l0 : Int) (l1 : Int) (h : qz_H) : qz_C yd_SA_character [qz_r true 0 l0, qz_i l1] h (fn_SA_character l0 l1 h) := by
  refine qz_con (is := bk_SA_character_0) (ls := [qz_r true 0 l0, qz_i l1]) mw_SA_character.2.2.2 ca_SA_character_0 rfl rfl rfl fun G => ?_
  unfold fn_SA_character bk_SA_character_0; exact
    qz_aload_n rfl <|
    qz_getR (k1 := 11) kg_0 fl_SA_10 rfl rfl <|
    qz_iload_n rfl <|
    qz_nnd 1 rfl <|
    qz_invvI [qz_i l1] rfl (cn_Text_at (h l0 4) l1 h) mw_Text_at vw_Text_at ⟨_, rfl, rfl, by decide⟩ rfl rfl ln_SA_71 rfl fun r1 h2 =>
    qz_creturn ⟨rfl, rfl⟩ rfl
set_option maxRecDepth 20000 in
def fn_Scanner_begin (l0 : Int) (l1 : Int) (h : qz_H) : Option qz_R :=
  qz_ck ((0 : Int) < l0) <|
  qz_bn (qz_up h l0 0 l1) fun h1 =>
  qz_ck ((0 : Int) < l0) <|
  qz_bn (qz_up h1 l0 1 3) fun h2 =>
  qz_ck ((0 : Int) < l0) <|
  qz_bn (qz_up h2 l0 2 0) fun h3 =>
  qz_ck ((0 : Int) < l0) <|
  qz_bn (qz_up h3 l0 3 0) fun h4 =>
  some (0, h4)
def bk_Scanner_begin_0 : List (Instr × Nat) := [(.aload_n 0, 1), (.aload_n 1, 1), (.putfield 9, 3), (.aload_n 0, 1), (.iconst 3, 1), (.putfield 15, 3), (.aload_n 0, 1), (.iconst 0, 1), (.putfield 19, 3), (.aload_n 0, 1), (.iconst 0, 1), (.putfield 22, 3), (.return_, 1)]
theorem ca_Scanner_begin_0 : qz_ca yd_Scanner_begin.2.1 0 bk_Scanner_begin_0 := qz_cab_ok _ _ (by decide +kernel)
set_option maxRecDepth 20000 in
theorem cn_Scanner_begin (l0 : Int) (l1 : Int) (h : qz_H) : qz_C yd_Scanner_begin [qz_r true 10 l0, qz_r false 11 l1] h (fn_Scanner_begin l0 l1 h) := by
  refine qz_con (is := bk_Scanner_begin_0) (ls := [qz_r true 10 l0, qz_r false 11 l1]) mw_Scanner_begin.2.2.2 ca_Scanner_begin_0 rfl rfl rfl fun G => ?_
  unfold fn_Scanner_begin bk_Scanner_begin_0; exact
    qz_aload_n rfl <|
    qz_aload_n rfl <|
    qz_putR (k1 := 11) kw_10 fp_Scanner_9_Scanner_begin rfl rfl fun h1 =>
    qz_aload_n rfl <|
    qz_iconst rfl <|
    qz_putI kw_10 fp_Scanner_15_Scanner_begin rfl rfl fun h2 =>
    qz_aload_n rfl <|
    qz_iconst rfl <|
    qz_putI kw_10 fp_Scanner_19_Scanner_begin rfl rfl fun h3 =>
    qz_aload_n rfl <|
    qz_iconst rfl <|
    qz_putI kw_10 fp_Scanner_22_Scanner_begin rfl rfl fun h4 =>
    qz_return ⟨rfl, rfl⟩ rfl
set_option maxRecDepth 20000 in
def fn_Module_clear (l0 : Int) (h : qz_H) : Option qz_R :=
  qz_ck ((0 : Int) < l0) <|
  qz_bn (qz_up h l0 3 0) fun h1 =>
  qz_ck ((0 : Int) < l0) <|
  qz_bn (qz_up h1 l0 4 0) fun h2 =>
  some (0, h2)
def bk_Module_clear_0 : List (Instr × Nat) := [(.aload_n 0, 1), (.iconst 0, 1), (.putfield 32, 3), (.aload_n 0, 1), (.iconst 0, 1), (.putfield 36, 3), (.return_, 1)]
theorem ca_Module_clear_0 : qz_ca yd_Module_clear.2.1 0 bk_Module_clear_0 := qz_cab_ok _ _ (by decide +kernel)
set_option maxRecDepth 20000 in
theorem cn_Module_clear (l0 : Int) (h : qz_H) : qz_C yd_Module_clear [qz_r true 6 l0] h (fn_Module_clear l0 h) := by
  refine qz_con (is := bk_Module_clear_0) (ls := [qz_r true 6 l0]) mw_Module_clear.2.2.2 ca_Module_clear_0 rfl rfl rfl fun G => ?_
  unfold fn_Module_clear bk_Module_clear_0; exact
    qz_aload_n rfl <|
    qz_iconst rfl <|
    qz_putI kw_6 fp_Module_32_Module_clear rfl rfl fun h1 =>
    qz_aload_n rfl <|
    qz_iconst rfl <|
    qz_putI kw_6 fp_Module_36_Module_clear rfl rfl fun h2 =>
    qz_return ⟨rfl, rfl⟩ rfl
set_option maxRecDepth 20000 in
def fn_Level_begin (l0 : Int) (l1 : Int) (h : qz_H) : Option qz_R :=
  qz_ck ((0 : Int) < l0) <|
  qz_bn (qz_up h l0 0 l1) fun h1 =>
  qz_ck ((0 : Int) < l0) <|
  qz_bn (qz_up h1 l0 1 0) fun h2 =>
  qz_ck ((0 : Int) < l0) <|
  qz_bn (qz_up h2 l0 2 (-1)) fun h3 =>
  qz_ck ((0 : Int) < l0) <|
  qz_bn (qz_up h3 l0 3 (-2)) fun h4 =>
  qz_ck ((0 : Int) < l0) <|
  qz_bn (qz_up h4 l0 4 0) fun h5 =>
  some (0, h5)
def bk_Level_begin_0 : List (Instr × Nat) := [(.aload_n 0, 1), (.iload_n 1, 1), (.putfield 18, 3), (.aload_n 0, 1), (.iconst 0, 1), (.putfield 22, 3), (.aload_n 0, 1), (.iconst (-1), 1), (.putfield 27, 3), (.aload_n 0, 1), (.getstatic 7, 3), (.putfield 13, 3), (.aload_n 0, 1), (.lconst 0, 1), (.putfield 30, 3), (.return_, 1)]
theorem ca_Level_begin_0 : qz_ca yd_Level_begin.2.1 0 bk_Level_begin_0 := qz_cab_ok _ _ (by decide +kernel)
set_option maxRecDepth 20000 in
theorem cn_Level_begin (l0 : Int) (l1 : Int) (h : qz_H) : qz_C yd_Level_begin [qz_r true 5 l0, qz_i l1] h (fn_Level_begin l0 l1 h) := by
  refine qz_con (is := bk_Level_begin_0) (ls := [qz_r true 5 l0, qz_i l1]) mw_Level_begin.2.2.2 ca_Level_begin_0 rfl rfl rfl fun G => ?_
  unfold fn_Level_begin bk_Level_begin_0; exact
    qz_aload_n rfl <|
    qz_iload_n rfl <|
    qz_putI kw_5 fp_Level_18_Level_begin rfl rfl fun h1 =>
    qz_aload_n rfl <|
    qz_iconst rfl <|
    qz_putI kw_5 fp_Level_22_Level_begin rfl rfl fun h2 =>
    qz_aload_n rfl <|
    qz_iconst rfl <|
    qz_putI kw_5 fp_Level_27_Level_begin rfl rfl fun h3 =>
    qz_aload_n rfl <|
    qz_getsR sz_Op_NOP sl_Level_7 rfl <|
    qz_putR (k1 := 7) kw_5 fp_Level_13_Level_begin rfl rfl fun h4 =>
    qz_aload_n rfl <|
    qz_lconst rfl <|
    qz_putJ kw_5 fp_Level_30_Level_begin rfl rfl fun h5 =>
    qz_return ⟨rfl, rfl⟩ rfl
def fn_Scanner_behindLine_32 (l2 : Int) (h : qz_H) : Option qz_R :=
  some (l2, h)
def fn_Scanner_behindLine_2_b (k2 : Int → Int → qz_H → Option qz_R) (l0 : Int) (l2 : Int) (h : qz_H) : Option qz_R :=
  qz_ck ((h l0 0 : Int) ≠ 0) <|
  if h (h l0 0) 1 ≤ l2 then
    fn_Scanner_behindLine_32 l2 h
  else
    qz_ck ((h l0 0 : Int) ≠ 0) <|
    qz_bc (fn_Text_at (h l0 0) l2 h) fun r1 h2 =>
    if r1 = 10 then
      fn_Scanner_behindLine_32 l2 h2
    else
      qz_bn (qz_w (l2 + 1)) fun x3 =>
      k2 l0 x3 h2
def fn_Scanner_behindLine_2 : Nat → Int → Int → qz_H → Option qz_R
  | 0, _, _, _ => none
  | n + 1, l0, l2, h => fn_Scanner_behindLine_2_b (fn_Scanner_behindLine_2 n) l0 l2 h
set_option maxRecDepth 20000 in
def fn_Scanner_behindLine (l0 : Int) (l1 : Int) (h : qz_H) : Option qz_R :=
  qz_bn (l1 : Int) fun x1 =>
  fn_Scanner_behindLine_2 qz_NF l0 x1 h
def bk_Scanner_behindLine_0 : List (Instr × Nat) := [(.iload_n 1, 1), (.istore_n 2, 1)]
def bk_Scanner_behindLine_2 : List (Instr × Nat) := [(.iload_n 2, 1), (.aload_n 0, 1), (.getfield 9, 3), (.getfield 35, 3), (.if_icmp .ge 22, 3), (.aload_n 0, 1), (.getfield 9, 3), (.iload_n 2, 1), (.invokevirtual 29, 3), (.bipush 10, 2), (.if_icmp .eq 9, 3), (.iinc 2 1, 3), (.goto (-27), 3)]
def bk_Scanner_behindLine_32 : List (Instr × Nat) := [(.iload_n 2, 1), (.ireturn, 1)]
theorem ca_Scanner_behindLine_0 : qz_ca yd_Scanner_behindLine.2.1 0 bk_Scanner_behindLine_0 := qz_cab_ok _ _ (by decide +kernel)
theorem ca_Scanner_behindLine_2 : qz_ca yd_Scanner_behindLine.2.1 2 bk_Scanner_behindLine_2 := qz_cab_ok _ _ (by decide +kernel)
theorem ca_Scanner_behindLine_32 : qz_ca yd_Scanner_behindLine.2.1 32 bk_Scanner_behindLine_32 := qz_cab_ok _ _ (by decide +kernel)
set_option maxRecDepth 20000 in
theorem jb_Scanner_behindLine_32 (G : qz_G) (l2 : Int) (h : qz_H) : qz_J yd_Scanner_behindLine G bk_Scanner_behindLine_32 32 [qz_u, qz_u, qz_i l2] [] h 0 0 (fn_Scanner_behindLine_32 l2 h) := by
  unfold fn_Scanner_behindLine_32 bk_Scanner_behindLine_32; exact
    qz_iload_n rfl <|
    qz_ireturn ⟨rfl, rfl⟩ rfl
set_option maxRecDepth 20000 in
theorem jb_Scanner_behindLine_2_b (G : qz_G) (k2 : Int → Int → qz_H → Option qz_R) (jk2 : ∀ (l0 : Int) (l2 : Int) (h : qz_H), qz_J yd_Scanner_behindLine G bk_Scanner_behindLine_2 2 [qz_r true 10 l0, qz_u, qz_i l2] [] h 0 0 (k2 l0 l2 h)) (l0 : Int) (l2 : Int) (h : qz_H) : qz_J yd_Scanner_behindLine G bk_Scanner_behindLine_2 2 [qz_r true 10 l0, qz_u, qz_i l2] [] h 0 0 (fn_Scanner_behindLine_2_b k2 l0 l2 h) := by
  unfold fn_Scanner_behindLine_2_b bk_Scanner_behindLine_2; exact
    qz_iload_n rfl <|
    qz_aload_n rfl <|
    qz_getR (k1 := 11) kg_10 fl_Scanner_9 rfl rfl <|
    qz_nnd 0 rfl <|
    qz_getI kg_11 fl_Scanner_35 rfl rfl <|
    qz_icmp_ge rfl ca_Scanner_behindLine_32
      (qz_fgt [0, 0, 1] <| jb_Scanner_behindLine_32 G l2 h)
      (qz_aload_n rfl <|
        qz_getR (k1 := 11) kg_10 fl_Scanner_9 rfl rfl <|
        qz_iload_n rfl <|
        qz_nnd 1 rfl <|
        qz_invvI [qz_i l2] rfl (cn_Text_at (h l0 0) l2 h) mw_Text_at vw_Text_at ⟨_, rfl, rfl, by decide⟩ rfl rfl ln_Scanner_29 rfl fun r1 h2 =>
        qz_bipush rfl <|
        qz_icmp_eq rfl ca_Scanner_behindLine_32
          (qz_fgt [0, 0, 1] <| jb_Scanner_behindLine_32 G l2 h2)
          (qz_iinc rfl (by decide) fun x3 =>
            qz_goto rfl ca_Scanner_behindLine_2 <|
            qz_fgt [1, 0, 1] <| jk2 l0 x3 h2))
theorem jb_Scanner_behindLine_2 (G : qz_G) : ∀ (n : Nat) (l0 l2 : Int) (h : qz_H), qz_J yd_Scanner_behindLine G bk_Scanner_behindLine_2 2 [qz_r true 10 l0, qz_u, qz_i l2] [] h 0 0 (fn_Scanner_behindLine_2 n l0 l2 h)
  | 0, _, _, _ => qz_none
  | n + 1, l0, l2, h => jb_Scanner_behindLine_2_b G (fn_Scanner_behindLine_2 n) (jb_Scanner_behindLine_2 G n) l0 l2 h
set_option maxRecDepth 20000 in
theorem cn_Scanner_behindLine (l0 : Int) (l1 : Int) (h : qz_H) : qz_C yd_Scanner_behindLine [qz_r true 10 l0, qz_i l1] h (fn_Scanner_behindLine l0 l1 h) := by
  refine qz_con (is := bk_Scanner_behindLine_0) (ls := [qz_r true 10 l0, qz_i l1, qz_u]) mw_Scanner_behindLine.2.2.2 ca_Scanner_behindLine_0 rfl rfl rfl fun G => ?_
  unfold fn_Scanner_behindLine bk_Scanner_behindLine_0; exact
    qz_iload_n rfl <|
    qz_istore_n (by decide) fun x1 =>
    qz_fall rfl ca_Scanner_behindLine_2 <|
    qz_fgt [1, 0, 1] <| jb_Scanner_behindLine_2 G qz_NF l0 x1 h
def fn_Scanner_behindComment_80 (k4 : Int → Int → Int → Int → qz_H → Option qz_R) (l0 : Int) (l1 : Int) (l2 : Int) (l3 : Int) (h : qz_H) : Option qz_R :=
  if ¬ l2 = 0 then
    qz_bn (qz_w (l3 + 1)) fun x1 =>
    k4 l0 l1 l2 x1 h
  else
    some (qz_w (l3 + 1), h)
def fn_Scanner_behindComment_60 (k4 : Int → Int → Int → Int → qz_H → Option qz_R) (l0 : Int) (l1 : Int) (l2 : Int) (l3 : Int) (l4 : Int) (l5 : Int) (h : qz_H) : Option qz_R :=
  if ¬ l4 = 59 then
    fn_Scanner_behindComment_80 k4 l0 l1 l2 l3 h
  else
    if ¬ l5 = 41 then
      fn_Scanner_behindComment_80 k4 l0 l1 l2 l3 h
    else
      qz_bn (qz_w (l2 + (-1))) fun x1 =>
      qz_bn (qz_w (l3 + 1)) fun x2 =>
      fn_Scanner_behindComment_80 k4 l0 l1 x1 x2 h
def fn_Scanner_behindComment_4_b (k4 : Int → Int → Int → Int → qz_H → Option qz_R) (l0 : Int) (l1 : Int) (l2 : Int) (l3 : Int) (h : qz_H) : Option qz_R :=
  qz_ck ((h l0 0 : Int) ≠ 0) <|
  if h (h l0 0) 1 ≤ l3 then
    some (l1, h)
  else
    qz_ck ((h l0 0 : Int) ≠ 0) <|
    qz_bc (fn_Text_at (h l0 0) l3 h) fun r1 h2 =>
    qz_bn (r1 : Int) fun x3 =>
    qz_ck ((h2 l0 0 : Int) ≠ 0) <|
    qz_bc (fn_Text_at (h2 l0 0) (qz_w (l3 + 1)) h2) fun r4 h5 =>
    qz_bn (r4 : Int) fun x6 =>
    if ¬ x3 = 40 then
      fn_Scanner_behindComment_60 k4 l0 l1 l2 l3 x3 x6 h5
    else
      if ¬ x6 = 59 then
        fn_Scanner_behindComment_60 k4 l0 l1 l2 l3 x3 x6 h5
      else
        qz_bn (qz_w (l2 + 1)) fun x7 =>
        qz_bn (qz_w (l3 + 1)) fun x8 =>
        fn_Scanner_behindComment_80 k4 l0 l1 x7 x8 h5
def fn_Scanner_behindComment_4 : Nat → Int → Int → Int → Int → qz_H → Option qz_R
  | 0, _, _, _, _, _ => none
  | n + 1, l0, l1, l2, l3, h => fn_Scanner_behindComment_4_b (fn_Scanner_behindComment_4 n) l0 l1 l2 l3 h
set_option maxRecDepth 20000 in
def fn_Scanner_behindComment (l0 : Int) (l1 : Int) (h : qz_H) : Option qz_R :=
  qz_bn (0 : Int) fun x1 =>
  qz_bn (l1 : Int) fun x2 =>
  fn_Scanner_behindComment_4 qz_NF l0 l1 x1 x2 h
def bk_Scanner_behindComment_0 : List (Instr × Nat) := [(.iconst 0, 1), (.istore_n 2, 1), (.iload_n 1, 1), (.istore_n 3, 1)]
def bk_Scanner_behindComment_4 : List (Instr × Nat) := [(.iload_n 3, 1), (.aload_n 0, 1), (.getfield 9, 3), (.getfield 35, 3), (.if_icmp .ge 82, 3), (.aload_n 0, 1), (.getfield 9, 3), (.iload_n 3, 1), (.invokevirtual 29, 3), (.istore 4, 2), (.aload_n 0, 1), (.getfield 9, 3), (.iload_n 3, 1), (.iconst 1, 1), (.iadd, 1), (.invokevirtual 29, 3), (.istore 5, 2), (.iload 4, 2), (.bipush 40, 2), (.if_icmp .ne 19, 3), (.iload 5, 2), (.bipush 59, 2), (.if_icmp .ne 12, 3), (.iinc 2 1, 3), (.iinc 3 1, 3), (.goto 23, 3)]
def bk_Scanner_behindComment_94 : List (Instr × Nat) := [(.iload_n 1, 1), (.ireturn, 1)]
def bk_Scanner_behindComment_60 : List (Instr × Nat) := [(.iload 4, 2), (.bipush 59, 2), (.if_icmp .ne 16, 3), (.iload 5, 2), (.bipush 41, 2), (.if_icmp .ne 9, 3), (.iinc 2 (-1), 3), (.iinc 3 1, 3)]
def bk_Scanner_behindComment_80 : List (Instr × Nat) := [(.iload_n 2, 1), (.ifCond .ne 7, 3), (.iload_n 3, 1), (.iconst 1, 1), (.iadd, 1), (.ireturn, 1)]
def bk_Scanner_behindComment_88 : List (Instr × Nat) := [(.iinc 3 1, 3), (.goto (-87), 3)]
theorem ca_Scanner_behindComment_0 : qz_ca yd_Scanner_behindComment.2.1 0 bk_Scanner_behindComment_0 := qz_cab_ok _ _ (by decide +kernel)
theorem ca_Scanner_behindComment_4 : qz_ca yd_Scanner_behindComment.2.1 4 bk_Scanner_behindComment_4 := qz_cab_ok _ _ (by decide +kernel)
theorem ca_Scanner_behindComment_94 : qz_ca yd_Scanner_behindComment.2.1 94 bk_Scanner_behindComment_94 := qz_cab_ok _ _ (by decide +kernel)
theorem ca_Scanner_behindComment_60 : qz_ca yd_Scanner_behindComment.2.1 60 bk_Scanner_behindComment_60 := qz_cab_ok _ _ (by decide +kernel)
theorem ca_Scanner_behindComment_80 : qz_ca yd_Scanner_behindComment.2.1 80 bk_Scanner_behindComment_80 := qz_cab_ok _ _ (by decide +kernel)
theorem ca_Scanner_behindComment_88 : qz_ca yd_Scanner_behindComment.2.1 88 bk_Scanner_behindComment_88 := qz_cab_ok _ _ (by decide +kernel)
set_option maxRecDepth 20000 in
theorem jb_Scanner_behindComment_80 (G : qz_G) (k4 : Int → Int → Int → Int → qz_H → Option qz_R) (jk4 : ∀ (l0 : Int) (l1 : Int) (l2 : Int) (l3 : Int) (h : qz_H), qz_J yd_Scanner_behindComment G bk_Scanner_behindComment_4 4 [qz_r true 10 l0, qz_i l1, qz_i l2, qz_i l3, qz_u, qz_u] [] h 0 0 (k4 l0 l1 l2 l3 h)) (l0 : Int) (l1 : Int) (l2 : Int) (l3 : Int) (h : qz_H) : qz_J yd_Scanner_behindComment G bk_Scanner_behindComment_80 80 [qz_r true 10 l0, qz_i l1, qz_i l2, qz_i l3, qz_u, qz_u] [] h 0 0 (fn_Scanner_behindComment_80 k4 l0 l1 l2 l3 h) := by
  unfold fn_Scanner_behindComment_80 bk_Scanner_behindComment_80; exact
    qz_iload_n rfl <|
    qz_if_ne rfl ca_Scanner_behindComment_88
      (qz_iinc rfl (by decide) fun x1 =>
        qz_goto rfl ca_Scanner_behindComment_4 <|
        qz_fgt [1, 1, 1, 1, 0, 0] <| jk4 l0 l1 l2 x1 h)
      (qz_iload_n rfl <|
        qz_iconst rfl <|
        qz_iadd <|
        qz_ireturn ⟨rfl, rfl⟩ rfl)
set_option maxRecDepth 20000 in
theorem jb_Scanner_behindComment_60 (G : qz_G) (k4 : Int → Int → Int → Int → qz_H → Option qz_R) (jk4 : ∀ (l0 : Int) (l1 : Int) (l2 : Int) (l3 : Int) (h : qz_H), qz_J yd_Scanner_behindComment G bk_Scanner_behindComment_4 4 [qz_r true 10 l0, qz_i l1, qz_i l2, qz_i l3, qz_u, qz_u] [] h 0 0 (k4 l0 l1 l2 l3 h)) (l0 : Int) (l1 : Int) (l2 : Int) (l3 : Int) (l4 : Int) (l5 : Int) (h : qz_H) : qz_J yd_Scanner_behindComment G bk_Scanner_behindComment_60 60 [qz_r true 10 l0, qz_i l1, qz_i l2, qz_i l3, qz_i l4, qz_i l5] [] h 0 0 (fn_Scanner_behindComment_60 k4 l0 l1 l2 l3 l4 l5 h) := by
  unfold fn_Scanner_behindComment_60 bk_Scanner_behindComment_60; exact
    qz_iload rfl <|
    qz_bipush rfl <|
    qz_icmp_ne rfl ca_Scanner_behindComment_80
      (qz_fgt [1, 1, 1, 1, 0, 0] <| jb_Scanner_behindComment_80 G k4 jk4 l0 l1 l2 l3 h)
      (qz_iload rfl <|
        qz_bipush rfl <|
        qz_icmp_ne rfl ca_Scanner_behindComment_80
          (qz_fgt [1, 1, 1, 1, 0, 0] <| jb_Scanner_behindComment_80 G k4 jk4 l0 l1 l2 l3 h)
          (qz_iinc rfl (by decide) fun x1 =>
            qz_iinc rfl (by decide) fun x2 =>
            qz_fall rfl ca_Scanner_behindComment_80 <|
            qz_fgt [1, 1, 1, 1, 0, 0] <| jb_Scanner_behindComment_80 G k4 jk4 l0 l1 x1 x2 h))
set_option maxRecDepth 20000 in
theorem jb_Scanner_behindComment_4_b (G : qz_G) (k4 : Int → Int → Int → Int → qz_H → Option qz_R) (jk4 : ∀ (l0 : Int) (l1 : Int) (l2 : Int) (l3 : Int) (h : qz_H), qz_J yd_Scanner_behindComment G bk_Scanner_behindComment_4 4 [qz_r true 10 l0, qz_i l1, qz_i l2, qz_i l3, qz_u, qz_u] [] h 0 0 (k4 l0 l1 l2 l3 h)) (l0 : Int) (l1 : Int) (l2 : Int) (l3 : Int) (h : qz_H) : qz_J yd_Scanner_behindComment G bk_Scanner_behindComment_4 4 [qz_r true 10 l0, qz_i l1, qz_i l2, qz_i l3, qz_u, qz_u] [] h 0 0 (fn_Scanner_behindComment_4_b k4 l0 l1 l2 l3 h) := by
  unfold fn_Scanner_behindComment_4_b bk_Scanner_behindComment_4; exact
    qz_iload_n rfl <|
    qz_aload_n rfl <|
    qz_getR (k1 := 11) kg_10 fl_Scanner_9 rfl rfl <|
    qz_nnd 0 rfl <|
    qz_getI kg_11 fl_Scanner_35 rfl rfl <|
    qz_icmp_ge rfl ca_Scanner_behindComment_94
      (qz_iload_n rfl <|
        qz_ireturn ⟨rfl, rfl⟩ rfl)
      (qz_aload_n rfl <|
        qz_getR (k1 := 11) kg_10 fl_Scanner_9 rfl rfl <|
        qz_iload_n rfl <|
        qz_nnd 1 rfl <|
        qz_invvI [qz_i l3] rfl (cn_Text_at (h l0 0) l3 h) mw_Text_at vw_Text_at ⟨_, rfl, rfl, by decide⟩ rfl rfl ln_Scanner_29 rfl fun r1 h2 =>
        qz_istore (by decide) fun x3 =>
        qz_aload_n rfl <|
        qz_getR (k1 := 11) kg_10 fl_Scanner_9 rfl rfl <|
        qz_iload_n rfl <|
        qz_iconst rfl <|
        qz_iadd <|
        qz_nnd 1 rfl <|
        qz_invvI [qz_i (qz_w (l3 + 1))] rfl (cn_Text_at (h2 l0 0) (qz_w (l3 + 1)) h2) mw_Text_at vw_Text_at ⟨_, rfl, rfl, by decide⟩ rfl rfl ln_Scanner_29 rfl fun r4 h5 =>
        qz_istore (by decide) fun x6 =>
        qz_iload rfl <|
        qz_bipush rfl <|
        qz_icmp_ne rfl ca_Scanner_behindComment_60
          (qz_fgt [1, 1, 1, 1, 1, 1] <| jb_Scanner_behindComment_60 G k4 jk4 l0 l1 l2 l3 x3 x6 h5)
          (qz_iload rfl <|
            qz_bipush rfl <|
            qz_icmp_ne rfl ca_Scanner_behindComment_60
              (qz_fgt [1, 1, 1, 1, 1, 1] <| jb_Scanner_behindComment_60 G k4 jk4 l0 l1 l2 l3 x3 x6 h5)
              (qz_iinc rfl (by decide) fun x7 =>
                qz_iinc rfl (by decide) fun x8 =>
                qz_goto rfl ca_Scanner_behindComment_80 <|
                qz_fgt [1, 1, 1, 1, 0, 0] <| jb_Scanner_behindComment_80 G k4 jk4 l0 l1 x7 x8 h5)))
theorem jb_Scanner_behindComment_4 (G : qz_G) : ∀ (n : Nat) (l0 l1 l2 l3 : Int) (h : qz_H), qz_J yd_Scanner_behindComment G bk_Scanner_behindComment_4 4 [qz_r true 10 l0, qz_i l1, qz_i l2, qz_i l3, qz_u, qz_u] [] h 0 0 (fn_Scanner_behindComment_4 n l0 l1 l2 l3 h)
  | 0, _, _, _, _, _ => qz_none
  | n + 1, l0, l1, l2, l3, h => jb_Scanner_behindComment_4_b G (fn_Scanner_behindComment_4 n) (jb_Scanner_behindComment_4 G n) l0 l1 l2 l3 h
set_option maxRecDepth 20000 in
theorem cn_Scanner_behindComment (l0 : Int) (l1 : Int) (h : qz_H) : qz_C yd_Scanner_behindComment [qz_r true 10 l0, qz_i l1] h (fn_Scanner_behindComment l0 l1 h) := by
  refine qz_con (is := bk_Scanner_behindComment_0) (ls := [qz_r true 10 l0, qz_i l1, qz_u, qz_u, qz_u, qz_u]) mw_Scanner_behindComment.2.2.2 ca_Scanner_behindComment_0 rfl rfl rfl fun G => ?_
  unfold fn_Scanner_behindComment bk_Scanner_behindComment_0; exact
    qz_iconst rfl <|
    qz_istore_n (by decide) fun x1 =>
    qz_iload_n rfl <|
    qz_istore_n (by decide) fun x2 =>
    qz_fall rfl ca_Scanner_behindComment_4 <|
    qz_fgt [1, 1, 1, 1, 0, 0] <| jb_Scanner_behindComment_4 G qz_NF l0 l1 x1 x2 h
def fn_Scanner_behindGap_42 (l1 : Int) (h : qz_H) : Option qz_R :=
  some (qz_w (l1 + 1), h)
def fn_Scanner_behindGap_81 (s0 : Int) (h : qz_H) : Option qz_R :=
  some (s0, h)
def fn_Scanner_behindGap_80 (l1 : Int) (h : qz_H) : Option qz_R :=
  fn_Scanner_behindGap_81 l1 h
def fn_Scanner_behindGap_62 (l0 : Int) (l1 : Int) (l2 : Int) (l3 : Int) (h : qz_H) : Option qz_R :=
  if ¬ l2 = 40 then
    fn_Scanner_behindGap_80 l1 h
  else
    if l3 = 0 then
      fn_Scanner_behindGap_80 l1 h
    else
      qz_bc (fn_Scanner_behindComment l0 l1 h) fun r1 h2 =>
      fn_Scanner_behindGap_81 r1 h2
def fn_Scanner_behindGap_29 (l0 : Int) (l1 : Int) (l2 : Int) (s0 : Int) (h : qz_H) : Option qz_R :=
  qz_bn (s0 : Int) fun x1 =>
  if l2 = 32 then
    fn_Scanner_behindGap_42 l1 h
  else
    if ¬ l2 = 10 then
      if ¬ l2 = 59 then
        fn_Scanner_behindGap_62 l0 l1 l2 x1 h
      else
        if x1 = 0 then
          fn_Scanner_behindGap_62 l0 l1 l2 x1 h
        else
          qz_bc (fn_Scanner_behindLine l0 l1 h) fun r2 h3 =>
          some (r2, h3)
    else
      fn_Scanner_behindGap_42 l1 h
set_option maxRecDepth 20000 in
def fn_Scanner_behindGap (l0 : Int) (l1 : Int) (h : qz_H) : Option qz_R :=
  qz_ck ((h l0 0 : Int) ≠ 0) <|
  qz_bc (fn_Text_at (h l0 0) l1 h) fun r1 h2 =>
  qz_bn (r1 : Int) fun x3 =>
  qz_ck ((h2 l0 0 : Int) ≠ 0) <|
  qz_bc (fn_Text_at (h2 l0 0) (qz_w (l1 + 1)) h2) fun r4 h5 =>
  if ¬ r4 = 59 then
    fn_Scanner_behindGap_29 l0 l1 x3 0 h5
  else
    fn_Scanner_behindGap_29 l0 l1 x3 1 h5
def bk_Scanner_behindGap_0 : List (Instr × Nat) := [(.aload_n 0, 1), (.getfield 9, 3), (.iload_n 1, 1), (.invokevirtual 29, 3), (.istore_n 2, 1), (.aload_n 0, 1), (.getfield 9, 3), (.iload_n 1, 1), (.iconst 1, 1), (.iadd, 1), (.invokevirtual 29, 3), (.bipush 59, 2), (.if_icmp .ne 7, 3), (.iconst 1, 1), (.goto 4, 3)]
def bk_Scanner_behindGap_28 : List (Instr × Nat) := [(.iconst 0, 1)]
def bk_Scanner_behindGap_29 : List (Instr × Nat) := [(.istore_n 3, 1), (.iload_n 2, 1), (.bipush 32, 2), (.if_icmp .eq 9, 3), (.iload_n 2, 1), (.bipush 10, 2), (.if_icmp .ne 7, 3)]
def bk_Scanner_behindGap_42 : List (Instr × Nat) := [(.iload_n 1, 1), (.iconst 1, 1), (.iadd, 1), (.ireturn, 1)]
def bk_Scanner_behindGap_46 : List (Instr × Nat) := [(.iload_n 2, 1), (.bipush 59, 2), (.if_icmp .ne 13, 3), (.iload_n 3, 1), (.ifCond .eq 9, 3), (.aload_n 0, 1), (.iload_n 1, 1), (.invokevirtual 56, 3), (.ireturn, 1)]
def bk_Scanner_behindGap_62 : List (Instr × Nat) := [(.iload_n 2, 1), (.bipush 40, 2), (.if_icmp .ne 15, 3), (.iload_n 3, 1), (.ifCond .eq 11, 3), (.aload_n 0, 1), (.iload_n 1, 1), (.invokevirtual 59, 3), (.goto 4, 3)]
def bk_Scanner_behindGap_80 : List (Instr × Nat) := [(.iload_n 1, 1)]
def bk_Scanner_behindGap_81 : List (Instr × Nat) := [(.ireturn, 1)]
theorem ca_Scanner_behindGap_0 : qz_ca yd_Scanner_behindGap.2.1 0 bk_Scanner_behindGap_0 := qz_cab_ok _ _ (by decide +kernel)
theorem ca_Scanner_behindGap_28 : qz_ca yd_Scanner_behindGap.2.1 28 bk_Scanner_behindGap_28 := qz_cab_ok _ _ (by decide +kernel)
theorem ca_Scanner_behindGap_29 : qz_ca yd_Scanner_behindGap.2.1 29 bk_Scanner_behindGap_29 := qz_cab_ok _ _ (by decide +kernel)
theorem ca_Scanner_behindGap_42 : qz_ca yd_Scanner_behindGap.2.1 42 bk_Scanner_behindGap_42 := qz_cab_ok _ _ (by decide +kernel)
theorem ca_Scanner_behindGap_46 : qz_ca yd_Scanner_behindGap.2.1 46 bk_Scanner_behindGap_46 := qz_cab_ok _ _ (by decide +kernel)
theorem ca_Scanner_behindGap_62 : qz_ca yd_Scanner_behindGap.2.1 62 bk_Scanner_behindGap_62 := qz_cab_ok _ _ (by decide +kernel)
theorem ca_Scanner_behindGap_80 : qz_ca yd_Scanner_behindGap.2.1 80 bk_Scanner_behindGap_80 := qz_cab_ok _ _ (by decide +kernel)
theorem ca_Scanner_behindGap_81 : qz_ca yd_Scanner_behindGap.2.1 81 bk_Scanner_behindGap_81 := qz_cab_ok _ _ (by decide +kernel)
set_option maxRecDepth 20000 in
theorem jb_Scanner_behindGap_42 (G : qz_G) (l1 : Int) (h : qz_H) : qz_J yd_Scanner_behindGap G bk_Scanner_behindGap_42 42 [qz_u, qz_i l1, qz_u, qz_u] [] h 0 0 (fn_Scanner_behindGap_42 l1 h) := by
  unfold fn_Scanner_behindGap_42 bk_Scanner_behindGap_42; exact
    qz_iload_n rfl <|
    qz_iconst rfl <|
    qz_iadd <|
    qz_ireturn ⟨rfl, rfl⟩ rfl
set_option maxRecDepth 20000 in
theorem jb_Scanner_behindGap_81 (G : qz_G) (s0 : Int) (h : qz_H) : qz_J yd_Scanner_behindGap G bk_Scanner_behindGap_81 81 [qz_u, qz_u, qz_u, qz_u] [qz_i s0] h 0 0 (fn_Scanner_behindGap_81 s0 h) := by
  unfold fn_Scanner_behindGap_81 bk_Scanner_behindGap_81; exact
    qz_ireturn ⟨rfl, rfl⟩ rfl
set_option maxRecDepth 20000 in
theorem jb_Scanner_behindGap_80 (G : qz_G) (l1 : Int) (h : qz_H) : qz_J yd_Scanner_behindGap G bk_Scanner_behindGap_80 80 [qz_u, qz_i l1, qz_u, qz_u] [] h 0 0 (fn_Scanner_behindGap_80 l1 h) := by
  unfold fn_Scanner_behindGap_80 bk_Scanner_behindGap_80; exact
    qz_iload_n rfl <|
    qz_fall rfl ca_Scanner_behindGap_81 <|
    qz_fgt [0, 0, 0, 0] <| jb_Scanner_behindGap_81 G l1 h
set_option maxRecDepth 20000 in
theorem jb_Scanner_behindGap_62 (G : qz_G) (l0 : Int) (l1 : Int) (l2 : Int) (l3 : Int) (h : qz_H) : qz_J yd_Scanner_behindGap G bk_Scanner_behindGap_62 62 [qz_r true 10 l0, qz_i l1, qz_i l2, qz_i l3] [] h 0 0 (fn_Scanner_behindGap_62 l0 l1 l2 l3 h) := by
  unfold fn_Scanner_behindGap_62 bk_Scanner_behindGap_62; exact
    qz_iload_n rfl <|
    qz_bipush rfl <|
    qz_icmp_ne rfl ca_Scanner_behindGap_80
      (qz_fgt [0, 1, 0, 0] <| jb_Scanner_behindGap_80 G l1 h)
      (qz_iload_n rfl <|
        qz_if_eq rfl ca_Scanner_behindGap_80
          (qz_fgt [0, 1, 0, 0] <| jb_Scanner_behindGap_80 G l1 h)
          (qz_aload_n rfl <|
            qz_iload_n rfl <|
            qz_invvI [qz_i l1] rfl (cn_Scanner_behindComment l0 l1 h) mw_Scanner_behindComment vw_Scanner_behindComment ⟨_, rfl, rfl, by decide⟩ rfl rfl ln_Scanner_59 rfl fun r1 h2 =>
            qz_goto rfl ca_Scanner_behindGap_81 <|
            qz_fgt [0, 0, 0, 0] <| jb_Scanner_behindGap_81 G r1 h2))
set_option maxRecDepth 20000 in
theorem jb_Scanner_behindGap_29 (G : qz_G) (l0 : Int) (l1 : Int) (l2 : Int) (s0 : Int) (h : qz_H) : qz_J yd_Scanner_behindGap G bk_Scanner_behindGap_29 29 [qz_r true 10 l0, qz_i l1, qz_i l2, qz_u] [qz_i s0] h 0 0 (fn_Scanner_behindGap_29 l0 l1 l2 s0 h) := by
  unfold fn_Scanner_behindGap_29 bk_Scanner_behindGap_29; exact
    qz_istore_n (by decide) fun x1 =>
    qz_iload_n rfl <|
    qz_bipush rfl <|
    qz_icmp_eq rfl ca_Scanner_behindGap_42
      (qz_fgt [0, 1, 0, 0] <| jb_Scanner_behindGap_42 G l1 h)
      (qz_iload_n rfl <|
        qz_bipush rfl <|
        qz_icmp_ne rfl ca_Scanner_behindGap_46
          (qz_iload_n rfl <|
            qz_bipush rfl <|
            qz_icmp_ne rfl ca_Scanner_behindGap_62
              (qz_fgt [1, 1, 1, 1] <| jb_Scanner_behindGap_62 G l0 l1 l2 x1 h)
              (qz_iload_n rfl <|
                qz_if_eq rfl ca_Scanner_behindGap_62
                  (qz_fgt [1, 1, 1, 1] <| jb_Scanner_behindGap_62 G l0 l1 l2 x1 h)
                  (qz_aload_n rfl <|
                    qz_iload_n rfl <|
                    qz_invvI [qz_i l1] rfl (cn_Scanner_behindLine l0 l1 h) mw_Scanner_behindLine vw_Scanner_behindLine ⟨_, rfl, rfl, by decide⟩ rfl rfl ln_Scanner_56 rfl fun r2 h3 =>
                    qz_ireturn ⟨rfl, rfl⟩ rfl)))
          (qz_fall rfl ca_Scanner_behindGap_42 <|
            qz_fgt [0, 1, 0, 0] <| jb_Scanner_behindGap_42 G l1 h))
set_option maxRecDepth 20000 in
theorem cn_Scanner_behindGap (l0 : Int) (l1 : Int) (h : qz_H) : qz_C yd_Scanner_behindGap [qz_r true 10 l0, qz_i l1] h (fn_Scanner_behindGap l0 l1 h) := by
  refine qz_con (is := bk_Scanner_behindGap_0) (ls := [qz_r true 10 l0, qz_i l1, qz_u, qz_u]) mw_Scanner_behindGap.2.2.2 ca_Scanner_behindGap_0 rfl rfl rfl fun G => ?_
  unfold fn_Scanner_behindGap bk_Scanner_behindGap_0; exact
    qz_aload_n rfl <|
    qz_getR (k1 := 11) kg_10 fl_Scanner_9 rfl rfl <|
    qz_iload_n rfl <|
    qz_nnd 1 rfl <|
    qz_invvI [qz_i l1] rfl (cn_Text_at (h l0 0) l1 h) mw_Text_at vw_Text_at ⟨_, rfl, rfl, by decide⟩ rfl rfl ln_Scanner_29 rfl fun r1 h2 =>
    qz_istore_n (by decide) fun x3 =>
    qz_aload_n rfl <|
    qz_getR (k1 := 11) kg_10 fl_Scanner_9 rfl rfl <|
    qz_iload_n rfl <|
    qz_iconst rfl <|
    qz_iadd <|
    qz_nnd 1 rfl <|
    qz_invvI [qz_i (qz_w (l1 + 1))] rfl (cn_Text_at (h2 l0 0) (qz_w (l1 + 1)) h2) mw_Text_at vw_Text_at ⟨_, rfl, rfl, by decide⟩ rfl rfl ln_Scanner_29 rfl fun r4 h5 =>
    qz_bipush rfl <|
    qz_icmp_ne rfl ca_Scanner_behindGap_28
      (qz_iconst rfl <|
        qz_fall rfl ca_Scanner_behindGap_29 <|
        qz_fgt [1, 1, 1, 0] <| jb_Scanner_behindGap_29 G l0 l1 x3 0 h5)
      (qz_iconst rfl <|
        qz_goto rfl ca_Scanner_behindGap_29 <|
        qz_fgt [1, 1, 1, 0] <| jb_Scanner_behindGap_29 G l0 l1 x3 1 h5)
def fn_Scanner_behindGaps_4_b (k4 : Int → Int → Int → qz_H → Option qz_R) (l0 : Int) (l2 : Int) (l3 : Int) (h : qz_H) : Option qz_R :=
  if 320 < l3 then
    some (l2, h)
  else
    qz_bc (fn_Scanner_behindGap l0 l2 h) fun r1 h2 =>
    qz_bn (r1 : Int) fun x3 =>
    if ¬ x3 = l2 then
      qz_bn (x3 : Int) fun x4 =>
      qz_bn (qz_w (l3 + 1)) fun x5 =>
      k4 l0 x4 x5 h2
    else
      some (l2, h2)
def fn_Scanner_behindGaps_4 : Nat → Int → Int → Int → qz_H → Option qz_R
  | 0, _, _, _, _ => none
  | n + 1, l0, l2, l3, h => fn_Scanner_behindGaps_4_b (fn_Scanner_behindGaps_4 n) l0 l2 l3 h
set_option maxRecDepth 20000 in
def fn_Scanner_behindGaps (l0 : Int) (l1 : Int) (h : qz_H) : Option qz_R :=
  qz_bn (l1 : Int) fun x1 =>
  qz_bn (0 : Int) fun x2 =>
  fn_Scanner_behindGaps_4 qz_NF l0 x1 x2 h
def bk_Scanner_behindGaps_0 : List (Instr × Nat) := [(.iload_n 1, 1), (.istore_n 2, 1), (.iconst 0, 1), (.istore_n 3, 1)]
def bk_Scanner_behindGaps_4 : List (Instr × Nat) := [(.iload_n 3, 1), (.sipush 320, 3), (.if_icmp .gt 27, 3), (.aload_n 0, 1), (.iload_n 2, 1), (.invokevirtual 53, 3), (.istore 4, 2), (.iload 4, 2), (.iload_n 2, 1), (.if_icmp .ne 5, 3), (.iload_n 2, 1), (.ireturn, 1)]
def bk_Scanner_behindGaps_35 : List (Instr × Nat) := [(.iload_n 2, 1), (.ireturn, 1)]
def bk_Scanner_behindGaps_26 : List (Instr × Nat) := [(.iload 4, 2), (.istore_n 2, 1), (.iinc 3 1, 3), (.goto (-28), 3)]
theorem ca_Scanner_behindGaps_0 : qz_ca yd_Scanner_behindGaps.2.1 0 bk_Scanner_behindGaps_0 := qz_cab_ok _ _ (by decide +kernel)
theorem ca_Scanner_behindGaps_4 : qz_ca yd_Scanner_behindGaps.2.1 4 bk_Scanner_behindGaps_4 := qz_cab_ok _ _ (by decide +kernel)
theorem ca_Scanner_behindGaps_35 : qz_ca yd_Scanner_behindGaps.2.1 35 bk_Scanner_behindGaps_35 := qz_cab_ok _ _ (by decide +kernel)
theorem ca_Scanner_behindGaps_26 : qz_ca yd_Scanner_behindGaps.2.1 26 bk_Scanner_behindGaps_26 := qz_cab_ok _ _ (by decide +kernel)
set_option maxRecDepth 20000 in
theorem jb_Scanner_behindGaps_4_b (G : qz_G) (k4 : Int → Int → Int → qz_H → Option qz_R) (jk4 : ∀ (l0 : Int) (l2 : Int) (l3 : Int) (h : qz_H), qz_J yd_Scanner_behindGaps G bk_Scanner_behindGaps_4 4 [qz_r true 10 l0, qz_u, qz_i l2, qz_i l3, qz_u] [] h 0 0 (k4 l0 l2 l3 h)) (l0 : Int) (l2 : Int) (l3 : Int) (h : qz_H) : qz_J yd_Scanner_behindGaps G bk_Scanner_behindGaps_4 4 [qz_r true 10 l0, qz_u, qz_i l2, qz_i l3, qz_u] [] h 0 0 (fn_Scanner_behindGaps_4_b k4 l0 l2 l3 h) := by
  unfold fn_Scanner_behindGaps_4_b bk_Scanner_behindGaps_4; exact
    qz_iload_n rfl <|
    qz_sipush rfl <|
    qz_icmp_gt rfl ca_Scanner_behindGaps_35
      (qz_iload_n rfl <|
        qz_ireturn ⟨rfl, rfl⟩ rfl)
      (qz_aload_n rfl <|
        qz_iload_n rfl <|
        qz_invvI [qz_i l2] rfl (cn_Scanner_behindGap l0 l2 h) mw_Scanner_behindGap vw_Scanner_behindGap ⟨_, rfl, rfl, by decide⟩ rfl rfl ln_Scanner_53 rfl fun r1 h2 =>
        qz_istore (by decide) fun x3 =>
        qz_iload rfl <|
        qz_iload_n rfl <|
        qz_icmp_ne rfl ca_Scanner_behindGaps_26
          (qz_iload rfl <|
            qz_istore_n (by decide) fun x4 =>
            qz_iinc rfl (by decide) fun x5 =>
            qz_goto rfl ca_Scanner_behindGaps_4 <|
            qz_fgt [1, 0, 1, 1, 0] <| jk4 l0 x4 x5 h2)
          (qz_iload_n rfl <|
            qz_ireturn ⟨rfl, rfl⟩ rfl))
theorem jb_Scanner_behindGaps_4 (G : qz_G) : ∀ (n : Nat) (l0 l2 l3 : Int) (h : qz_H), qz_J yd_Scanner_behindGaps G bk_Scanner_behindGaps_4 4 [qz_r true 10 l0, qz_u, qz_i l2, qz_i l3, qz_u] [] h 0 0 (fn_Scanner_behindGaps_4 n l0 l2 l3 h)
  | 0, _, _, _, _ => qz_none
  | n + 1, l0, l2, l3, h => jb_Scanner_behindGaps_4_b G (fn_Scanner_behindGaps_4 n) (jb_Scanner_behindGaps_4 G n) l0 l2 l3 h
set_option maxRecDepth 20000 in
theorem cn_Scanner_behindGaps (l0 : Int) (l1 : Int) (h : qz_H) : qz_C yd_Scanner_behindGaps [qz_r true 10 l0, qz_i l1] h (fn_Scanner_behindGaps l0 l1 h) := by
  refine qz_con (is := bk_Scanner_behindGaps_0) (ls := [qz_r true 10 l0, qz_i l1, qz_u, qz_u, qz_u]) mw_Scanner_behindGaps.2.2.2 ca_Scanner_behindGaps_0 rfl rfl rfl fun G => ?_
  unfold fn_Scanner_behindGaps bk_Scanner_behindGaps_0; exact
    qz_iload_n rfl <|
    qz_istore_n (by decide) fun x1 =>
    qz_iconst rfl <|
    qz_istore_n (by decide) fun x2 =>
    qz_fall rfl ca_Scanner_behindGaps_4 <|
    qz_fgt [1, 0, 1, 1, 0] <| jb_Scanner_behindGaps_4 G qz_NF l0 x1 x2 h
def fn_Scanner_isOfWord_81 (s0 : Int) (h : qz_H) : Option qz_R :=
  qz_ck ((s0 : Int) = 0 ∨ (s0 : Int) = 1) (some (s0, h))
def fn_Scanner_isOfWord_80 (h : qz_H) : Option qz_R :=
  fn_Scanner_isOfWord_81 0 h
def fn_Scanner_isOfWord_41 (l0 : Int) (s0 : Int) (h : qz_H) : Option qz_R :=
  qz_bn (s0 : Int) fun x1 =>
  if l0 ≤ 32 then
    fn_Scanner_isOfWord_80 h
  else
    if 126 < l0 then
      fn_Scanner_isOfWord_80 h
    else
      if ¬ x1 = 0 then
        fn_Scanner_isOfWord_80 h
      else
        if l0 = 34 then
          fn_Scanner_isOfWord_80 h
        else
          if l0 = 44 then
            fn_Scanner_isOfWord_80 h
          else
            if l0 = 59 then
              fn_Scanner_isOfWord_80 h
            else
              fn_Scanner_isOfWord_81 1 h
def fn_Scanner_isOfWord_36 (l0 : Int) (h : qz_H) : Option qz_R :=
  fn_Scanner_isOfWord_41 l0 1 h
set_option maxRecDepth 20000 in
def fn_Scanner_isOfWord (l0 : Int) (h : qz_H) : Option qz_R :=
  if l0 = 40 then
    fn_Scanner_isOfWord_36 l0 h
  else
    if l0 = 41 then
      fn_Scanner_isOfWord_36 l0 h
    else
      if l0 = 91 then
        fn_Scanner_isOfWord_36 l0 h
      else
        if l0 = 93 then
          fn_Scanner_isOfWord_36 l0 h
        else
          if l0 = 123 then
            fn_Scanner_isOfWord_36 l0 h
          else
            if ¬ l0 = 125 then
              fn_Scanner_isOfWord_41 l0 0 h
            else
              fn_Scanner_isOfWord_36 l0 h
def bk_Scanner_isOfWord_0 : List (Instr × Nat) := [(.iload_n 0, 1), (.bipush 40, 2), (.if_icmp .eq 33, 3), (.iload_n 0, 1), (.bipush 41, 2), (.if_icmp .eq 27, 3), (.iload_n 0, 1), (.bipush 91, 2), (.if_icmp .eq 21, 3), (.iload_n 0, 1), (.bipush 93, 2), (.if_icmp .eq 15, 3), (.iload_n 0, 1), (.bipush 123, 2), (.if_icmp .eq 9, 3), (.iload_n 0, 1), (.bipush 125, 2), (.if_icmp .ne 7, 3)]
def bk_Scanner_isOfWord_36 : List (Instr × Nat) := [(.iconst 1, 1), (.goto 4, 3)]
def bk_Scanner_isOfWord_40 : List (Instr × Nat) := [(.iconst 0, 1)]
def bk_Scanner_isOfWord_41 : List (Instr × Nat) := [(.istore_n 1, 1), (.iload_n 0, 1), (.bipush 32, 2), (.if_icmp .le 35, 3), (.iload_n 0, 1), (.bipush 126, 2), (.if_icmp .gt 29, 3), (.iload_n 1, 1), (.ifCond .ne 25, 3), (.iload_n 0, 1), (.bipush 34, 2), (.if_icmp .eq 19, 3), (.iload_n 0, 1), (.bipush 44, 2), (.if_icmp .eq 13, 3), (.iload_n 0, 1), (.bipush 59, 2), (.if_icmp .eq 7, 3), (.iconst 1, 1), (.goto 4, 3)]
def bk_Scanner_isOfWord_80 : List (Instr × Nat) := [(.iconst 0, 1)]
def bk_Scanner_isOfWord_81 : List (Instr × Nat) := [(.ireturn, 1)]
theorem ca_Scanner_isOfWord_0 : qz_ca yd_Scanner_isOfWord.2.1 0 bk_Scanner_isOfWord_0 := qz_cab_ok _ _ (by decide +kernel)
theorem ca_Scanner_isOfWord_36 : qz_ca yd_Scanner_isOfWord.2.1 36 bk_Scanner_isOfWord_36 := qz_cab_ok _ _ (by decide +kernel)
theorem ca_Scanner_isOfWord_40 : qz_ca yd_Scanner_isOfWord.2.1 40 bk_Scanner_isOfWord_40 := qz_cab_ok _ _ (by decide +kernel)
theorem ca_Scanner_isOfWord_41 : qz_ca yd_Scanner_isOfWord.2.1 41 bk_Scanner_isOfWord_41 := qz_cab_ok _ _ (by decide +kernel)
theorem ca_Scanner_isOfWord_80 : qz_ca yd_Scanner_isOfWord.2.1 80 bk_Scanner_isOfWord_80 := qz_cab_ok _ _ (by decide +kernel)
theorem ca_Scanner_isOfWord_81 : qz_ca yd_Scanner_isOfWord.2.1 81 bk_Scanner_isOfWord_81 := qz_cab_ok _ _ (by decide +kernel)
set_option maxRecDepth 20000 in
theorem jb_Scanner_isOfWord_81 (G : qz_G) (s0 : Int) (h : qz_H) : qz_J yd_Scanner_isOfWord G bk_Scanner_isOfWord_81 81 [qz_u, qz_u] [qz_i s0] h 0 0 (fn_Scanner_isOfWord_81 s0 h) := by
  unfold fn_Scanner_isOfWord_81 bk_Scanner_isOfWord_81; exact
    qz_zreturn ⟨rfl, rfl⟩ rfl
set_option maxRecDepth 20000 in
theorem jb_Scanner_isOfWord_80 (G : qz_G) (h : qz_H) : qz_J yd_Scanner_isOfWord G bk_Scanner_isOfWord_80 80 [qz_u, qz_u] [] h 0 0 (fn_Scanner_isOfWord_80 h) := by
  unfold fn_Scanner_isOfWord_80 bk_Scanner_isOfWord_80; exact
    qz_iconst rfl <|
    qz_fall rfl ca_Scanner_isOfWord_81 <|
    qz_fgt [0, 0] <| jb_Scanner_isOfWord_81 G 0 h
set_option maxRecDepth 20000 in
theorem jb_Scanner_isOfWord_41 (G : qz_G) (l0 : Int) (s0 : Int) (h : qz_H) : qz_J yd_Scanner_isOfWord G bk_Scanner_isOfWord_41 41 [qz_i l0, qz_u] [qz_i s0] h 0 0 (fn_Scanner_isOfWord_41 l0 s0 h) := by
  unfold fn_Scanner_isOfWord_41 bk_Scanner_isOfWord_41; exact
    qz_istore_n (by decide) fun x1 =>
    qz_iload_n rfl <|
    qz_bipush rfl <|
    qz_icmp_le rfl ca_Scanner_isOfWord_80
      (qz_fgt [0, 0] <| jb_Scanner_isOfWord_80 G h)
      (qz_iload_n rfl <|
        qz_bipush rfl <|
        qz_icmp_gt rfl ca_Scanner_isOfWord_80
          (qz_fgt [0, 0] <| jb_Scanner_isOfWord_80 G h)
          (qz_iload_n rfl <|
            qz_if_ne rfl ca_Scanner_isOfWord_80
              (qz_fgt [0, 0] <| jb_Scanner_isOfWord_80 G h)
              (qz_iload_n rfl <|
                qz_bipush rfl <|
                qz_icmp_eq rfl ca_Scanner_isOfWord_80
                  (qz_fgt [0, 0] <| jb_Scanner_isOfWord_80 G h)
                  (qz_iload_n rfl <|
                    qz_bipush rfl <|
                    qz_icmp_eq rfl ca_Scanner_isOfWord_80
                      (qz_fgt [0, 0] <| jb_Scanner_isOfWord_80 G h)
                      (qz_iload_n rfl <|
                        qz_bipush rfl <|
                        qz_icmp_eq rfl ca_Scanner_isOfWord_80
                          (qz_fgt [0, 0] <| jb_Scanner_isOfWord_80 G h)
                          (qz_iconst rfl <|
                            qz_goto rfl ca_Scanner_isOfWord_81 <|
                            qz_fgt [0, 0] <| jb_Scanner_isOfWord_81 G 1 h))))))
set_option maxRecDepth 20000 in
theorem jb_Scanner_isOfWord_36 (G : qz_G) (l0 : Int) (h : qz_H) : qz_J yd_Scanner_isOfWord G bk_Scanner_isOfWord_36 36 [qz_i l0, qz_u] [] h 0 0 (fn_Scanner_isOfWord_36 l0 h) := by
  unfold fn_Scanner_isOfWord_36 bk_Scanner_isOfWord_36; exact
    qz_iconst rfl <|
    qz_goto rfl ca_Scanner_isOfWord_41 <|
    qz_fgt [1, 0] <| jb_Scanner_isOfWord_41 G l0 1 h
set_option maxRecDepth 20000 in
theorem cn_Scanner_isOfWord (l0 : Int) (h : qz_H) : qz_C yd_Scanner_isOfWord [qz_i l0] h (fn_Scanner_isOfWord l0 h) := by
  refine qz_con (is := bk_Scanner_isOfWord_0) (ls := [qz_i l0, qz_u]) mw_Scanner_isOfWord.2.2.2 ca_Scanner_isOfWord_0 rfl rfl rfl fun G => ?_
  unfold fn_Scanner_isOfWord bk_Scanner_isOfWord_0; exact
    qz_iload_n rfl <|
    qz_bipush rfl <|
    qz_icmp_eq rfl ca_Scanner_isOfWord_36
      (qz_fgt [1, 0] <| jb_Scanner_isOfWord_36 G l0 h)
      (qz_iload_n rfl <|
        qz_bipush rfl <|
        qz_icmp_eq rfl ca_Scanner_isOfWord_36
          (qz_fgt [1, 0] <| jb_Scanner_isOfWord_36 G l0 h)
          (qz_iload_n rfl <|
            qz_bipush rfl <|
            qz_icmp_eq rfl ca_Scanner_isOfWord_36
              (qz_fgt [1, 0] <| jb_Scanner_isOfWord_36 G l0 h)
              (qz_iload_n rfl <|
                qz_bipush rfl <|
                qz_icmp_eq rfl ca_Scanner_isOfWord_36
                  (qz_fgt [1, 0] <| jb_Scanner_isOfWord_36 G l0 h)
                  (qz_iload_n rfl <|
                    qz_bipush rfl <|
                    qz_icmp_eq rfl ca_Scanner_isOfWord_36
                      (qz_fgt [1, 0] <| jb_Scanner_isOfWord_36 G l0 h)
                      (qz_iload_n rfl <|
                        qz_bipush rfl <|
                        qz_icmp_ne rfl ca_Scanner_isOfWord_40
                          (qz_iconst rfl <|
                            qz_fall rfl ca_Scanner_isOfWord_41 <|
                            qz_fgt [1, 0] <| jb_Scanner_isOfWord_41 G l0 0 h)
                          (qz_fall rfl ca_Scanner_isOfWord_36 <|
                            qz_fgt [1, 0] <| jb_Scanner_isOfWord_36 G l0 h))))))
def fn_Scanner_behindWord_33 (l2 : Int) (h : qz_H) : Option qz_R :=
  some (l2, h)
def fn_Scanner_behindWord_2_b (k2 : Int → Int → qz_H → Option qz_R) (l0 : Int) (l2 : Int) (h : qz_H) : Option qz_R :=
  qz_ck ((h l0 0 : Int) ≠ 0) <|
  if h (h l0 0) 1 ≤ l2 then
    fn_Scanner_behindWord_33 l2 h
  else
    qz_ck ((h l0 0 : Int) ≠ 0) <|
    qz_bc (fn_Text_at (h l0 0) l2 h) fun r1 h2 =>
    qz_bc (fn_Scanner_isOfWord r1 h2) fun r3 h4 =>
    if r3 = 0 then
      fn_Scanner_behindWord_33 l2 h4
    else
      qz_bn (qz_w (l2 + 1)) fun x5 =>
      k2 l0 x5 h4
def fn_Scanner_behindWord_2 : Nat → Int → Int → qz_H → Option qz_R
  | 0, _, _, _ => none
  | n + 1, l0, l2, h => fn_Scanner_behindWord_2_b (fn_Scanner_behindWord_2 n) l0 l2 h
set_option maxRecDepth 20000 in
def fn_Scanner_behindWord (l0 : Int) (l1 : Int) (h : qz_H) : Option qz_R :=
  qz_bn (l1 : Int) fun x1 =>
  fn_Scanner_behindWord_2 qz_NF l0 x1 h
def bk_Scanner_behindWord_0 : List (Instr × Nat) := [(.iload_n 1, 1), (.istore_n 2, 1)]
def bk_Scanner_behindWord_2 : List (Instr × Nat) := [(.iload_n 2, 1), (.aload_n 0, 1), (.getfield 9, 3), (.getfield 35, 3), (.if_icmp .ge 23, 3), (.aload_n 0, 1), (.getfield 9, 3), (.iload_n 2, 1), (.invokevirtual 29, 3), (.invokestatic 38, 3), (.ifCond .eq 9, 3), (.iinc 2 1, 3), (.goto (-28), 3)]
def bk_Scanner_behindWord_33 : List (Instr × Nat) := [(.iload_n 2, 1), (.ireturn, 1)]
theorem ca_Scanner_behindWord_0 : qz_ca yd_Scanner_behindWord.2.1 0 bk_Scanner_behindWord_0 := qz_cab_ok _ _ (by decide +kernel)
theorem ca_Scanner_behindWord_2 : qz_ca yd_Scanner_behindWord.2.1 2 bk_Scanner_behindWord_2 := qz_cab_ok _ _ (by decide +kernel)
theorem ca_Scanner_behindWord_33 : qz_ca yd_Scanner_behindWord.2.1 33 bk_Scanner_behindWord_33 := qz_cab_ok _ _ (by decide +kernel)
set_option maxRecDepth 20000 in
theorem jb_Scanner_behindWord_33 (G : qz_G) (l2 : Int) (h : qz_H) : qz_J yd_Scanner_behindWord G bk_Scanner_behindWord_33 33 [qz_u, qz_u, qz_i l2] [] h 0 0 (fn_Scanner_behindWord_33 l2 h) := by
  unfold fn_Scanner_behindWord_33 bk_Scanner_behindWord_33; exact
    qz_iload_n rfl <|
    qz_ireturn ⟨rfl, rfl⟩ rfl
set_option maxRecDepth 20000 in
theorem jb_Scanner_behindWord_2_b (G : qz_G) (k2 : Int → Int → qz_H → Option qz_R) (jk2 : ∀ (l0 : Int) (l2 : Int) (h : qz_H), qz_J yd_Scanner_behindWord G bk_Scanner_behindWord_2 2 [qz_r true 10 l0, qz_u, qz_i l2] [] h 0 0 (k2 l0 l2 h)) (l0 : Int) (l2 : Int) (h : qz_H) : qz_J yd_Scanner_behindWord G bk_Scanner_behindWord_2 2 [qz_r true 10 l0, qz_u, qz_i l2] [] h 0 0 (fn_Scanner_behindWord_2_b k2 l0 l2 h) := by
  unfold fn_Scanner_behindWord_2_b bk_Scanner_behindWord_2; exact
    qz_iload_n rfl <|
    qz_aload_n rfl <|
    qz_getR (k1 := 11) kg_10 fl_Scanner_9 rfl rfl <|
    qz_nnd 0 rfl <|
    qz_getI kg_11 fl_Scanner_35 rfl rfl <|
    qz_icmp_ge rfl ca_Scanner_behindWord_33
      (qz_fgt [0, 0, 1] <| jb_Scanner_behindWord_33 G l2 h)
      (qz_aload_n rfl <|
        qz_getR (k1 := 11) kg_10 fl_Scanner_9 rfl rfl <|
        qz_iload_n rfl <|
        qz_nnd 1 rfl <|
        qz_invvI [qz_i l2] rfl (cn_Text_at (h l0 0) l2 h) mw_Text_at vw_Text_at ⟨_, rfl, rfl, by decide⟩ rfl rfl ln_Scanner_29 rfl fun r1 h2 =>
        qz_invsI [qz_i r1] rfl (cn_Scanner_isOfWord r1 h2) mw_Scanner_isOfWord vs_Scanner_isOfWord rfl rfl ln_Scanner_38 rfl fun r3 h4 =>
        qz_if_eq rfl ca_Scanner_behindWord_33
          (qz_fgt [0, 0, 1] <| jb_Scanner_behindWord_33 G l2 h4)
          (qz_iinc rfl (by decide) fun x5 =>
            qz_goto rfl ca_Scanner_behindWord_2 <|
            qz_fgt [1, 0, 1] <| jk2 l0 x5 h4))
theorem jb_Scanner_behindWord_2 (G : qz_G) : ∀ (n : Nat) (l0 l2 : Int) (h : qz_H), qz_J yd_Scanner_behindWord G bk_Scanner_behindWord_2 2 [qz_r true 10 l0, qz_u, qz_i l2] [] h 0 0 (fn_Scanner_behindWord_2 n l0 l2 h)
  | 0, _, _, _ => qz_none
  | n + 1, l0, l2, h => jb_Scanner_behindWord_2_b G (fn_Scanner_behindWord_2 n) (jb_Scanner_behindWord_2 G n) l0 l2 h
set_option maxRecDepth 20000 in
theorem cn_Scanner_behindWord (l0 : Int) (l1 : Int) (h : qz_H) : qz_C yd_Scanner_behindWord [qz_r true 10 l0, qz_i l1] h (fn_Scanner_behindWord l0 l1 h) := by
  refine qz_con (is := bk_Scanner_behindWord_0) (ls := [qz_r true 10 l0, qz_i l1, qz_u]) mw_Scanner_behindWord.2.2.2 ca_Scanner_behindWord_0 rfl rfl rfl fun G => ?_
  unfold fn_Scanner_behindWord bk_Scanner_behindWord_0; exact
    qz_iload_n rfl <|
    qz_istore_n (by decide) fun x1 =>
    qz_fall rfl ca_Scanner_behindWord_2 <|
    qz_fgt [1, 0, 1] <| jb_Scanner_behindWord_2 G qz_NF l0 x1 h
def fn_String_coder_14 (s0 : Int) (h : qz_H) : Option qz_R :=
  qz_ck ((-128 : Int) ≤ s0 ∧ (s0 : Int) ≤ 127) (some (s0, h))
set_option maxRecDepth 20000 in
def fn_String_coder (l0 : Int) (h : qz_H) : Option qz_R :=
  if (1 : Int) = 0 then
    fn_String_coder_14 1 h
  else
    fn_String_coder_14 (h l0 1) h
def bk_String_coder_0 : List (Instr × Nat) := [(.getstatic 38, 3), (.ifCond .eq 10, 3), (.aload_n 0, 1), (.getfield 15, 3), (.goto 4, 3)]
def bk_String_coder_13 : List (Instr × Nat) := [(.iconst 1, 1)]
def bk_String_coder_14 : List (Instr × Nat) := [(.ireturn, 1)]
theorem ca_String_coder_0 : qz_ca yd_String_coder.2.1 0 bk_String_coder_0 := qz_cab_ok _ _ (by decide +kernel)
theorem ca_String_coder_13 : qz_ca yd_String_coder.2.1 13 bk_String_coder_13 := qz_cab_ok _ _ (by decide +kernel)
theorem ca_String_coder_14 : qz_ca yd_String_coder.2.1 14 bk_String_coder_14 := qz_cab_ok _ _ (by decide +kernel)
set_option maxRecDepth 20000 in
theorem jb_String_coder_14 (G : qz_G) (s0 : Int) (h : qz_H) : qz_J yd_String_coder G bk_String_coder_14 14 [qz_u] [qz_i s0] h 0 0 (fn_String_coder_14 s0 h) := by
  unfold fn_String_coder_14 bk_String_coder_14; exact
    qz_breturn ⟨rfl, rfl⟩ rfl
set_option maxRecDepth 20000 in
theorem cn_String_coder (l0 : Int) (h : qz_H) : qz_C yd_String_coder [qz_r true 13 l0] h (fn_String_coder l0 h) := by
  refine qz_con (is := bk_String_coder_0) (ls := [qz_r true 13 l0]) mw_String_coder.2.2.2 ca_String_coder_0 rfl rfl rfl fun G => ?_
  unfold fn_String_coder bk_String_coder_0; exact
    qz_getsI sz_java_lang_String_COMPACT_STRINGS sl_java_lang_String_38 rfl <|
    qz_if_eq rfl ca_String_coder_13
      (qz_iconst rfl <|
        qz_fall rfl ca_String_coder_14 <|
        qz_fgt [0] <| jb_String_coder_14 G 1 h)
      (qz_aload_n rfl <|
        qz_getI kg_13 fl_java_lang_String_15 rfl rfl <|
        qz_goto rfl ca_String_coder_14 <|
        qz_fgt [0] <| jb_String_coder_14 G (h l0 1) h)
set_option maxRecDepth 20000 in
def fn_String_length (l0 : Int) (h : qz_H) : Option qz_R :=
  qz_ck ((h l0 0 : Int) ≠ 0) <|
  qz_bc (fn_String_coder l0 h) fun r1 h2 =>
  some (qz_shr (h (h l0 0) (-1)) r1, h2)
def bk_String_length_0 : List (Instr × Nat) := [(.aload_n 0, 1), (.getfield 9, 3), (.arraylength, 1), (.aload_n 0, 1), (.invokevirtual 335, 3), (.ishr, 1), (.ireturn, 1)]
theorem ca_String_length_0 : qz_ca yd_String_length.2.1 0 bk_String_length_0 := qz_cab_ok _ _ (by decide +kernel)
set_option maxRecDepth 20000 in
theorem cn_String_length (l0 : Int) (h : qz_H) : qz_C yd_String_length [qz_r true 13 l0] h (fn_String_length l0 h) := by
  refine qz_con (is := bk_String_length_0) (ls := [qz_r true 13 l0]) mw_String_length.2.2.2 ca_String_length_0 rfl rfl rfl fun G => ?_
  unfold fn_String_length bk_String_length_0; exact
    qz_aload_n rfl <|
    qz_getR (k1 := 43) kg_13 fl_java_lang_String_9 rfl rfl <|
    qz_nnd 0 rfl <|
    qz_alen (k0 := 43) rfl <|
    qz_aload_n rfl <|
    qz_invvI [] rfl (cn_String_coder l0 h) mw_String_coder vw_String_coder ⟨_, rfl, rfl, by decide⟩ rfl rfl ln_java_lang_String_335 rfl fun r1 h2 =>
    qz_ishr <|
    qz_ireturn ⟨rfl, rfl⟩ rfl
def fn_String_isLatin1_18 (s0 : Int) (h : qz_H) : Option qz_R :=
  qz_ck ((s0 : Int) = 0 ∨ (s0 : Int) = 1) (some (s0, h))
def fn_String_isLatin1_17 (h : qz_H) : Option qz_R :=
  fn_String_isLatin1_18 0 h
set_option maxRecDepth 20000 in
def fn_String_isLatin1 (l0 : Int) (h : qz_H) : Option qz_R :=
  if (1 : Int) = 0 then
    fn_String_isLatin1_17 h
  else
    if ¬ h l0 1 = 0 then
      fn_String_isLatin1_17 h
    else
      fn_String_isLatin1_18 1 h
def bk_String_isLatin1_0 : List (Instr × Nat) := [(.getstatic 38, 3), (.ifCond .eq 14, 3), (.aload_n 0, 1), (.getfield 15, 3), (.ifCond .ne 7, 3), (.iconst 1, 1), (.goto 4, 3)]
def bk_String_isLatin1_17 : List (Instr × Nat) := [(.iconst 0, 1)]
def bk_String_isLatin1_18 : List (Instr × Nat) := [(.ireturn, 1)]
theorem ca_String_isLatin1_0 : qz_ca yd_String_isLatin1.2.1 0 bk_String_isLatin1_0 := qz_cab_ok _ _ (by decide +kernel)
theorem ca_String_isLatin1_17 : qz_ca yd_String_isLatin1.2.1 17 bk_String_isLatin1_17 := qz_cab_ok _ _ (by decide +kernel)
theorem ca_String_isLatin1_18 : qz_ca yd_String_isLatin1.2.1 18 bk_String_isLatin1_18 := qz_cab_ok _ _ (by decide +kernel)
set_option maxRecDepth 20000 in
theorem jb_String_isLatin1_18 (G : qz_G) (s0 : Int) (h : qz_H) : qz_J yd_String_isLatin1 G bk_String_isLatin1_18 18 [qz_u] [qz_i s0] h 0 0 (fn_String_isLatin1_18 s0 h) := by
  unfold fn_String_isLatin1_18 bk_String_isLatin1_18; exact
    qz_zreturn ⟨rfl, rfl⟩ rfl
set_option maxRecDepth 20000 in
theorem jb_String_isLatin1_17 (G : qz_G) (h : qz_H) : qz_J yd_String_isLatin1 G bk_String_isLatin1_17 17 [qz_u] [] h 0 0 (fn_String_isLatin1_17 h) := by
  unfold fn_String_isLatin1_17 bk_String_isLatin1_17; exact
    qz_iconst rfl <|
    qz_fall rfl ca_String_isLatin1_18 <|
    qz_fgt [0] <| jb_String_isLatin1_18 G 0 h
set_option maxRecDepth 20000 in
theorem cn_String_isLatin1 (l0 : Int) (h : qz_H) : qz_C yd_String_isLatin1 [qz_r true 13 l0] h (fn_String_isLatin1 l0 h) := by
  refine qz_con (is := bk_String_isLatin1_0) (ls := [qz_r true 13 l0]) mw_String_isLatin1.2.2.2 ca_String_isLatin1_0 rfl rfl rfl fun G => ?_
  unfold fn_String_isLatin1 bk_String_isLatin1_0; exact
    qz_getsI sz_java_lang_String_COMPACT_STRINGS sl_java_lang_String_38 rfl <|
    qz_if_eq rfl ca_String_isLatin1_17
      (qz_fgt [0] <| jb_String_isLatin1_17 G h)
      (qz_aload_n rfl <|
        qz_getI kg_13 fl_java_lang_String_15 rfl rfl <|
        qz_if_ne rfl ca_String_isLatin1_17
          (qz_fgt [0] <| jb_String_isLatin1_17 G h)
          (qz_iconst rfl <|
            qz_goto rfl ca_String_isLatin1_18 <|
            qz_fgt [0] <| jb_String_isLatin1_18 G 1 h))
