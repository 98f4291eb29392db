def fn_Encoder_numberSignatures_98 (l2 : Int) (h : qz_H) : Option qz_R :=
  some (l2, h)
def fn_Encoder_numberSignatures_90 (k4 : Int → Int → Int → Int → qz_H → Option qz_R) (l0 : Int) (l1 : Int) (l3 : Int) (s0 : Int) (s1 : Int) (h : qz_H) : Option qz_R :=
  qz_bn (qz_w (s0 + s1) : Int) fun x1 =>
  qz_bn (qz_w (l3 + 1)) fun x2 =>
  k4 l0 l1 x1 x2 h
def fn_Encoder_numberSignatures_74 (k4 : Int → Int → Int → Int → qz_H → Option qz_R) (l0 : Int) (l1 : Int) (l2 : Int) (l3 : Int) (h : qz_H) : Option qz_R :=
  qz_ck ((h l0 1 : Int) ≠ 0) <|
  qz_ck ((0 : Int) ≤ l3 ∧ l3 < h (h l0 1) (-1)) <|
  if ¬ h (h l0 1) l3 = l2 then
    fn_Encoder_numberSignatures_90 k4 l0 l1 l3 l2 0 h
  else
    fn_Encoder_numberSignatures_90 k4 l0 l1 l3 l2 1 h
def fn_Encoder_numberSignatures_27_b (k4 : Int → Int → Int → Int → qz_H → Option qz_R) (k27 : Int → Int → Int → Int → Int → qz_H → Option qz_R) (l0 : Int) (l1 : Int) (l2 : Int) (l3 : Int) (l4 : Int) (h : qz_H) : Option qz_R :=
  if l3 ≤ l4 then
    fn_Encoder_numberSignatures_74 k4 l0 l1 l2 l3 h
  else
    qz_ck ((l1 : Int) ≠ 0) <|
    qz_ck ((h l1 0 : Int) ≠ 0) <|
    qz_ck ((0 : Int) ≤ l4 ∧ l4 < h (h l1 0) (-1)) <|
    qz_ck ((l1 : Int) ≠ 0) <|
    qz_ck ((h l1 0 : Int) ≠ 0) <|
    qz_ck ((0 : Int) ≤ l3 ∧ l3 < h (h l1 0) (-1)) <|
    qz_ck ((h (h l1 0) l4 : Int) ≠ 0) <|
    qz_bc (fn_Function_isCalledLike (h (h l1 0) l4) (h (h l1 0) l3) h) fun r1 h2 =>
    if r1 = 0 then
      qz_bn (qz_w (l4 + 1)) fun x3 =>
      k27 l0 l1 l2 l3 x3 h2
    else
      qz_ck ((h2 l0 1 : Int) ≠ 0) <|
      qz_ck ((0 : Int) ≤ l4 ∧ l4 < h2 (h2 l0 1) (-1)) <|
      qz_ck ((h2 l0 1 : Int) ≠ 0) <|
      qz_ck (0 < h2 l0 1 ∧ (0 : Int) ≤ l3 ∧ l3 < h2 (h2 l0 1) (-1)) <|
      qz_bn (qz_up h2 (h2 l0 1) l3 (h2 (h2 l0 1) l4)) fun h4 =>
      fn_Encoder_numberSignatures_74 k4 l0 l1 l2 l3 h4
def fn_Encoder_numberSignatures_27 (k4 : Int → Int → Int → Int → qz_H → Option qz_R) : Nat → Int → Int → Int → Int → Int → qz_H → Option qz_R
  | 0, _, _, _, _, _, _ => none
  | n + 1, l0, l1, l2, l3, l4, h => fn_Encoder_numberSignatures_27_b k4 (fn_Encoder_numberSignatures_27 k4 n) l0 l1 l2 l3 l4 h
def fn_Encoder_numberSignatures_4_b (k4 : Int → Int → Int → Int → qz_H → Option qz_R) (l0 : Int) (l1 : Int) (l2 : Int) (l3 : Int) (h : qz_H) : Option qz_R :=
  qz_ck ((l1 : Int) ≠ 0) <|
  if h l1 3 ≤ l3 then
    fn_Encoder_numberSignatures_98 l2 h
  else
    if 4 ≤ l3 then
      fn_Encoder_numberSignatures_98 l2 h
    else
      qz_ck ((h l0 1 : Int) ≠ 0) <|
      qz_ck (0 < h l0 1 ∧ (0 : Int) ≤ l3 ∧ l3 < h (h l0 1) (-1)) <|
      qz_bn (qz_up h (h l0 1) l3 l2) fun h1 =>
      qz_bn (0 : Int) fun x2 =>
      fn_Encoder_numberSignatures_27 k4 qz_NF l0 l1 l2 l3 x2 h1
def fn_Encoder_numberSignatures_4 : Nat → Int → Int → Int → Int → qz_H → Option qz_R
  | 0, _, _, _, _, _ => none
  | n + 1, l0, l1, l2, l3, h => fn_Encoder_numberSignatures_4_b (fn_Encoder_numberSignatures_4 n) l0 l1 l2 l3 h
set_option maxRecDepth 20000 in
def fn_Encoder_numberSignatures (l0 : Int) (l1 : Int) (h : qz_H) : Option qz_R :=
  qz_bn (0 : Int) fun x1 =>
  qz_bn (0 : Int) fun x2 =>
  fn_Encoder_numberSignatures_4 qz_NF l0 l1 x1 x2 h
def bk_Encoder_numberSignatures_0 : List (Instr × Nat) := [(.iconst 0, 1), (.istore_n 2, 1), (.iconst 0, 1), (.istore_n 3, 1)]
def bk_Encoder_numberSignatures_4 : List (Instr × Nat) := [(.iload_n 3, 1), (.aload_n 1, 1), (.getfield 30, 3), (.if_icmp .ge 89, 3), (.iload_n 3, 1), (.iconst 4, 1), (.if_icmp .ge 84, 3), (.aload_n 0, 1), (.getfield 15, 3), (.iload_n 3, 1), (.iload_n 2, 1), (.iastore, 1), (.iconst 0, 1), (.istore 4, 2)]
def bk_Encoder_numberSignatures_98 : List (Instr × Nat) := [(.iload_n 2, 1), (.ireturn, 1)]
def bk_Encoder_numberSignatures_27 : List (Instr × Nat) := [(.iload 4, 2), (.iload_n 3, 1), (.if_icmp .ge 44, 3), (.aload_n 1, 1), (.getfield 51, 3), (.iload 4, 2), (.aaload, 1), (.aload_n 1, 1), (.getfield 51, 3), (.iload_n 3, 1), (.aaload, 1), (.invokevirtual 62, 3), (.ifCond .eq 19, 3), (.aload_n 0, 1), (.getfield 15, 3), (.iload_n 3, 1), (.aload_n 0, 1), (.getfield 15, 3), (.iload 4, 2), (.iaload, 1), (.iastore, 1), (.goto 9, 3)]
def bk_Encoder_numberSignatures_74 : List (Instr × Nat) := [(.iload_n 2, 1), (.aload_n 0, 1), (.getfield 15, 3), (.iload_n 3, 1), (.iaload, 1), (.iload_n 2, 1), (.if_icmp .ne 7, 3), (.iconst 1, 1), (.goto 4, 3)]
def bk_Encoder_numberSignatures_68 : List (Instr × Nat) := [(.iinc 4 1, 3), (.goto (-44), 3)]
def bk_Encoder_numberSignatures_89 : List (Instr × Nat) := [(.iconst 0, 1)]
def bk_Encoder_numberSignatures_90 : List (Instr × Nat) := [(.iadd, 1), (.istore_n 2, 1), (.iinc 3 1, 3), (.goto (-91), 3)]
theorem ca_Encoder_numberSignatures_0 : qz_ca yd_Encoder_numberSignatures.2.1 0 bk_Encoder_numberSignatures_0 := qz_cab_ok _ _ (by decide +kernel)
theorem ca_Encoder_numberSignatures_4 : qz_ca yd_Encoder_numberSignatures.2.1 4 bk_Encoder_numberSignatures_4 := qz_cab_ok _ _ (by decide +kernel)
theorem ca_Encoder_numberSignatures_98 : qz_ca yd_Encoder_numberSignatures.2.1 98 bk_Encoder_numberSignatures_98 := qz_cab_ok _ _ (by decide +kernel)
theorem ca_Encoder_numberSignatures_27 : qz_ca yd_Encoder_numberSignatures.2.1 27 bk_Encoder_numberSignatures_27 := qz_cab_ok _ _ (by decide +kernel)
theorem ca_Encoder_numberSignatures_74 : qz_ca yd_Encoder_numberSignatures.2.1 74 bk_Encoder_numberSignatures_74 := qz_cab_ok _ _ (by decide +kernel)
theorem ca_Encoder_numberSignatures_68 : qz_ca yd_Encoder_numberSignatures.2.1 68 bk_Encoder_numberSignatures_68 := qz_cab_ok _ _ (by decide +kernel)
theorem ca_Encoder_numberSignatures_89 : qz_ca yd_Encoder_numberSignatures.2.1 89 bk_Encoder_numberSignatures_89 := qz_cab_ok _ _ (by decide +kernel)
theorem ca_Encoder_numberSignatures_90 : qz_ca yd_Encoder_numberSignatures.2.1 90 bk_Encoder_numberSignatures_90 := qz_cab_ok _ _ (by decide +kernel)
set_option maxRecDepth 20000 in
theorem jb_Encoder_numberSignatures_98 (G : qz_G) (l2 : Int) (h : qz_H) : qz_J yd_Encoder_numberSignatures G bk_Encoder_numberSignatures_98 98 [qz_u, qz_u, qz_i l2, qz_u, qz_u] [] h 0 0 (fn_Encoder_numberSignatures_98 l2 h) := by
  unfold fn_Encoder_numberSignatures_98 bk_Encoder_numberSignatures_98; exact
    qz_iload_n rfl <|
    qz_ireturn ⟨rfl, rfl⟩ rfl
set_option maxRecDepth 20000 in
theorem jb_Encoder_numberSignatures_90 (G : qz_G) (k4 : Int → Int → Int → Int → qz_H → Option qz_R) (jk4 : ∀ (l0 : Int) (l1 : Int) (l2 : Int) (l3 : Int) (h : qz_H), qz_J yd_Encoder_numberSignatures G bk_Encoder_numberSignatures_4 4 [qz_r true 2 l0, qz_r false 6 l1, qz_i l2, qz_i l3, qz_u] [] h 0 0 (k4 l0 l1 l2 l3 h)) (l0 : Int) (l1 : Int) (l3 : Int) (s0 : Int) (s1 : Int) (h : qz_H) : qz_J yd_Encoder_numberSignatures G bk_Encoder_numberSignatures_90 90 [qz_r true 2 l0, qz_r false 6 l1, qz_u, qz_i l3, qz_u] [qz_i s1, qz_i s0] h 0 0 (fn_Encoder_numberSignatures_90 k4 l0 l1 l3 s0 s1 h) := by
  unfold fn_Encoder_numberSignatures_90 bk_Encoder_numberSignatures_90; exact
    qz_iadd <|
    qz_istore_n (by decide) fun x1 =>
    qz_iinc rfl (by decide) fun x2 =>
    qz_goto rfl ca_Encoder_numberSignatures_4 <|
    qz_fgt [1, 1, 1, 1, 0] <| jk4 l0 l1 x1 x2 h
set_option maxRecDepth 20000 in
theorem jb_Encoder_numberSignatures_74 (G : qz_G) (k4 : Int → Int → Int → Int → qz_H → Option qz_R) (jk4 : ∀ (l0 : Int) (l1 : Int) (l2 : Int) (l3 : Int) (h : qz_H), qz_J yd_Encoder_numberSignatures G bk_Encoder_numberSignatures_4 4 [qz_r true 2 l0, qz_r false 6 l1, qz_i l2, qz_i l3, qz_u] [] h 0 0 (k4 l0 l1 l2 l3 h)) (l0 : Int) (l1 : Int) (l2 : Int) (l3 : Int) (h : qz_H) : qz_J yd_Encoder_numberSignatures G bk_Encoder_numberSignatures_74 74 [qz_r true 2 l0, qz_r false 6 l1, qz_i l2, qz_i l3, qz_u] [] h 0 0 (fn_Encoder_numberSignatures_74 k4 l0 l1 l2 l3 h) := by
  unfold fn_Encoder_numberSignatures_74 bk_Encoder_numberSignatures_74; exact
    qz_iload_n rfl <|
    qz_aload_n rfl <|
    qz_getR (k1 := 40) kg_2 fl_Encoder_15 rfl rfl <|
    qz_iload_n rfl <|
    qz_nnd 1 rfl <|
    qz_iald (k0 := 40) rfl rfl rfl <|
    qz_iload_n rfl <|
    qz_icmp_ne rfl ca_Encoder_numberSignatures_89
      (qz_iconst rfl <|
        qz_fall rfl ca_Encoder_numberSignatures_90 <|
        qz_fgt [1, 1, 0, 1, 0] <| jb_Encoder_numberSignatures_90 G k4 jk4 l0 l1 l3 l2 0 h)
      (qz_iconst rfl <|
        qz_goto rfl ca_Encoder_numberSignatures_90 <|
        qz_fgt [1, 1, 0, 1, 0] <| jb_Encoder_numberSignatures_90 G k4 jk4 l0 l1 l3 l2 1 h)
set_option maxRecDepth 20000 in
theorem jb_Encoder_numberSignatures_27_b (G : qz_G) (k4 : Int → Int → Int → Int → qz_H → Option qz_R) (jk4 : ∀ (l0 : Int) (l1 : Int) (l2 : Int) (l3 : Int) (h : qz_H), qz_J yd_Encoder_numberSignatures G bk_Encoder_numberSignatures_4 4 [qz_r true 2 l0, qz_r false 6 l1, qz_i l2, qz_i l3, qz_u] [] h 0 0 (k4 l0 l1 l2 l3 h)) (k27 : Int → Int → Int → Int → Int → qz_H → Option qz_R) (jk27 : ∀ (l0 : Int) (l1 : Int) (l2 : Int) (l3 : Int) (l4 : Int) (h : qz_H), qz_J yd_Encoder_numberSignatures G bk_Encoder_numberSignatures_27 27 [qz_r true 2 l0, qz_r false 6 l1, qz_i l2, qz_i l3, qz_i l4] [] h 0 0 (k27 l0 l1 l2 l3 l4 h)) (l0 : Int) (l1 : Int) (l2 : Int) (l3 : Int) (l4 : Int) (h : qz_H) : qz_J yd_Encoder_numberSignatures G bk_Encoder_numberSignatures_27 27 [qz_r true 2 l0, qz_r false 6 l1, qz_i l2, qz_i l3, qz_i l4] [] h 0 0 (fn_Encoder_numberSignatures_27_b k4 k27 l0 l1 l2 l3 l4 h) := by
  unfold fn_Encoder_numberSignatures_27_b bk_Encoder_numberSignatures_27; exact
    qz_iload rfl <|
    qz_iload_n rfl <|
    qz_icmp_ge rfl ca_Encoder_numberSignatures_74
      (qz_fgt [1, 1, 1, 1, 0] <| jb_Encoder_numberSignatures_74 G k4 jk4 l0 l1 l2 l3 h)
      (qz_aload_n rfl <|
        qz_nnd 0 rfl <|
        qz_getR (k1 := 45) kg_6 fl_Encoder_51 rfl rfl <|
        qz_iload rfl <|
        qz_nnd 1 rfl <|
        qz_aald (k0 := 45) (k1 := 4) rfl rfl rfl <|
        qz_aload_n rfl <|
        qz_nnd 0 rfl <|
        qz_getR (k1 := 45) kg_6 fl_Encoder_51 rfl rfl <|
        qz_iload_n rfl <|
        qz_nnd 1 rfl <|
        qz_aald (k0 := 45) (k1 := 4) rfl rfl rfl <|
        qz_nnd 1 rfl <|
        qz_invvI [qz_r false 4 (h (h l1 0) l3)] rfl (cn_Function_isCalledLike (h (h l1 0) l4) (h (h l1 0) l3) h) mw_Function_isCalledLike vw_Function_isCalledLike ⟨_, rfl, rfl, by decide⟩ rfl rfl ln_Encoder_62 rfl fun r1 h2 =>
        qz_if_eq rfl ca_Encoder_numberSignatures_68
          (qz_iinc rfl (by decide) fun x3 =>
            qz_goto rfl ca_Encoder_numberSignatures_27 <|
            qz_fgt [1, 1, 1, 1, 1] <| jk27 l0 l1 l2 l3 x3 h2)
          (qz_aload_n rfl <|
            qz_getR (k1 := 40) kg_2 fl_Encoder_15 rfl rfl <|
            qz_iload_n rfl <|
            qz_aload_n rfl <|
            qz_getR (k1 := 40) kg_2 fl_Encoder_15 rfl rfl <|
            qz_iload rfl <|
            qz_nnd 1 rfl <|
            qz_iald (k0 := 40) rfl rfl rfl <|
            qz_nnd 2 rfl <|
            qz_iast rfl rfl rfl fun h4 =>
            qz_goto rfl ca_Encoder_numberSignatures_74 <|
            qz_fgt [1, 1, 1, 1, 0] <| jb_Encoder_numberSignatures_74 G k4 jk4 l0 l1 l2 l3 h4))
theorem jb_Encoder_numberSignatures_27 (G : qz_G) (k4 : Int → Int → Int → Int → qz_H → Option qz_R) (jk4 : ∀ (l0 : Int) (l1 : Int) (l2 : Int) (l3 : Int) (h : qz_H), qz_J yd_Encoder_numberSignatures G bk_Encoder_numberSignatures_4 4 [qz_r true 2 l0, qz_r false 6 l1, qz_i l2, qz_i l3, qz_u] [] h 0 0 (k4 l0 l1 l2 l3 h)) : ∀ (n : Nat) (l0 l1 l2 l3 l4 : Int) (h : qz_H), qz_J yd_Encoder_numberSignatures G bk_Encoder_numberSignatures_27 27 [qz_r true 2 l0, qz_r false 6 l1, qz_i l2, qz_i l3, qz_i l4] [] h 0 0 (fn_Encoder_numberSignatures_27 k4 n l0 l1 l2 l3 l4 h)
  | 0, _, _, _, _, _, _ => qz_none
  | n + 1, l0, l1, l2, l3, l4, h => jb_Encoder_numberSignatures_27_b G k4 jk4 (fn_Encoder_numberSignatures_27 k4 n) (jb_Encoder_numberSignatures_27 G k4 jk4 n) l0 l1 l2 l3 l4 h
set_option maxRecDepth 20000 in
theorem jb_Encoder_numberSignatures_4_b (G : qz_G) (k4 : Int → Int → Int → Int → qz_H → Option qz_R) (jk4 : ∀ (l0 : Int) (l1 : Int) (l2 : Int) (l3 : Int) (h : qz_H), qz_J yd_Encoder_numberSignatures G bk_Encoder_numberSignatures_4 4 [qz_r true 2 l0, qz_r false 6 l1, qz_i l2, qz_i l3, qz_u] [] h 0 0 (k4 l0 l1 l2 l3 h)) (l0 : Int) (l1 : Int) (l2 : Int) (l3 : Int) (h : qz_H) : qz_J yd_Encoder_numberSignatures G bk_Encoder_numberSignatures_4 4 [qz_r true 2 l0, qz_r false 6 l1, qz_i l2, qz_i l3, qz_u] [] h 0 0 (fn_Encoder_numberSignatures_4_b k4 l0 l1 l2 l3 h) := by
  unfold fn_Encoder_numberSignatures_4_b bk_Encoder_numberSignatures_4; exact
    qz_iload_n rfl <|
    qz_aload_n rfl <|
    qz_nnd 0 rfl <|
    qz_getI kg_6 fl_Encoder_30 rfl rfl <|
    qz_icmp_ge rfl ca_Encoder_numberSignatures_98
      (qz_fgt [0, 0, 1, 0, 0] <| jb_Encoder_numberSignatures_98 G l2 h)
      (qz_iload_n rfl <|
        qz_iconst rfl <|
        qz_icmp_ge rfl ca_Encoder_numberSignatures_98
          (qz_fgt [0, 0, 1, 0, 0] <| jb_Encoder_numberSignatures_98 G l2 h)
          (qz_aload_n rfl <|
            qz_getR (k1 := 40) kg_2 fl_Encoder_15 rfl rfl <|
            qz_iload_n rfl <|
            qz_iload_n rfl <|
            qz_nnd 2 rfl <|
            qz_iast rfl rfl rfl fun h1 =>
            qz_iconst rfl <|
            qz_istore (by decide) fun x2 =>
            qz_fall rfl ca_Encoder_numberSignatures_27 <|
            qz_fgt [1, 1, 1, 1, 1] <| jb_Encoder_numberSignatures_27 G k4 jk4 qz_NF l0 l1 l2 l3 x2 h1))
theorem jb_Encoder_numberSignatures_4 (G : qz_G) : ∀ (n : Nat) (l0 l1 l2 l3 : Int) (h : qz_H), qz_J yd_Encoder_numberSignatures G bk_Encoder_numberSignatures_4 4 [qz_r true 2 l0, qz_r false 6 l1, qz_i l2, qz_i l3, qz_u] [] h 0 0 (fn_Encoder_numberSignatures_4 n l0 l1 l2 l3 h)
  | 0, _, _, _, _, _ => qz_none
  | n + 1, l0, l1, l2, l3, h => jb_Encoder_numberSignatures_4_b G (fn_Encoder_numberSignatures_4 n) (jb_Encoder_numberSignatures_4 G n) l0 l1 l2 l3 h
set_option maxRecDepth 20000 in
theorem cn_Encoder_numberSignatures (l0 : Int) (l1 : Int) (h : qz_H) : qz_C yd_Encoder_numberSignatures [qz_r true 2 l0, qz_r false 6 l1] h (fn_Encoder_numberSignatures l0 l1 h) := by
  refine qz_con (is := bk_Encoder_numberSignatures_0) (ls := [qz_r true 2 l0, qz_r false 6 l1, qz_u, qz_u, qz_u]) mw_Encoder_numberSignatures.2.2.2 ca_Encoder_numberSignatures_0 rfl rfl rfl fun G => ?_
  unfold fn_Encoder_numberSignatures bk_Encoder_numberSignatures_0; exact
    qz_iconst rfl <|
    qz_istore_n (by decide) fun x1 =>
    qz_iconst rfl <|
    qz_istore_n (by decide) fun x2 =>
    qz_fall rfl ca_Encoder_numberSignatures_4 <|
    qz_fgt [1, 1, 1, 1, 0] <| jb_Encoder_numberSignatures_4 G qz_NF l0 l1 x1 x2 h
def fn_Encoder_addUnsigned_46 (l0 : Int) (l3 : Int) (h : qz_H) : Option qz_R :=
  qz_bc (fn_Encoder_add l0 (qz_w (qz_andJ l3 127)) h) fun _ h2 =>
  some (0, h2)
def fn_Encoder_addUnsigned_5_b (k5 : Int → Int → Int → qz_H → Option qz_R) (l0 : Int) (l3 : Int) (l5 : Int) (h : qz_H) : Option qz_R :=
  if 9 ≤ l5 then
    fn_Encoder_addUnsigned_46 l0 l3 h
  else
    if qz_cmp (qz_ushJ l3 7) 0 = 0 then
      fn_Encoder_addUnsigned_46 l0 l3 h
    else
      qz_bc (fn_Encoder_add l0 (qz_or (qz_w (qz_andJ l3 127)) 128) h) fun _ h2 =>
      qz_bn (qz_ushJ l3 7 : Int) fun x3 =>
      qz_bn (qz_w (l5 + 1)) fun x4 =>
      k5 l0 x3 x4 h2
def fn_Encoder_addUnsigned_5 : Nat → Int → Int → Int → qz_H → Option qz_R
  | 0, _, _, _, _ => none
  | n + 1, l0, l3, l5, h => fn_Encoder_addUnsigned_5_b (fn_Encoder_addUnsigned_5 n) l0 l3 l5 h
set_option maxRecDepth 20000 in
def fn_Encoder_addUnsigned (l0 : Int) (l1 : Int) (h : qz_H) : Option qz_R :=
  qz_bn (l1 : Int) fun x1 =>
  qz_bn (0 : Int) fun x2 =>
  fn_Encoder_addUnsigned_5 qz_NF l0 x1 x2 h
def bk_Encoder_addUnsigned_0 : List (Instr × Nat) := [(.lload_n 1, 1), (.lstore_n 3, 1), (.iconst 0, 1), (.istore 5, 2)]
def bk_Encoder_addUnsigned_5 : List (Instr × Nat) := [(.iload 5, 2), (.bipush 9, 2), (.if_icmp .ge 37, 3), (.lload_n 3, 1), (.bipush 7, 2), (.lushr, 1), (.lconst 0, 1), (.lcmp, 1), (.ifCond .eq 28, 3), (.aload_n 0, 1), (.lload_n 3, 1), (.ldc2_w 128, 3), (.land, 1), (.l2i, 1), (.sipush 128, 3), (.ior, 1), (.invokevirtual 26, 3), (.lload_n 3, 1), (.bipush 7, 2), (.lushr, 1), (.lstore_n 3, 1), (.iinc 5 1, 3), (.goto (-38), 3)]
def bk_Encoder_addUnsigned_46 : List (Instr × Nat) := [(.aload_n 0, 1), (.lload_n 3, 1), (.ldc2_w 128, 3), (.land, 1), (.l2i, 1), (.invokevirtual 26, 3), (.return_, 1)]
theorem ca_Encoder_addUnsigned_0 : qz_ca yd_Encoder_addUnsigned.2.1 0 bk_Encoder_addUnsigned_0 := qz_cab_ok _ _ (by decide +kernel)
theorem ca_Encoder_addUnsigned_5 : qz_ca yd_Encoder_addUnsigned.2.1 5 bk_Encoder_addUnsigned_5 := qz_cab_ok _ _ (by decide +kernel)
theorem ca_Encoder_addUnsigned_46 : qz_ca yd_Encoder_addUnsigned.2.1 46 bk_Encoder_addUnsigned_46 := qz_cab_ok _ _ (by decide +kernel)
set_option maxRecDepth 20000 in
theorem jb_Encoder_addUnsigned_46 (G : qz_G) (l0 : Int) (l3 : Int) (h : qz_H) : qz_J yd_Encoder_addUnsigned G bk_Encoder_addUnsigned_46 46 [qz_r true 2 l0, qz_u, qz_u, qz_j l3, qz_u, qz_u] [] h 0 0 (fn_Encoder_addUnsigned_46 l0 l3 h) := by
  unfold fn_Encoder_addUnsigned_46 bk_Encoder_addUnsigned_46; exact
    qz_aload_n rfl <|
    qz_lload_n rfl <|
    qz_ldc2 wc_Encoder_128 rfl <|
    qz_land <|
    qz_l2i <|
    qz_invvV [qz_i (qz_w (qz_andJ l3 127))] rfl (cn_Encoder_add l0 (qz_w (qz_andJ l3 127)) h) mw_Encoder_add vw_Encoder_add ⟨_, rfl, rfl, by decide⟩ rfl rfl ln_Encoder_26 rfl fun _ h2 =>
    qz_return ⟨rfl, rfl⟩ rfl
set_option maxRecDepth 20000 in
theorem jb_Encoder_addUnsigned_5_b (G : qz_G) (k5 : Int → Int → Int → qz_H → Option qz_R) (jk5 : ∀ (l0 : Int) (l3 : Int) (l5 : Int) (h : qz_H), qz_J yd_Encoder_addUnsigned G bk_Encoder_addUnsigned_5 5 [qz_r true 2 l0, qz_u, qz_u, qz_j l3, qz_u, qz_i l5] [] h 0 0 (k5 l0 l3 l5 h)) (l0 : Int) (l3 : Int) (l5 : Int) (h : qz_H) : qz_J yd_Encoder_addUnsigned G bk_Encoder_addUnsigned_5 5 [qz_r true 2 l0, qz_u, qz_u, qz_j l3, qz_u, qz_i l5] [] h 0 0 (fn_Encoder_addUnsigned_5_b k5 l0 l3 l5 h) := by
  unfold fn_Encoder_addUnsigned_5_b bk_Encoder_addUnsigned_5; exact
    qz_iload rfl <|
    qz_bipush rfl <|
    qz_icmp_ge rfl ca_Encoder_addUnsigned_46
      (qz_fgt [1, 0, 0, 1, 0, 0] <| jb_Encoder_addUnsigned_46 G l0 l3 h)
      (qz_lload_n rfl <|
        qz_bipush rfl <|
        qz_lushr <|
        qz_lconst rfl <|
        qz_lcmp <|
        qz_if_eq rfl ca_Encoder_addUnsigned_46
          (qz_fgt [1, 0, 0, 1, 0, 0] <| jb_Encoder_addUnsigned_46 G l0 l3 h)
          (qz_aload_n rfl <|
            qz_lload_n rfl <|
            qz_ldc2 wc_Encoder_128 rfl <|
            qz_land <|
            qz_l2i <|
            qz_sipush rfl <|
            qz_ior <|
            qz_invvV [qz_i (qz_or (qz_w (qz_andJ l3 127)) 128)] rfl (cn_Encoder_add l0 (qz_or (qz_w (qz_andJ l3 127)) 128) h) mw_Encoder_add vw_Encoder_add ⟨_, rfl, rfl, by decide⟩ rfl rfl ln_Encoder_26 rfl fun _ h2 =>
            qz_lload_n rfl <|
            qz_bipush rfl <|
            qz_lushr <|
            qz_lstore_n (by decide) fun x3 =>
            qz_iinc rfl (by decide) fun x4 =>
            qz_goto rfl ca_Encoder_addUnsigned_5 <|
            qz_fgt [1, 0, 0, 1, 0, 1] <| jk5 l0 x3 x4 h2))
theorem jb_Encoder_addUnsigned_5 (G : qz_G) : ∀ (n : Nat) (l0 l3 l5 : Int) (h : qz_H), qz_J yd_Encoder_addUnsigned G bk_Encoder_addUnsigned_5 5 [qz_r true 2 l0, qz_u, qz_u, qz_j l3, qz_u, qz_i l5] [] h 0 0 (fn_Encoder_addUnsigned_5 n l0 l3 l5 h)
  | 0, _, _, _, _ => qz_none
  | n + 1, l0, l3, l5, h => jb_Encoder_addUnsigned_5_b G (fn_Encoder_addUnsigned_5 n) (jb_Encoder_addUnsigned_5 G n) l0 l3 l5 h
set_option maxRecDepth 20000 in
theorem cn_Encoder_addUnsigned (l0 : Int) (l1 : Int) (h : qz_H) : qz_C yd_Encoder_addUnsigned [qz_r true 2 l0, qz_j l1] h (fn_Encoder_addUnsigned l0 l1 h) := by
  refine qz_con (is := bk_Encoder_addUnsigned_0) (ls := [qz_r true 2 l0, qz_j l1, qz_u, qz_u, qz_u, qz_u]) mw_Encoder_addUnsigned.2.2.2 ca_Encoder_addUnsigned_0 rfl rfl rfl fun G => ?_
  unfold fn_Encoder_addUnsigned bk_Encoder_addUnsigned_0; exact
    qz_lload_n rfl <|
    qz_lstore_n (by decide) fun x1 =>
    qz_iconst rfl <|
    qz_istore (by decide) fun x2 =>
    qz_fall rfl ca_Encoder_addUnsigned_5 <|
    qz_fgt [1, 0, 0, 1, 0, 1] <| jb_Encoder_addUnsigned_5 G qz_NF l0 x1 x2 h
def fn_Encoder_addType_29 (h : qz_H) : Option qz_R :=
  some (0, h)
def fn_Encoder_addType_26 (s0 : Int) (s1 : Int) (h : qz_H) : Option qz_R :=
  qz_bc (fn_Encoder_add s0 s1 h) fun _ h2 =>
  fn_Encoder_addType_29 h2
set_option maxRecDepth 20000 in
def fn_Encoder_addType (l0 : Int) (l1 : Int) (h : qz_H) : Option qz_R :=
  if ¬ l1 = 0 then
    if ¬ l1 = 1 then
      fn_Encoder_addType_26 l0 126 h
    else
      fn_Encoder_addType_26 l0 127 h
  else
    qz_bc (fn_Encoder_add l0 64 h) fun _ h2 =>
    fn_Encoder_addType_29 h2
def bk_Encoder_addType_0 : List (Instr × Nat) := [(.iload_n 1, 1), (.ifCond .ne 12, 3), (.aload_n 0, 1), (.bipush 64, 2), (.invokevirtual 26, 3), (.goto 19, 3)]
def bk_Encoder_addType_13 : List (Instr × Nat) := [(.aload_n 0, 1), (.iload_n 1, 1), (.iconst 1, 1), (.if_icmp .ne 8, 3), (.bipush 127, 2), (.goto 5, 3)]
def bk_Encoder_addType_24 : List (Instr × Nat) := [(.bipush 126, 2)]
def bk_Encoder_addType_26 : List (Instr × Nat) := [(.invokevirtual 26, 3)]
def bk_Encoder_addType_29 : List (Instr × Nat) := [(.return_, 1)]
theorem ca_Encoder_addType_0 : qz_ca yd_Encoder_addType.2.1 0 bk_Encoder_addType_0 := qz_cab_ok _ _ (by decide +kernel)
theorem ca_Encoder_addType_13 : qz_ca yd_Encoder_addType.2.1 13 bk_Encoder_addType_13 := qz_cab_ok _ _ (by decide +kernel)
theorem ca_Encoder_addType_24 : qz_ca yd_Encoder_addType.2.1 24 bk_Encoder_addType_24 := qz_cab_ok _ _ (by decide +kernel)
theorem ca_Encoder_addType_26 : qz_ca yd_Encoder_addType.2.1 26 bk_Encoder_addType_26 := qz_cab_ok _ _ (by decide +kernel)
theorem ca_Encoder_addType_29 : qz_ca yd_Encoder_addType.2.1 29 bk_Encoder_addType_29 := qz_cab_ok _ _ (by decide +kernel)
set_option maxRecDepth 20000 in
theorem jb_Encoder_addType_29 (G : qz_G) (h : qz_H) : qz_J yd_Encoder_addType G bk_Encoder_addType_29 29 [qz_u, qz_u] [] h 0 0 (fn_Encoder_addType_29 h) := by
  unfold fn_Encoder_addType_29 bk_Encoder_addType_29; exact
    qz_return ⟨rfl, rfl⟩ rfl
set_option maxRecDepth 20000 in
theorem jb_Encoder_addType_26 (G : qz_G) (s0 : Int) (s1 : Int) (h : qz_H) : qz_J yd_Encoder_addType G bk_Encoder_addType_26 26 [qz_u, qz_u] [qz_i s1, qz_r true 2 s0] h 0 0 (fn_Encoder_addType_26 s0 s1 h) := by
  unfold fn_Encoder_addType_26 bk_Encoder_addType_26; exact
    qz_invvV [qz_i s1] rfl (cn_Encoder_add s0 s1 h) mw_Encoder_add vw_Encoder_add ⟨_, rfl, rfl, by decide⟩ rfl rfl ln_Encoder_26 rfl fun _ h2 =>
    qz_fall rfl ca_Encoder_addType_29 <|
    qz_fgt [0, 0] <| jb_Encoder_addType_29 G h2
set_option maxRecDepth 20000 in
theorem cn_Encoder_addType (l0 : Int) (l1 : Int) (h : qz_H) : qz_C yd_Encoder_addType [qz_r true 2 l0, qz_i l1] h (fn_Encoder_addType l0 l1 h) := by
  refine qz_con (is := bk_Encoder_addType_0) (ls := [qz_r true 2 l0, qz_i l1]) mw_Encoder_addType.2.2.2 ca_Encoder_addType_0 rfl rfl rfl fun G => ?_
  unfold fn_Encoder_addType bk_Encoder_addType_0; exact
    qz_iload_n rfl <|
    qz_if_ne rfl ca_Encoder_addType_13
      (qz_aload_n rfl <|
        qz_iload_n rfl <|
        qz_iconst rfl <|
        qz_icmp_ne rfl ca_Encoder_addType_24
          (qz_bipush rfl <|
            qz_fall rfl ca_Encoder_addType_26 <|
            qz_fgt [0, 0] <| jb_Encoder_addType_26 G l0 126 h)
          (qz_bipush rfl <|
            qz_goto rfl ca_Encoder_addType_26 <|
            qz_fgt [0, 0] <| jb_Encoder_addType_26 G l0 127 h))
      (qz_aload_n rfl <|
        qz_bipush rfl <|
        qz_invvV [qz_i 64] rfl (cn_Encoder_add l0 64 h) mw_Encoder_add vw_Encoder_add ⟨_, rfl, rfl, by decide⟩ rfl rfl ln_Encoder_26 rfl fun _ h2 =>
        qz_goto rfl ca_Encoder_addType_29 <|
        qz_fgt [0, 0] <| jb_Encoder_addType_29 G h2)
def fn_Encoder_addSignature_78 (h : qz_H) : Option qz_R :=
  some (0, h)
def fn_Encoder_addSignature_60 (l0 : Int) (l1 : Int) (s0 : Int) (s1 : Int) (h : qz_H) : Option qz_R :=
  qz_bc (fn_Encoder_addUnsigned s0 s1 h) fun _ h2 =>
  qz_ck ((l1 : Int) ≠ 0) <|
  if h2 l1 3 = 0 then
    fn_Encoder_addSignature_78 h2
  else
    qz_ck ((l1 : Int) ≠ 0) <|
    qz_bc (fn_Encoder_addType l0 (h2 l1 3) h2) fun _ h4 =>
    fn_Encoder_addSignature_78 h4
def fn_Encoder_addSignature_47 (l0 : Int) (l1 : Int) (h : qz_H) : Option qz_R :=
  qz_ck ((l1 : Int) ≠ 0) <|
  if ¬ h l1 3 = 0 then
    fn_Encoder_addSignature_60 l0 l1 l0 1 h
  else
    fn_Encoder_addSignature_60 l0 l1 l0 0 h
def fn_Encoder_addSignature_17_b (k17 : Int → Int → Int → qz_H → Option qz_R) (l0 : Int) (l1 : Int) (l2 : Int) (h : qz_H) : Option qz_R :=
  qz_ck ((l1 : Int) ≠ 0) <|
  if h l1 1 ≤ l2 then
    fn_Encoder_addSignature_47 l0 l1 h
  else
    if 6 ≤ l2 then
      fn_Encoder_addSignature_47 l0 l1 h
    else
      qz_ck ((l1 : Int) ≠ 0) <|
      qz_ck ((h l1 0 : Int) ≠ 0) <|
      qz_ck ((0 : Int) ≤ l2 ∧ l2 < h (h l1 0) (-1)) <|
      qz_bc (fn_Encoder_addType l0 (h (h l1 0) l2) h) fun _ h2 =>
      qz_bn (qz_w (l2 + 1)) fun x3 =>
      k17 l0 l1 x3 h2
def fn_Encoder_addSignature_17 : Nat → Int → Int → Int → qz_H → Option qz_R
  | 0, _, _, _, _ => none
  | n + 1, l0, l1, l2, h => fn_Encoder_addSignature_17_b (fn_Encoder_addSignature_17 n) l0 l1 l2 h
set_option maxRecDepth 20000 in
def fn_Encoder_addSignature (l0 : Int) (l1 : Int) (h : qz_H) : Option qz_R :=
  qz_bc (fn_Encoder_add l0 96 h) fun _ h2 =>
  qz_ck ((l1 : Int) ≠ 0) <|
  qz_bc (fn_Encoder_addUnsigned l0 (h2 l1 1) h2) fun _ h4 =>
  qz_bn (0 : Int) fun x5 =>
  fn_Encoder_addSignature_17 qz_NF l0 l1 x5 h4
def bk_Encoder_addSignature_0 : List (Instr × Nat) := [(.aload_n 0, 1), (.bipush 96, 2), (.invokevirtual 26, 3), (.aload_n 0, 1), (.aload_n 1, 1), (.getfield 68, 3), (.i2l, 1), (.invokevirtual 47, 3), (.iconst 0, 1), (.istore_n 2, 1)]
def bk_Encoder_addSignature_17 : List (Instr × Nat) := [(.iload_n 2, 1), (.aload_n 1, 1), (.getfield 68, 3), (.if_icmp .ge 25, 3), (.iload_n 2, 1), (.bipush 6, 2), (.if_icmp .ge 19, 3), (.aload_n 0, 1), (.aload_n 1, 1), (.getfield 71, 3), (.iload_n 2, 1), (.iaload, 1), (.invokevirtual 74, 3), (.iinc 2 1, 3), (.goto (-27), 3)]
def bk_Encoder_addSignature_47 : List (Instr × Nat) := [(.aload_n 0, 1), (.aload_n 1, 1), (.getfield 77, 3), (.ifCond .ne 7, 3), (.lconst 0, 1), (.goto 4, 3)]
def bk_Encoder_addSignature_59 : List (Instr × Nat) := [(.lconst 1, 1)]
def bk_Encoder_addSignature_60 : List (Instr × Nat) := [(.invokevirtual 47, 3), (.aload_n 1, 1), (.getfield 77, 3), (.ifCond .eq 11, 3), (.aload_n 0, 1), (.aload_n 1, 1), (.getfield 77, 3), (.invokevirtual 74, 3)]
def bk_Encoder_addSignature_78 : List (Instr × Nat) := [(.return_, 1)]
theorem ca_Encoder_addSignature_0 : qz_ca yd_Encoder_addSignature.2.1 0 bk_Encoder_addSignature_0 := qz_cab_ok _ _ (by decide +kernel)
theorem ca_Encoder_addSignature_17 : qz_ca yd_Encoder_addSignature.2.1 17 bk_Encoder_addSignature_17 := qz_cab_ok _ _ (by decide +kernel)
theorem ca_Encoder_addSignature_47 : qz_ca yd_Encoder_addSignature.2.1 47 bk_Encoder_addSignature_47 := qz_cab_ok _ _ (by decide +kernel)
theorem ca_Encoder_addSignature_59 : qz_ca yd_Encoder_addSignature.2.1 59 bk_Encoder_addSignature_59 := qz_cab_ok _ _ (by decide +kernel)
theorem ca_Encoder_addSignature_60 : qz_ca yd_Encoder_addSignature.2.1 60 bk_Encoder_addSignature_60 := qz_cab_ok _ _ (by decide +kernel)
theorem ca_Encoder_addSignature_78 : qz_ca yd_Encoder_addSignature.2.1 78 bk_Encoder_addSignature_78 := qz_cab_ok _ _ (by decide +kernel)
set_option maxRecDepth 20000 in
theorem jb_Encoder_addSignature_78 (G : qz_G) (h : qz_H) : qz_J yd_Encoder_addSignature G bk_Encoder_addSignature_78 78 [qz_u, qz_u, qz_u] [] h 0 0 (fn_Encoder_addSignature_78 h) := by
  unfold fn_Encoder_addSignature_78 bk_Encoder_addSignature_78; exact
    qz_return ⟨rfl, rfl⟩ rfl
set_option maxRecDepth 20000 in
theorem jb_Encoder_addSignature_60 (G : qz_G) (l0 : Int) (l1 : Int) (s0 : Int) (s1 : Int) (h : qz_H) : qz_J yd_Encoder_addSignature G bk_Encoder_addSignature_60 60 [qz_r true 2 l0, qz_r false 4 l1, qz_u] [qz_j s1, qz_r true 2 s0] h 0 0 (fn_Encoder_addSignature_60 l0 l1 s0 s1 h) := by
  unfold fn_Encoder_addSignature_60 bk_Encoder_addSignature_60; exact
    qz_invvV [qz_j s1] rfl (cn_Encoder_addUnsigned s0 s1 h) mw_Encoder_addUnsigned vw_Encoder_addUnsigned ⟨_, rfl, rfl, by decide⟩ rfl rfl ln_Encoder_47 rfl fun _ h2 =>
    qz_aload_n rfl <|
    qz_nnd 0 rfl <|
    qz_getI kg_4 fl_Encoder_77 rfl rfl <|
    qz_if_eq rfl ca_Encoder_addSignature_78
      (qz_fgt [0, 0, 0] <| jb_Encoder_addSignature_78 G h2)
      (qz_aload_n rfl <|
        qz_aload_n rfl <|
        qz_nnd 0 rfl <|
        qz_getI kg_4 fl_Encoder_77 rfl rfl <|
        qz_invvV [qz_i (h2 l1 3)] rfl (cn_Encoder_addType l0 (h2 l1 3) h2) mw_Encoder_addType vw_Encoder_addType ⟨_, rfl, rfl, by decide⟩ rfl rfl ln_Encoder_74 rfl fun _ h4 =>
        qz_fall rfl ca_Encoder_addSignature_78 <|
        qz_fgt [0, 0, 0] <| jb_Encoder_addSignature_78 G h4)
set_option maxRecDepth 20000 in
theorem jb_Encoder_addSignature_47 (G : qz_G) (l0 : Int) (l1 : Int) (h : qz_H) : qz_J yd_Encoder_addSignature G bk_Encoder_addSignature_47 47 [qz_r true 2 l0, qz_r false 4 l1, qz_u] [] h 0 0 (fn_Encoder_addSignature_47 l0 l1 h) := by
  unfold fn_Encoder_addSignature_47 bk_Encoder_addSignature_47; exact
    qz_aload_n rfl <|
    qz_aload_n rfl <|
    qz_nnd 0 rfl <|
    qz_getI kg_4 fl_Encoder_77 rfl rfl <|
    qz_if_ne rfl ca_Encoder_addSignature_59
      (qz_lconst rfl <|
        qz_fall rfl ca_Encoder_addSignature_60 <|
        qz_fgt [1, 1, 0] <| jb_Encoder_addSignature_60 G l0 l1 l0 1 h)
      (qz_lconst rfl <|
        qz_goto rfl ca_Encoder_addSignature_60 <|
        qz_fgt [1, 1, 0] <| jb_Encoder_addSignature_60 G l0 l1 l0 0 h)
set_option maxRecDepth 20000 in
theorem jb_Encoder_addSignature_17_b (G : qz_G) (k17 : Int → Int → Int → qz_H → Option qz_R) (jk17 : ∀ (l0 : Int) (l1 : Int) (l2 : Int) (h : qz_H), qz_J yd_Encoder_addSignature G bk_Encoder_addSignature_17 17 [qz_r true 2 l0, qz_r false 4 l1, qz_i l2] [] h 0 0 (k17 l0 l1 l2 h)) (l0 : Int) (l1 : Int) (l2 : Int) (h : qz_H) : qz_J yd_Encoder_addSignature G bk_Encoder_addSignature_17 17 [qz_r true 2 l0, qz_r false 4 l1, qz_i l2] [] h 0 0 (fn_Encoder_addSignature_17_b k17 l0 l1 l2 h) := by
  unfold fn_Encoder_addSignature_17_b bk_Encoder_addSignature_17; exact
    qz_iload_n rfl <|
    qz_aload_n rfl <|
    qz_nnd 0 rfl <|
    qz_getI kg_4 fl_Encoder_68 rfl rfl <|
    qz_icmp_ge rfl ca_Encoder_addSignature_47
      (qz_fgt [1, 1, 0] <| jb_Encoder_addSignature_47 G l0 l1 h)
      (qz_iload_n rfl <|
        qz_bipush rfl <|
        qz_icmp_ge rfl ca_Encoder_addSignature_47
          (qz_fgt [1, 1, 0] <| jb_Encoder_addSignature_47 G l0 l1 h)
          (qz_aload_n rfl <|
            qz_aload_n rfl <|
            qz_nnd 0 rfl <|
            qz_getR (k1 := 40) kg_4 fl_Encoder_71 rfl rfl <|
            qz_iload_n rfl <|
            qz_nnd 1 rfl <|
            qz_iald (k0 := 40) rfl rfl rfl <|
            qz_invvV [qz_i (h (h l1 0) l2)] rfl (cn_Encoder_addType l0 (h (h l1 0) l2) h) mw_Encoder_addType vw_Encoder_addType ⟨_, rfl, rfl, by decide⟩ rfl rfl ln_Encoder_74 rfl fun _ h2 =>
            qz_iinc rfl (by decide) fun x3 =>
            qz_goto rfl ca_Encoder_addSignature_17 <|
            qz_fgt [1, 1, 1] <| jk17 l0 l1 x3 h2))
theorem jb_Encoder_addSignature_17 (G : qz_G) : ∀ (n : Nat) (l0 l1 l2 : Int) (h : qz_H), qz_J yd_Encoder_addSignature G bk_Encoder_addSignature_17 17 [qz_r true 2 l0, qz_r false 4 l1, qz_i l2] [] h 0 0 (fn_Encoder_addSignature_17 n l0 l1 l2 h)
  | 0, _, _, _, _ => qz_none
  | n + 1, l0, l1, l2, h => jb_Encoder_addSignature_17_b G (fn_Encoder_addSignature_17 n) (jb_Encoder_addSignature_17 G n) l0 l1 l2 h
set_option maxRecDepth 20000 in
theorem cn_Encoder_addSignature (l0 : Int) (l1 : Int) (h : qz_H) : qz_C yd_Encoder_addSignature [qz_r true 2 l0, qz_r false 4 l1] h (fn_Encoder_addSignature l0 l1 h) := by
  refine qz_con (is := bk_Encoder_addSignature_0) (ls := [qz_r true 2 l0, qz_r false 4 l1, qz_u]) mw_Encoder_addSignature.2.2.2 ca_Encoder_addSignature_0 rfl rfl rfl fun G => ?_
  unfold fn_Encoder_addSignature bk_Encoder_addSignature_0; exact
    qz_aload_n rfl <|
    qz_bipush rfl <|
    qz_invvV [qz_i 96] rfl (cn_Encoder_add l0 96 h) mw_Encoder_add vw_Encoder_add ⟨_, rfl, rfl, by decide⟩ rfl rfl ln_Encoder_26 rfl fun _ h2 =>
    qz_aload_n rfl <|
    qz_aload_n rfl <|
    qz_nnd 0 rfl <|
    qz_getI kg_4 fl_Encoder_68 rfl rfl <|
    qz_i2l <|
    qz_invvV [qz_j (h2 l1 1)] rfl (cn_Encoder_addUnsigned l0 (h2 l1 1) h2) mw_Encoder_addUnsigned vw_Encoder_addUnsigned ⟨_, rfl, rfl, by decide⟩ rfl rfl ln_Encoder_47 rfl fun _ h4 =>
    qz_iconst rfl <|
    qz_istore_n (by decide) fun x5 =>
    qz_fall rfl ca_Encoder_addSignature_17 <|
    qz_fgt [1, 1, 1] <| jb_Encoder_addSignature_17 G qz_NF l0 l1 x5 h4
def fn_Encoder_putSizeAhead_73 (l0 : Int) (l1 : Int) (l2 : Int) (l3 : Int) (l4 : Int) (h : qz_H) : Option qz_R :=
  qz_ck ((0 : Int) < l0) <|
  qz_bn (qz_up h l0 2 l1) fun h1 =>
  qz_bc (fn_Encoder_addUnsigned l0 l3 h1) fun _ h3 =>
  qz_ck ((0 : Int) < l0) <|
  qz_bn (qz_up h3 l0 2 (qz_w (l2 + l4))) fun h4 =>
  some (0, h4)
def fn_Encoder_putSizeAhead_28_b (k28 : Int → Int → Int → Int → Int → Int → qz_H → Option qz_R) (l0 : Int) (l1 : Int) (l2 : Int) (l3 : Int) (l4 : Int) (l5 : Int) (h : qz_H) : Option qz_R :=
  if l5 < l1 then
    fn_Encoder_putSizeAhead_73 l0 l1 l2 l3 l4 h
  else
    if l5 < 0 then
      fn_Encoder_putSizeAhead_73 l0 l1 l2 l3 l4 h
    else
      if 1024 ≤ qz_w (l5 + l4) then
        fn_Encoder_putSizeAhead_73 l0 l1 l2 l3 l4 h
      else
        qz_ck ((h l0 0 : Int) ≠ 0) <|
        qz_ck ((0 : Int) ≤ l5 ∧ l5 < h (h l0 0) (-1)) <|
        qz_ck ((h l0 0 : Int) ≠ 0) <|
        qz_ck (0 < h l0 0 ∧ (0 : Int) ≤ qz_w (l5 + l4) ∧ qz_w (l5 + l4) < h (h l0 0) (-1)) <|
        qz_bn (qz_up h (h l0 0) (qz_w (l5 + l4)) (qz_nb (h (h l0 0) l5))) fun h1 =>
        qz_bn (qz_w (l5 + (-1))) fun x2 =>
        k28 l0 l1 l2 l3 l4 x2 h1
def fn_Encoder_putSizeAhead_28 : Nat → Int → Int → Int → Int → Int → Int → qz_H → Option qz_R
  | 0, _, _, _, _, _, _, _ => none
  | n + 1, l0, l1, l2, l3, l4, l5, h => fn_Encoder_putSizeAhead_28_b (fn_Encoder_putSizeAhead_28 n) l0 l1 l2 l3 l4 l5 h
set_option maxRecDepth 20000 in
def fn_Encoder_putSizeAhead (l0 : Int) (l1 : Int) (h : qz_H) : Option qz_R :=
  qz_bn (h l0 2 : Int) fun x1 =>
  qz_bn (qz_w (x1 - l1) : Int) fun x2 =>
  qz_bc (fn_Encoder_addUnsigned l0 x2 h) fun _ h4 =>
  qz_bn (qz_w ((h4 l0 2) - x1) : Int) fun x5 =>
  qz_bn (qz_w (x1 - 1) : Int) fun x6 =>
  fn_Encoder_putSizeAhead_28 qz_NF l0 l1 x1 x2 x5 x6 h4
def bk_Encoder_putSizeAhead_0 : List (Instr × Nat) := [(.aload_n 0, 1), (.getfield 19, 3), (.istore_n 2, 1), (.iload_n 2, 1), (.iload_n 1, 1), (.isub, 1), (.istore_n 3, 1), (.aload_n 0, 1), (.iload_n 3, 1), (.i2l, 1), (.invokevirtual 47, 3), (.aload_n 0, 1), (.getfield 19, 3), (.iload_n 2, 1), (.isub, 1), (.istore 4, 2), (.iload_n 2, 1), (.iconst 1, 1), (.isub, 1), (.istore 5, 2)]
def bk_Encoder_putSizeAhead_28 : List (Instr × Nat) := [(.iload 5, 2), (.iload_n 1, 1), (.if_icmp .lt 42, 3), (.iload 5, 2), (.ifCond .lt 37, 3), (.iload 5, 2), (.iload 4, 2), (.iadd, 1), (.sipush 1024, 3), (.if_icmp .ge 26, 3), (.aload_n 0, 1), (.getfield 11, 3), (.iload 5, 2), (.iload 4, 2), (.iadd, 1), (.aload_n 0, 1), (.getfield 11, 3), (.iload 5, 2), (.baload, 1), (.bastore, 1), (.iinc 5 (-1), 3), (.goto (-42), 3)]
def bk_Encoder_putSizeAhead_73 : List (Instr × Nat) := [(.aload_n 0, 1), (.iload_n 1, 1), (.putfield 19, 3), (.aload_n 0, 1), (.iload_n 3, 1), (.i2l, 1), (.invokevirtual 47, 3), (.aload_n 0, 1), (.iload_n 2, 1), (.iload 4, 2), (.iadd, 1), (.putfield 19, 3), (.return_, 1)]
theorem ca_Encoder_putSizeAhead_0 : qz_ca yd_Encoder_putSizeAhead.2.1 0 bk_Encoder_putSizeAhead_0 := qz_cab_ok _ _ (by decide +kernel)
theorem ca_Encoder_putSizeAhead_28 : qz_ca yd_Encoder_putSizeAhead.2.1 28 bk_Encoder_putSizeAhead_28 := qz_cab_ok _ _ (by decide +kernel)
theorem ca_Encoder_putSizeAhead_73 : qz_ca yd_Encoder_putSizeAhead.2.1 73 bk_Encoder_putSizeAhead_73 := qz_cab_ok _ _ (by decide +kernel)
set_option maxRecDepth 20000 in
theorem jb_Encoder_putSizeAhead_73 (G : qz_G) (l0 : Int) (l1 : Int) (l2 : Int) (l3 : Int) (l4 : Int) (h : qz_H) : qz_J yd_Encoder_putSizeAhead G bk_Encoder_putSizeAhead_73 73 [qz_r true 2 l0, qz_i l1, qz_i l2, qz_i l3, qz_i l4, qz_u] [] h 0 0 (fn_Encoder_putSizeAhead_73 l0 l1 l2 l3 l4 h) := by
  unfold fn_Encoder_putSizeAhead_73 bk_Encoder_putSizeAhead_73; exact
    qz_aload_n rfl <|
    qz_iload_n rfl <|
    qz_putI kw_2 fp_Encoder_19_Encoder_putSizeAhead rfl rfl fun h1 =>
    qz_aload_n rfl <|
    qz_iload_n rfl <|
    qz_i2l <|
    qz_invvV [qz_j l3] rfl (cn_Encoder_addUnsigned l0 l3 h1) mw_Encoder_addUnsigned vw_Encoder_addUnsigned ⟨_, rfl, rfl, by decide⟩ rfl rfl ln_Encoder_47 rfl fun _ h3 =>
    qz_aload_n rfl <|
    qz_iload_n rfl <|
    qz_iload rfl <|
    qz_iadd <|
    qz_putI kw_2 fp_Encoder_19_Encoder_putSizeAhead rfl rfl fun h4 =>
    qz_return ⟨rfl, rfl⟩ rfl
set_option maxRecDepth 20000 in
theorem jb_Encoder_putSizeAhead_28_b (G : qz_G) (k28 : Int → Int → Int → Int → Int → Int → qz_H → Option qz_R) (jk28 : ∀ (l0 : Int) (l1 : Int) (l2 : Int) (l3 : Int) (l4 : Int) (l5 : Int) (h : qz_H), qz_J yd_Encoder_putSizeAhead G bk_Encoder_putSizeAhead_28 28 [qz_r true 2 l0, qz_i l1, qz_i l2, qz_i l3, qz_i l4, qz_i l5] [] h 0 0 (k28 l0 l1 l2 l3 l4 l5 h)) (l0 : Int) (l1 : Int) (l2 : Int) (l3 : Int) (l4 : Int) (l5 : Int) (h : qz_H) : qz_J yd_Encoder_putSizeAhead G bk_Encoder_putSizeAhead_28 28 [qz_r true 2 l0, qz_i l1, qz_i l2, qz_i l3, qz_i l4, qz_i l5] [] h 0 0 (fn_Encoder_putSizeAhead_28_b k28 l0 l1 l2 l3 l4 l5 h) := by
  unfold fn_Encoder_putSizeAhead_28_b bk_Encoder_putSizeAhead_28; exact
    qz_iload rfl <|
    qz_iload_n rfl <|
    qz_icmp_lt rfl ca_Encoder_putSizeAhead_73
      (qz_fgt [1, 1, 1, 1, 1, 0] <| jb_Encoder_putSizeAhead_73 G l0 l1 l2 l3 l4 h)
      (qz_iload rfl <|
        qz_if_lt rfl ca_Encoder_putSizeAhead_73
          (qz_fgt [1, 1, 1, 1, 1, 0] <| jb_Encoder_putSizeAhead_73 G l0 l1 l2 l3 l4 h)
          (qz_iload rfl <|
            qz_iload rfl <|
            qz_iadd <|
            qz_sipush rfl <|
            qz_icmp_ge rfl ca_Encoder_putSizeAhead_73
              (qz_fgt [1, 1, 1, 1, 1, 0] <| jb_Encoder_putSizeAhead_73 G l0 l1 l2 l3 l4 h)
              (qz_aload_n rfl <|
                qz_getR (k1 := 43) kg_2 fl_Encoder_11 rfl rfl <|
                qz_iload rfl <|
                qz_iload rfl <|
                qz_iadd <|
                qz_aload_n rfl <|
                qz_getR (k1 := 43) kg_2 fl_Encoder_11 rfl rfl <|
                qz_iload rfl <|
                qz_nnd 1 rfl <|
                qz_bald (k0 := 43) rfl rfl rfl <|
                qz_nnd 2 rfl <|
                qz_bast rfl rfl rfl fun h1 =>
                qz_iinc rfl (by decide) fun x2 =>
                qz_goto rfl ca_Encoder_putSizeAhead_28 <|
                qz_fgt [1, 1, 1, 1, 1, 1] <| jk28 l0 l1 l2 l3 l4 x2 h1)))
theorem jb_Encoder_putSizeAhead_28 (G : qz_G) : ∀ (n : Nat) (l0 l1 l2 l3 l4 l5 : Int) (h : qz_H), qz_J yd_Encoder_putSizeAhead G bk_Encoder_putSizeAhead_28 28 [qz_r true 2 l0, qz_i l1, qz_i l2, qz_i l3, qz_i l4, qz_i l5] [] h 0 0 (fn_Encoder_putSizeAhead_28 n l0 l1 l2 l3 l4 l5 h)
  | 0, _, _, _, _, _, _, _ => qz_none
  | n + 1, l0, l1, l2, l3, l4, l5, h => jb_Encoder_putSizeAhead_28_b G (fn_Encoder_putSizeAhead_28 n) (jb_Encoder_putSizeAhead_28 G n) l0 l1 l2 l3 l4 l5 h
set_option maxRecDepth 20000 in
theorem cn_Encoder_putSizeAhead (l0 : Int) (l1 : Int) (h : qz_H) : qz_C yd_Encoder_putSizeAhead [qz_r true 2 l0, qz_i l1] h (fn_Encoder_putSizeAhead l0 l1 h) := by
  refine qz_con (is := bk_Encoder_putSizeAhead_0) (ls := [qz_r true 2 l0, qz_i l1, qz_u, qz_u, qz_u, qz_u]) mw_Encoder_putSizeAhead.2.2.2 ca_Encoder_putSizeAhead_0 rfl rfl rfl fun G => ?_
  unfold fn_Encoder_putSizeAhead bk_Encoder_putSizeAhead_0; exact
    qz_aload_n rfl <|
    qz_getI kg_2 fl_Encoder_19 rfl rfl <|
    qz_istore_n (by decide) fun x1 =>
    qz_iload_n rfl <|
    qz_iload_n rfl <|
    qz_isub <|
    qz_istore_n (by decide) fun x2 =>
    qz_aload_n rfl <|
    qz_iload_n rfl <|
    qz_i2l <|
    qz_invvV [qz_j x2] rfl (cn_Encoder_addUnsigned l0 x2 h) mw_Encoder_addUnsigned vw_Encoder_addUnsigned ⟨_, rfl, rfl, by decide⟩ rfl rfl ln_Encoder_47 rfl fun _ h4 =>
    qz_aload_n rfl <|
    qz_getI kg_2 fl_Encoder_19 rfl rfl <|
    qz_iload_n rfl <|
    qz_isub <|
    qz_istore (by decide) fun x5 =>
    qz_iload_n rfl <|
    qz_iconst rfl <|
    qz_isub <|
    qz_istore (by decide) fun x6 =>
    qz_fall rfl ca_Encoder_putSizeAhead_28 <|
    qz_fgt [1, 1, 1, 1, 1, 1] <| jb_Encoder_putSizeAhead_28 G qz_NF l0 l1 x1 x2 x5 x6 h4
def fn_Encoder_addSignatures_71 (l0 : Int) (l2 : Int) (h : qz_H) : Option qz_R :=
  qz_bc (fn_Encoder_putSizeAhead l0 l2 h) fun _ h2 =>
  some (0, h2)
def fn_Encoder_addSignatures_65 (k25 : Int → Int → Int → Int → Int → qz_H → Option qz_R) (l0 : Int) (l1 : Int) (l2 : Int) (l3 : Int) (l4 : Int) (h : qz_H) : Option qz_R :=
  qz_bn (qz_w (l4 + 1)) fun x1 =>
  k25 l0 l1 l2 l3 x1 h
def fn_Encoder_addSignatures_25_b (k25 : Int → Int → Int → Int → Int → qz_H → Option qz_R) (l0 : Int) (l1 : Int) (l2 : Int) (l3 : Int) (l4 : Int) (h : qz_H) : Option qz_R :=
  qz_ck ((l1 : Int) ≠ 0) <|
  if h l1 3 ≤ l4 then
    fn_Encoder_addSignatures_71 l0 l2 h
  else
    if 4 ≤ l4 then
      fn_Encoder_addSignatures_71 l0 l2 h
    else
      qz_ck ((h l0 1 : Int) ≠ 0) <|
      qz_ck ((0 : Int) ≤ l4 ∧ l4 < h (h l0 1) (-1)) <|
      if ¬ h (h l0 1) l4 = l3 then
        fn_Encoder_addSignatures_65 k25 l0 l1 l2 l3 l4 h
      else
        qz_ck ((l1 : Int) ≠ 0) <|
        qz_ck ((h l1 0 : Int) ≠ 0) <|
        qz_ck ((0 : Int) ≤ l4 ∧ l4 < h (h l1 0) (-1)) <|
        qz_bc (fn_Encoder_addSignature l0 (h (h l1 0) l4) h) fun _ h2 =>
        qz_bn (qz_w (l3 + 1)) fun x3 =>
        fn_Encoder_addSignatures_65 k25 l0 l1 l2 x3 l4 h2
def fn_Encoder_addSignatures_25 : Nat → Int → Int → Int → Int → Int → qz_H → Option qz_R
  | 0, _, _, _, _, _, _ => none
  | n + 1, l0, l1, l2, l3, l4, h => fn_Encoder_addSignatures_25_b (fn_Encoder_addSignatures_25 n) l0 l1 l2 l3 l4 h
set_option maxRecDepth 20000 in
def fn_Encoder_addSignatures (l0 : Int) (l1 : Int) (h : qz_H) : Option qz_R :=
  qz_bc (fn_Encoder_add l0 1 h) fun _ h2 =>
  qz_bn (h2 l0 2 : Int) fun x3 =>
  qz_bc (fn_Encoder_numberSignatures l0 l1 h2) fun r4 h5 =>
  qz_bc (fn_Encoder_addUnsigned l0 r4 h5) fun _ h7 =>
  qz_bn (0 : Int) fun x8 =>
  qz_bn (0 : Int) fun x9 =>
  fn_Encoder_addSignatures_25 qz_NF l0 l1 x3 x8 x9 h7
def bk_Encoder_addSignatures_0 : List (Instr × Nat) := [(.aload_n 0, 1), (.iconst 1, 1), (.invokevirtual 26, 3), (.aload_n 0, 1), (.getfield 19, 3), (.istore_n 2, 1), (.aload_n 0, 1), (.aload_n 0, 1), (.aload_n 1, 1), (.invokevirtual 43, 3), (.i2l, 1), (.invokevirtual 47, 3), (.iconst 0, 1), (.istore_n 3, 1), (.iconst 0, 1), (.istore 4, 2)]
def bk_Encoder_addSignatures_25 : List (Instr × Nat) := [(.iload 4, 2), (.aload_n 1, 1), (.getfield 30, 3), (.if_icmp .ge 40, 3), (.iload 4, 2), (.iconst 4, 1), (.if_icmp .ge 34, 3), (.aload_n 0, 1), (.getfield 15, 3), (.iload 4, 2), (.iaload, 1), (.iload_n 3, 1), (.if_icmp .ne 17, 3), (.aload_n 0, 1), (.aload_n 1, 1), (.getfield 51, 3), (.iload 4, 2), (.aaload, 1), (.invokevirtual 55, 3), (.iinc 3 1, 3)]
def bk_Encoder_addSignatures_71 : List (Instr × Nat) := [(.aload_n 0, 1), (.iload_n 2, 1), (.invokevirtual 59, 3), (.return_, 1)]
def bk_Encoder_addSignatures_65 : List (Instr × Nat) := [(.iinc 4 1, 3), (.goto (-43), 3)]
theorem ca_Encoder_addSignatures_0 : qz_ca yd_Encoder_addSignatures.2.1 0 bk_Encoder_addSignatures_0 := qz_cab_ok _ _ (by decide +kernel)
theorem ca_Encoder_addSignatures_25 : qz_ca yd_Encoder_addSignatures.2.1 25 bk_Encoder_addSignatures_25 := qz_cab_ok _ _ (by decide +kernel)
theorem ca_Encoder_addSignatures_71 : qz_ca yd_Encoder_addSignatures.2.1 71 bk_Encoder_addSignatures_71 := qz_cab_ok _ _ (by decide +kernel)
theorem ca_Encoder_addSignatures_65 : qz_ca yd_Encoder_addSignatures.2.1 65 bk_Encoder_addSignatures_65 := qz_cab_ok _ _ (by decide +kernel)
set_option maxRecDepth 20000 in
theorem jb_Encoder_addSignatures_71 (G : qz_G) (l0 : Int) (l2 : Int) (h : qz_H) : qz_J yd_Encoder_addSignatures G bk_Encoder_addSignatures_71 71 [qz_r true 2 l0, qz_u, qz_i l2, qz_u, qz_u] [] h 0 0 (fn_Encoder_addSignatures_71 l0 l2 h) := by
  unfold fn_Encoder_addSignatures_71 bk_Encoder_addSignatures_71; exact
    qz_aload_n rfl <|
    qz_iload_n rfl <|
    qz_invvV [qz_i l2] rfl (cn_Encoder_putSizeAhead l0 l2 h) mw_Encoder_putSizeAhead vw_Encoder_putSizeAhead ⟨_, rfl, rfl, by decide⟩ rfl rfl ln_Encoder_59 rfl fun _ h2 =>
    qz_return ⟨rfl, rfl⟩ rfl
set_option maxRecDepth 20000 in
theorem jb_Encoder_addSignatures_65 (G : qz_G) (k25 : Int → Int → Int → Int → Int → qz_H → Option qz_R) (jk25 : ∀ (l0 : Int) (l1 : Int) (l2 : Int) (l3 : Int) (l4 : Int) (h : qz_H), qz_J yd_Encoder_addSignatures G bk_Encoder_addSignatures_25 25 [qz_r true 2 l0, qz_r false 6 l1, qz_i l2, qz_i l3, qz_i l4] [] h 0 0 (k25 l0 l1 l2 l3 l4 h)) (l0 : Int) (l1 : Int) (l2 : Int) (l3 : Int) (l4 : Int) (h : qz_H) : qz_J yd_Encoder_addSignatures G bk_Encoder_addSignatures_65 65 [qz_r true 2 l0, qz_r false 6 l1, qz_i l2, qz_i l3, qz_i l4] [] h 0 0 (fn_Encoder_addSignatures_65 k25 l0 l1 l2 l3 l4 h) := by
  unfold fn_Encoder_addSignatures_65 bk_Encoder_addSignatures_65; exact
    qz_iinc rfl (by decide) fun x1 =>
    qz_goto rfl ca_Encoder_addSignatures_25 <|
    qz_fgt [1, 1, 1, 1, 1] <| jk25 l0 l1 l2 l3 x1 h
set_option maxRecDepth 20000 in
theorem jb_Encoder_addSignatures_25_b (G : qz_G) (k25 : Int → Int → Int → Int → Int → qz_H → Option qz_R) (jk25 : ∀ (l0 : Int) (l1 : Int) (l2 : Int) (l3 : Int) (l4 : Int) (h : qz_H), qz_J yd_Encoder_addSignatures G bk_Encoder_addSignatures_25 25 [qz_r true 2 l0, qz_r false 6 l1, qz_i l2, qz_i l3, qz_i l4] [] h 0 0 (k25 l0 l1 l2 l3 l4 h)) (l0 : Int) (l1 : Int) (l2 : Int) (l3 : Int) (l4 : Int) (h : qz_H) : qz_J yd_Encoder_addSignatures G bk_Encoder_addSignatures_25 25 [qz_r true 2 l0, qz_r false 6 l1, qz_i l2, qz_i l3, qz_i l4] [] h 0 0 (fn_Encoder_addSignatures_25_b k25 l0 l1 l2 l3 l4 h) := by
  unfold fn_Encoder_addSignatures_25_b bk_Encoder_addSignatures_25; exact
    qz_iload rfl <|
    qz_aload_n rfl <|
    qz_nnd 0 rfl <|
    qz_getI kg_6 fl_Encoder_30 rfl rfl <|
    qz_icmp_ge rfl ca_Encoder_addSignatures_71
      (qz_fgt [1, 0, 1, 0, 0] <| jb_Encoder_addSignatures_71 G l0 l2 h)
      (qz_iload rfl <|
        qz_iconst rfl <|
        qz_icmp_ge rfl ca_Encoder_addSignatures_71
          (qz_fgt [1, 0, 1, 0, 0] <| jb_Encoder_addSignatures_71 G l0 l2 h)
          (qz_aload_n rfl <|
            qz_getR (k1 := 40) kg_2 fl_Encoder_15 rfl rfl <|
            qz_iload rfl <|
            qz_nnd 1 rfl <|
            qz_iald (k0 := 40) rfl rfl rfl <|
            qz_iload_n rfl <|
            qz_icmp_ne rfl ca_Encoder_addSignatures_65
              (qz_fgt [1, 1, 1, 1, 1] <| jb_Encoder_addSignatures_65 G k25 jk25 l0 l1 l2 l3 l4 h)
              (qz_aload_n rfl <|
                qz_aload_n rfl <|
                qz_nnd 0 rfl <|
                qz_getR (k1 := 45) kg_6 fl_Encoder_51 rfl rfl <|
                qz_iload rfl <|
                qz_nnd 1 rfl <|
                qz_aald (k0 := 45) (k1 := 4) rfl rfl rfl <|
                qz_invvV [qz_r false 4 (h (h l1 0) l4)] rfl (cn_Encoder_addSignature l0 (h (h l1 0) l4) h) mw_Encoder_addSignature vw_Encoder_addSignature ⟨_, rfl, rfl, by decide⟩ rfl rfl ln_Encoder_55 rfl fun _ h2 =>
                qz_iinc rfl (by decide) fun x3 =>
                qz_fall rfl ca_Encoder_addSignatures_65 <|
                qz_fgt [1, 1, 1, 1, 1] <| jb_Encoder_addSignatures_65 G k25 jk25 l0 l1 l2 x3 l4 h2)))
theorem jb_Encoder_addSignatures_25 (G : qz_G) : ∀ (n : Nat) (l0 l1 l2 l3 l4 : Int) (h : qz_H), qz_J yd_Encoder_addSignatures G bk_Encoder_addSignatures_25 25 [qz_r true 2 l0, qz_r false 6 l1, qz_i l2, qz_i l3, qz_i l4] [] h 0 0 (fn_Encoder_addSignatures_25 n l0 l1 l2 l3 l4 h)
  | 0, _, _, _, _, _, _ => qz_none
  | n + 1, l0, l1, l2, l3, l4, h => jb_Encoder_addSignatures_25_b G (fn_Encoder_addSignatures_25 n) (jb_Encoder_addSignatures_25 G n) l0 l1 l2 l3 l4 h
set_option maxRecDepth 20000 in
theorem cn_Encoder_addSignatures (l0 : Int) (l1 : Int) (h : qz_H) : qz_C yd_Encoder_addSignatures [qz_r true 2 l0, qz_r false 6 l1] h (fn_Encoder_addSignatures l0 l1 h) := by
  refine qz_con (is := bk_Encoder_addSignatures_0) (ls := [qz_r true 2 l0, qz_r false 6 l1, qz_u, qz_u, qz_u]) mw_Encoder_addSignatures.2.2.2 ca_Encoder_addSignatures_0 rfl rfl rfl fun G => ?_
  unfold fn_Encoder_addSignatures bk_Encoder_addSignatures_0; exact
    qz_aload_n rfl <|
    qz_iconst rfl <|
    qz_invvV [qz_i 1] rfl (cn_Encoder_add l0 1 h) mw_Encoder_add vw_Encoder_add ⟨_, rfl, rfl, by decide⟩ rfl rfl ln_Encoder_26 rfl fun _ h2 =>
    qz_aload_n rfl <|
    qz_getI kg_2 fl_Encoder_19 rfl rfl <|
    qz_istore_n (by decide) fun x3 =>
    qz_aload_n rfl <|
    qz_aload_n rfl <|
    qz_aload_n rfl <|
    qz_invvI [qz_r false 6 l1] rfl (cn_Encoder_numberSignatures l0 l1 h2) mw_Encoder_numberSignatures vw_Encoder_numberSignatures ⟨_, rfl, rfl, by decide⟩ rfl rfl ln_Encoder_43 rfl fun r4 h5 =>
    qz_i2l <|
    qz_invvV [qz_j r4] rfl (cn_Encoder_addUnsigned l0 r4 h5) mw_Encoder_addUnsigned vw_Encoder_addUnsigned ⟨_, rfl, rfl, by decide⟩ rfl rfl ln_Encoder_47 rfl fun _ h7 =>
    qz_iconst rfl <|
    qz_istore_n (by decide) fun x8 =>
    qz_iconst rfl <|
    qz_istore (by decide) fun x9 =>
    qz_fall rfl ca_Encoder_addSignatures_25 <|
    qz_fgt [1, 1, 1, 1, 1] <| jb_Encoder_addSignatures_25 G qz_NF l0 l1 x3 x8 x9 h7
def fn_Encoder_addSignatureNumbers_51 (l0 : Int) (l2 : Int) (h : qz_H) : Option qz_R :=
  qz_bc (fn_Encoder_putSizeAhead l0 l2 h) fun _ h2 =>
  some (0, h2)
def fn_Encoder_addSignatureNumbers_21_b (k21 : Int → Int → Int → Int → qz_H → Option qz_R) (l0 : Int) (l1 : Int) (l2 : Int) (l3 : Int) (h : qz_H) : Option qz_R :=
  qz_ck ((l1 : Int) ≠ 0) <|
  if h l1 3 ≤ l3 then
    fn_Encoder_addSignatureNumbers_51 l0 l2 h
  else
    if 4 ≤ l3 then
      fn_Encoder_addSignatureNumbers_51 l0 l2 h
    else
      qz_ck ((h l0 1 : Int) ≠ 0) <|
      qz_ck ((0 : Int) ≤ l3 ∧ l3 < h (h l0 1) (-1)) <|
      qz_bc (fn_Encoder_addUnsigned l0 (h (h l0 1) l3) h) fun _ h2 =>
      qz_bn (qz_w (l3 + 1)) fun x3 =>
      k21 l0 l1 l2 x3 h2
def fn_Encoder_addSignatureNumbers_21 : Nat → Int → Int → Int → Int → qz_H → Option qz_R
  | 0, _, _, _, _, _ => none
  | n + 1, l0, l1, l2, l3, h => fn_Encoder_addSignatureNumbers_21_b (fn_Encoder_addSignatureNumbers_21 n) l0 l1 l2 l3 h
set_option maxRecDepth 20000 in
def fn_Encoder_addSignatureNumbers (l0 : Int) (l1 : Int) (h : qz_H) : Option qz_R :=
  qz_bc (fn_Encoder_add l0 3 h) fun _ h2 =>
  qz_bn (h2 l0 2 : Int) fun x3 =>
  qz_ck ((l1 : Int) ≠ 0) <|
  qz_bc (fn_Encoder_addUnsigned l0 (h2 l1 3) h2) fun _ h5 =>
  qz_bn (0 : Int) fun x6 =>
  fn_Encoder_addSignatureNumbers_21 qz_NF l0 l1 x3 x6 h5
def bk_Encoder_addSignatureNumbers_0 : List (Instr × Nat) := [(.aload_n 0, 1), (.iconst 3, 1), (.invokevirtual 26, 3), (.aload_n 0, 1), (.getfield 19, 3), (.istore_n 2, 1), (.aload_n 0, 1), (.aload_n 1, 1), (.getfield 30, 3), (.i2l, 1), (.invokevirtual 47, 3), (.iconst 0, 1), (.istore_n 3, 1)]
def bk_Encoder_addSignatureNumbers_21 : List (Instr × Nat) := [(.iload_n 3, 1), (.aload_n 1, 1), (.getfield 30, 3), (.if_icmp .ge 25, 3), (.iload_n 3, 1), (.iconst 4, 1), (.if_icmp .ge 20, 3), (.aload_n 0, 1), (.aload_n 0, 1), (.getfield 15, 3), (.iload_n 3, 1), (.iaload, 1), (.i2l, 1), (.invokevirtual 47, 3), (.iinc 3 1, 3), (.goto (-27), 3)]
def bk_Encoder_addSignatureNumbers_51 : List (Instr × Nat) := [(.aload_n 0, 1), (.iload_n 2, 1), (.invokevirtual 59, 3), (.return_, 1)]
theorem ca_Encoder_addSignatureNumbers_0 : qz_ca yd_Encoder_addSignatureNumbers.2.1 0 bk_Encoder_addSignatureNumbers_0 := qz_cab_ok _ _ (by decide +kernel)
theorem ca_Encoder_addSignatureNumbers_21 : qz_ca yd_Encoder_addSignatureNumbers.2.1 21 bk_Encoder_addSignatureNumbers_21 := qz_cab_ok _ _ (by decide +kernel)
theorem ca_Encoder_addSignatureNumbers_51 : qz_ca yd_Encoder_addSignatureNumbers.2.1 51 bk_Encoder_addSignatureNumbers_51 := qz_cab_ok _ _ (by decide +kernel)
set_option maxRecDepth 20000 in
theorem jb_Encoder_addSignatureNumbers_51 (G : qz_G) (l0 : Int) (l2 : Int) (h : qz_H) : qz_J yd_Encoder_addSignatureNumbers G bk_Encoder_addSignatureNumbers_51 51 [qz_r true 2 l0, qz_u, qz_i l2, qz_u] [] h 0 0 (fn_Encoder_addSignatureNumbers_51 l0 l2 h) := by
  unfold fn_Encoder_addSignatureNumbers_51 bk_Encoder_addSignatureNumbers_51; exact
    qz_aload_n rfl <|
    qz_iload_n rfl <|
    qz_invvV [qz_i l2] rfl (cn_Encoder_putSizeAhead l0 l2 h) mw_Encoder_putSizeAhead vw_Encoder_putSizeAhead ⟨_, rfl, rfl, by decide⟩ rfl rfl ln_Encoder_59 rfl fun _ h2 =>
    qz_return ⟨rfl, rfl⟩ rfl
set_option maxRecDepth 20000 in
theorem jb_Encoder_addSignatureNumbers_21_b (G : qz_G) (k21 : Int → Int → Int → Int → qz_H → Option qz_R) (jk21 : ∀ (l0 : Int) (l1 : Int) (l2 : Int) (l3 : Int) (h : qz_H), qz_J yd_Encoder_addSignatureNumbers G bk_Encoder_addSignatureNumbers_21 21 [qz_r true 2 l0, qz_r false 6 l1, qz_i l2, qz_i l3] [] h 0 0 (k21 l0 l1 l2 l3 h)) (l0 : Int) (l1 : Int) (l2 : Int) (l3 : Int) (h : qz_H) : qz_J yd_Encoder_addSignatureNumbers G bk_Encoder_addSignatureNumbers_21 21 [qz_r true 2 l0, qz_r false 6 l1, qz_i l2, qz_i l3] [] h 0 0 (fn_Encoder_addSignatureNumbers_21_b k21 l0 l1 l2 l3 h) := by
  unfold fn_Encoder_addSignatureNumbers_21_b bk_Encoder_addSignatureNumbers_21; exact
    qz_iload_n rfl <|
    qz_aload_n rfl <|
    qz_nnd 0 rfl <|
    qz_getI kg_6 fl_Encoder_30 rfl rfl <|
    qz_icmp_ge rfl ca_Encoder_addSignatureNumbers_51
      (qz_fgt [1, 0, 1, 0] <| jb_Encoder_addSignatureNumbers_51 G l0 l2 h)
      (qz_iload_n rfl <|
        qz_iconst rfl <|
        qz_icmp_ge rfl ca_Encoder_addSignatureNumbers_51
          (qz_fgt [1, 0, 1, 0] <| jb_Encoder_addSignatureNumbers_51 G l0 l2 h)
          (qz_aload_n rfl <|
            qz_aload_n rfl <|
            qz_getR (k1 := 40) kg_2 fl_Encoder_15 rfl rfl <|
            qz_iload_n rfl <|
            qz_nnd 1 rfl <|
            qz_iald (k0 := 40) rfl rfl rfl <|
            qz_i2l <|
            qz_invvV [qz_j (h (h l0 1) l3)] rfl (cn_Encoder_addUnsigned l0 (h (h l0 1) l3) h) mw_Encoder_addUnsigned vw_Encoder_addUnsigned ⟨_, rfl, rfl, by decide⟩ rfl rfl ln_Encoder_47 rfl fun _ h2 =>
            qz_iinc rfl (by decide) fun x3 =>
            qz_goto rfl ca_Encoder_addSignatureNumbers_21 <|
            qz_fgt [1, 1, 1, 1] <| jk21 l0 l1 l2 x3 h2))
theorem jb_Encoder_addSignatureNumbers_21 (G : qz_G) : ∀ (n : Nat) (l0 l1 l2 l3 : Int) (h : qz_H), qz_J yd_Encoder_addSignatureNumbers G bk_Encoder_addSignatureNumbers_21 21 [qz_r true 2 l0, qz_r false 6 l1, qz_i l2, qz_i l3] [] h 0 0 (fn_Encoder_addSignatureNumbers_21 n l0 l1 l2 l3 h)
  | 0, _, _, _, _, _ => qz_none
  | n + 1, l0, l1, l2, l3, h => jb_Encoder_addSignatureNumbers_21_b G (fn_Encoder_addSignatureNumbers_21 n) (jb_Encoder_addSignatureNumbers_21 G n) l0 l1 l2 l3 h
set_option maxRecDepth 20000 in
theorem cn_Encoder_addSignatureNumbers (l0 : Int) (l1 : Int) (h : qz_H) : qz_C yd_Encoder_addSignatureNumbers [qz_r true 2 l0, qz_r false 6 l1] h (fn_Encoder_addSignatureNumbers l0 l1 h) := by
  refine qz_con (is := bk_Encoder_addSignatureNumbers_0) (ls := [qz_r true 2 l0, qz_r false 6 l1, qz_u, qz_u]) mw_Encoder_addSignatureNumbers.2.2.2 ca_Encoder_addSignatureNumbers_0 rfl rfl rfl fun G => ?_
  unfold fn_Encoder_addSignatureNumbers bk_Encoder_addSignatureNumbers_0; exact
    qz_aload_n rfl <|
    qz_iconst rfl <|
    qz_invvV [qz_i 3] rfl (cn_Encoder_add l0 3 h) mw_Encoder_add vw_Encoder_add ⟨_, rfl, rfl, by decide⟩ rfl rfl ln_Encoder_26 rfl fun _ h2 =>
    qz_aload_n rfl <|
    qz_getI kg_2 fl_Encoder_19 rfl rfl <|
    qz_istore_n (by decide) fun x3 =>
    qz_aload_n rfl <|
    qz_aload_n rfl <|
    qz_nnd 0 rfl <|
    qz_getI kg_6 fl_Encoder_30 rfl rfl <|
    qz_i2l <|
    qz_invvV [qz_j (h2 l1 3)] rfl (cn_Encoder_addUnsigned l0 (h2 l1 3) h2) mw_Encoder_addUnsigned vw_Encoder_addUnsigned ⟨_, rfl, rfl, by decide⟩ rfl rfl ln_Encoder_47 rfl fun _ h5 =>
    qz_iconst rfl <|
    qz_istore_n (by decide) fun x6 =>
    qz_fall rfl ca_Encoder_addSignatureNumbers_21 <|
    qz_fgt [1, 1, 1, 1] <| jb_Encoder_addSignatureNumbers_21 G qz_NF l0 l1 x3 x6 h5
def fn_Encoder_endsRun_33 (s0 : Int) (h : qz_H) : Option qz_R :=
  qz_ck ((s0 : Int) = 0 ∨ (s0 : Int) = 1) (some (s0, h))
def fn_Encoder_endsRun_28 (h : qz_H) : Option qz_R :=
  fn_Encoder_endsRun_33 1 h
set_option maxRecDepth 20000 in
def fn_Encoder_endsRun (l0 : Int) (l1 : Int) (h : qz_H) : Option qz_R :=
  qz_ck ((l0 : Int) ≠ 0) <|
  qz_bc (fn_Function_hasSlot l0 (qz_w (l1 + 1)) h) fun r1 h2 =>
  if r1 = 0 then
    fn_Encoder_endsRun_28 h2
  else
    qz_ck ((l0 : Int) ≠ 0) <|
    qz_ck ((h2 l0 0 : Int) ≠ 0) <|
    qz_ck ((0 : Int) ≤ qz_w (l1 + 1) ∧ qz_w (l1 + 1) < h2 (h2 l0 0) (-1)) <|
    qz_ck ((l0 : Int) ≠ 0) <|
    qz_ck ((h2 l0 0 : Int) ≠ 0) <|
    qz_ck ((0 : Int) ≤ l1 ∧ l1 < h2 (h2 l0 0) (-1)) <|
    if h2 (h2 l0 0) (qz_w (l1 + 1)) = h2 (h2 l0 0) l1 then
      fn_Encoder_endsRun_33 0 h2
    else
      fn_Encoder_endsRun_28 h2
def bk_Encoder_endsRun_0 : List (Instr × Nat) := [(.aload_n 0, 1), (.iload_n 1, 1), (.iconst 1, 1), (.iadd, 1), (.i2l, 1), (.invokevirtual 114, 3), (.ifCond .eq 20, 3), (.aload_n 0, 1), (.getfield 71, 3), (.iload_n 1, 1), (.iconst 1, 1), (.iadd, 1), (.iaload, 1), (.aload_n 0, 1), (.getfield 71, 3), (.iload_n 1, 1), (.iaload, 1), (.if_icmp .eq 7, 3)]
def bk_Encoder_endsRun_28 : List (Instr × Nat) := [(.iconst 1, 1), (.goto 4, 3)]
def bk_Encoder_endsRun_32 : List (Instr × Nat) := [(.iconst 0, 1)]
def bk_Encoder_endsRun_33 : List (Instr × Nat) := [(.ireturn, 1)]
theorem ca_Encoder_endsRun_0 : qz_ca yd_Encoder_endsRun.2.1 0 bk_Encoder_endsRun_0 := qz_cab_ok _ _ (by decide +kernel)
theorem ca_Encoder_endsRun_28 : qz_ca yd_Encoder_endsRun.2.1 28 bk_Encoder_endsRun_28 := qz_cab_ok _ _ (by decide +kernel)
theorem ca_Encoder_endsRun_32 : qz_ca yd_Encoder_endsRun.2.1 32 bk_Encoder_endsRun_32 := qz_cab_ok _ _ (by decide +kernel)
theorem ca_Encoder_endsRun_33 : qz_ca yd_Encoder_endsRun.2.1 33 bk_Encoder_endsRun_33 := qz_cab_ok _ _ (by decide +kernel)
set_option maxRecDepth 20000 in
theorem jb_Encoder_endsRun_33 (G : qz_G) (s0 : Int) (h : qz_H) : qz_J yd_Encoder_endsRun G bk_Encoder_endsRun_33 33 [qz_u, qz_u] [qz_i s0] h 0 0 (fn_Encoder_endsRun_33 s0 h) := by
  unfold fn_Encoder_endsRun_33 bk_Encoder_endsRun_33; exact
    qz_zreturn ⟨rfl, rfl⟩ rfl
set_option maxRecDepth 20000 in
theorem jb_Encoder_endsRun_28 (G : qz_G) (h : qz_H) : qz_J yd_Encoder_endsRun G bk_Encoder_endsRun_28 28 [qz_u, qz_u] [] h 0 0 (fn_Encoder_endsRun_28 h) := by
  unfold fn_Encoder_endsRun_28 bk_Encoder_endsRun_28; exact
    qz_iconst rfl <|
    qz_goto rfl ca_Encoder_endsRun_33 <|
    qz_fgt [0, 0] <| jb_Encoder_endsRun_33 G 1 h
set_option maxRecDepth 20000 in
theorem cn_Encoder_endsRun (l0 : Int) (l1 : Int) (h : qz_H) : qz_C yd_Encoder_endsRun [qz_r false 4 l0, qz_i l1] h (fn_Encoder_endsRun l0 l1 h) := by
  refine qz_con (is := bk_Encoder_endsRun_0) (ls := [qz_r false 4 l0, qz_i l1]) mw_Encoder_endsRun.2.2.2 ca_Encoder_endsRun_0 rfl rfl rfl fun G => ?_
  unfold fn_Encoder_endsRun bk_Encoder_endsRun_0; exact
    qz_aload_n rfl <|
    qz_iload_n rfl <|
    qz_iconst rfl <|
    qz_iadd <|
    qz_i2l <|
    qz_nnd 1 rfl <|
    qz_invvI [qz_j (qz_w (l1 + 1))] rfl (cn_Function_hasSlot l0 (qz_w (l1 + 1)) h) mw_Function_hasSlot vw_Function_hasSlot ⟨_, rfl, rfl, by decide⟩ rfl rfl ln_Encoder_114 rfl fun r1 h2 =>
    qz_if_eq rfl ca_Encoder_endsRun_28
      (qz_fgt [0, 0] <| jb_Encoder_endsRun_28 G h2)
      (qz_aload_n rfl <|
        qz_nnd 0 rfl <|
        qz_getR (k1 := 40) kg_4 fl_Encoder_71 rfl rfl <|
        qz_iload_n rfl <|
        qz_iconst rfl <|
        qz_iadd <|
        qz_nnd 1 rfl <|
        qz_iald (k0 := 40) rfl rfl rfl <|
        qz_aload_n rfl <|
        qz_nnd 0 rfl <|
        qz_getR (k1 := 40) kg_4 fl_Encoder_71 rfl rfl <|
        qz_iload_n rfl <|
        qz_nnd 1 rfl <|
        qz_iald (k0 := 40) rfl rfl rfl <|
        qz_icmp_eq rfl ca_Encoder_endsRun_32
          (qz_iconst rfl <|
            qz_fall rfl ca_Encoder_endsRun_33 <|
            qz_fgt [0, 0] <| jb_Encoder_endsRun_33 G 0 h2)
          (qz_fall rfl ca_Encoder_endsRun_28 <|
            qz_fgt [0, 0] <| jb_Encoder_endsRun_28 G h2))
def fn_Encoder_addRuns_112 (h : qz_H) : Option qz_R :=
  some (0, h)
def fn_Encoder_addRuns_106 (k58 : Int → Int → Int → Int → qz_H → Option qz_R) (l0 : Int) (l1 : Int) (l3 : Int) (l4 : Int) (h : qz_H) : Option qz_R :=
  qz_bn (qz_w (l4 + 1)) fun x1 =>
  k58 l0 l1 l3 x1 h
def fn_Encoder_addRuns_58_b (k58 : Int → Int → Int → Int → qz_H → Option qz_R) (l0 : Int) (l1 : Int) (l3 : Int) (l4 : Int) (h : qz_H) : Option qz_R :=
  if 8 ≤ l4 then
    fn_Encoder_addRuns_112 h
  else
    qz_ck ((l1 : Int) ≠ 0) <|
    qz_bc (fn_Function_hasSlot l1 l4 h) fun r1 h2 =>
    if r1 = 0 then
      fn_Encoder_addRuns_112 h2
    else
      qz_bn (qz_w (l3 + 1)) fun x3 =>
      qz_bc (fn_Encoder_endsRun l1 l4 h2) fun r4 h5 =>
      if r4 = 0 then
        fn_Encoder_addRuns_106 k58 l0 l1 x3 l4 h5
      else
        qz_bc (fn_Encoder_addUnsigned l0 x3 h5) fun _ h7 =>
        qz_ck ((l1 : Int) ≠ 0) <|
        qz_ck ((h7 l1 0 : Int) ≠ 0) <|
        qz_ck ((0 : Int) ≤ l4 ∧ l4 < h7 (h7 l1 0) (-1)) <|
        qz_bc (fn_Encoder_addType l0 (h7 (h7 l1 0) l4) h7) fun _ h9 =>
        qz_bn (0 : Int) fun x10 =>
        fn_Encoder_addRuns_106 k58 l0 l1 x10 l4 h9
def fn_Encoder_addRuns_58 : Nat → Int → Int → Int → Int → qz_H → Option qz_R
  | 0, _, _, _, _, _ => none
  | n + 1, l0, l1, l3, l4, h => fn_Encoder_addRuns_58_b (fn_Encoder_addRuns_58 n) l0 l1 l3 l4 h
def fn_Encoder_addRuns_44 (l0 : Int) (l1 : Int) (l2 : Int) (h : qz_H) : Option qz_R :=
  qz_bc (fn_Encoder_addUnsigned l0 l2 h) fun _ h2 =>
  qz_bn (0 : Int) fun x3 =>
  qz_ck ((l1 : Int) ≠ 0) <|
  qz_bn (h2 l1 1 : Int) fun x4 =>
  fn_Encoder_addRuns_58 qz_NF l0 l1 x3 x4 h2
def fn_Encoder_addRuns_36 (k7 : Int → Int → Int → Int → qz_H → Option qz_R) (l0 : Int) (l1 : Int) (l3 : Int) (s0 : Int) (s1 : Int) (h : qz_H) : Option qz_R :=
  qz_bn (qz_w (s0 + s1) : Int) fun x1 =>
  qz_bn (qz_w (l3 + 1)) fun x2 =>
  k7 l0 l1 x1 x2 h
def fn_Encoder_addRuns_7_b (k7 : Int → Int → Int → Int → qz_H → Option qz_R) (l0 : Int) (l1 : Int) (l2 : Int) (l3 : Int) (h : qz_H) : Option qz_R :=
  if 8 ≤ l3 then
    fn_Encoder_addRuns_44 l0 l1 l2 h
  else
    qz_ck ((l1 : Int) ≠ 0) <|
    qz_bc (fn_Function_hasSlot l1 l3 h) fun r1 h2 =>
    if r1 = 0 then
      fn_Encoder_addRuns_44 l0 l1 l2 h2
    else
      qz_bc (fn_Encoder_endsRun l1 l3 h2) fun r3 h4 =>
      if r3 = 0 then
        fn_Encoder_addRuns_36 k7 l0 l1 l3 l2 0 h4
      else
        fn_Encoder_addRuns_36 k7 l0 l1 l3 l2 1 h4
def fn_Encoder_addRuns_7 : Nat → Int → Int → Int → Int → qz_H → Option qz_R
  | 0, _, _, _, _, _ => none
  | n + 1, l0, l1, l2, l3, h => fn_Encoder_addRuns_7_b (fn_Encoder_addRuns_7 n) l0 l1 l2 l3 h
set_option maxRecDepth 20000 in
def fn_Encoder_addRuns (l0 : Int) (l1 : Int) (h : qz_H) : Option qz_R :=
  qz_bn (0 : Int) fun x1 =>
  qz_ck ((l1 : Int) ≠ 0) <|
  qz_bn (h l1 1 : Int) fun x2 =>
  fn_Encoder_addRuns_7 qz_NF l0 l1 x1 x2 h
def bk_Encoder_addRuns_0 : List (Instr × Nat) := [(.iconst 0, 1), (.istore_n 2, 1), (.aload_n 1, 1), (.getfield 68, 3), (.istore_n 3, 1)]
def bk_Encoder_addRuns_7 : List (Instr × Nat) := [(.iload_n 3, 1), (.bipush 8, 2), (.if_icmp .ge 34, 3), (.aload_n 1, 1), (.iload_n 3, 1), (.i2l, 1), (.invokevirtual 114, 3), (.ifCond .eq 25, 3), (.iload_n 2, 1), (.aload_n 1, 1), (.iload_n 3, 1), (.invokestatic 118, 3), (.ifCond .eq 7, 3), (.iconst 1, 1), (.goto 4, 3)]
def bk_Encoder_addRuns_44 : List (Instr × Nat) := [(.aload_n 0, 1), (.iload_n 2, 1), (.i2l, 1), (.invokevirtual 47, 3), (.iconst 0, 1), (.istore_n 3, 1), (.aload_n 1, 1), (.getfield 68, 3), (.istore 4, 2)]
def bk_Encoder_addRuns_35 : List (Instr × Nat) := [(.iconst 0, 1)]
def bk_Encoder_addRuns_36 : List (Instr × Nat) := [(.iadd, 1), (.istore_n 2, 1), (.iinc 3 1, 3), (.goto (-34), 3)]
def bk_Encoder_addRuns_58 : List (Instr × Nat) := [(.iload 4, 2), (.bipush 8, 2), (.if_icmp .ge 50, 3), (.aload_n 1, 1), (.iload 4, 2), (.i2l, 1), (.invokevirtual 114, 3), (.ifCond .eq 40, 3), (.iinc 3 1, 3), (.aload_n 1, 1), (.iload 4, 2), (.invokestatic 118, 3), (.ifCond .eq 22, 3), (.aload_n 0, 1), (.iload_n 3, 1), (.i2l, 1), (.invokevirtual 47, 3), (.aload_n 0, 1), (.aload_n 1, 1), (.getfield 71, 3), (.iload 4, 2), (.iaload, 1), (.invokevirtual 74, 3), (.iconst 0, 1), (.istore_n 3, 1)]
def bk_Encoder_addRuns_112 : List (Instr × Nat) := [(.return_, 1)]
def bk_Encoder_addRuns_106 : List (Instr × Nat) := [(.iinc 4 1, 3), (.goto (-51), 3)]
theorem ca_Encoder_addRuns_0 : qz_ca yd_Encoder_addRuns.2.1 0 bk_Encoder_addRuns_0 := qz_cab_ok _ _ (by decide +kernel)
theorem ca_Encoder_addRuns_7 : qz_ca yd_Encoder_addRuns.2.1 7 bk_Encoder_addRuns_7 := qz_cab_ok _ _ (by decide +kernel)
theorem ca_Encoder_addRuns_44 : qz_ca yd_Encoder_addRuns.2.1 44 bk_Encoder_addRuns_44 := qz_cab_ok _ _ (by decide +kernel)
theorem ca_Encoder_addRuns_35 : qz_ca yd_Encoder_addRuns.2.1 35 bk_Encoder_addRuns_35 := qz_cab_ok _ _ (by decide +kernel)
theorem ca_Encoder_addRuns_36 : qz_ca yd_Encoder_addRuns.2.1 36 bk_Encoder_addRuns_36 := qz_cab_ok _ _ (by decide +kernel)
theorem ca_Encoder_addRuns_58 : qz_ca yd_Encoder_addRuns.2.1 58 bk_Encoder_addRuns_58 := qz_cab_ok _ _ (by decide +kernel)
theorem ca_Encoder_addRuns_112 : qz_ca yd_Encoder_addRuns.2.1 112 bk_Encoder_addRuns_112 := qz_cab_ok _ _ (by decide +kernel)
theorem ca_Encoder_addRuns_106 : qz_ca yd_Encoder_addRuns.2.1 106 bk_Encoder_addRuns_106 := qz_cab_ok _ _ (by decide +kernel)
set_option maxRecDepth 20000 in
theorem jb_Encoder_addRuns_112 (G : qz_G) (h : qz_H) : qz_J yd_Encoder_addRuns G bk_Encoder_addRuns_112 112 [qz_u, qz_u, qz_u, qz_u, qz_u] [] h 0 0 (fn_Encoder_addRuns_112 h) := by
  unfold fn_Encoder_addRuns_112 bk_Encoder_addRuns_112; exact
    qz_return ⟨rfl, rfl⟩ rfl
set_option maxRecDepth 20000 in
theorem jb_Encoder_addRuns_106 (G : qz_G) (k58 : Int → Int → Int → Int → qz_H → Option qz_R) (jk58 : ∀ (l0 : Int) (l1 : Int) (l3 : Int) (l4 : Int) (h : qz_H), qz_J yd_Encoder_addRuns G bk_Encoder_addRuns_58 58 [qz_r true 2 l0, qz_r false 4 l1, qz_u, qz_i l3, qz_i l4] [] h 0 0 (k58 l0 l1 l3 l4 h)) (l0 : Int) (l1 : Int) (l3 : Int) (l4 : Int) (h : qz_H) : qz_J yd_Encoder_addRuns G bk_Encoder_addRuns_106 106 [qz_r true 2 l0, qz_r false 4 l1, qz_u, qz_i l3, qz_i l4] [] h 0 0 (fn_Encoder_addRuns_106 k58 l0 l1 l3 l4 h) := by
  unfold fn_Encoder_addRuns_106 bk_Encoder_addRuns_106; exact
    qz_iinc rfl (by decide) fun x1 =>
    qz_goto rfl ca_Encoder_addRuns_58 <|
    qz_fgt [1, 1, 0, 1, 1] <| jk58 l0 l1 l3 x1 h
set_option maxRecDepth 20000 in
theorem jb_Encoder_addRuns_58_b (G : qz_G) (k58 : Int → Int → Int → Int → qz_H → Option qz_R) (jk58 : ∀ (l0 : Int) (l1 : Int) (l3 : Int) (l4 : Int) (h : qz_H), qz_J yd_Encoder_addRuns G bk_Encoder_addRuns_58 58 [qz_r true 2 l0, qz_r false 4 l1, qz_u, qz_i l3, qz_i l4] [] h 0 0 (k58 l0 l1 l3 l4 h)) (l0 : Int) (l1 : Int) (l3 : Int) (l4 : Int) (h : qz_H) : qz_J yd_Encoder_addRuns G bk_Encoder_addRuns_58 58 [qz_r true 2 l0, qz_r false 4 l1, qz_u, qz_i l3, qz_i l4] [] h 0 0 (fn_Encoder_addRuns_58_b k58 l0 l1 l3 l4 h) := by
  unfold fn_Encoder_addRuns_58_b bk_Encoder_addRuns_58; exact
    qz_iload rfl <|
    qz_bipush rfl <|
    qz_icmp_ge rfl ca_Encoder_addRuns_112
      (qz_fgt [0, 0, 0, 0, 0] <| jb_Encoder_addRuns_112 G h)
      (qz_aload_n rfl <|
        qz_iload rfl <|
        qz_i2l <|
        qz_nnd 1 rfl <|
        qz_invvI [qz_j l4] rfl (cn_Function_hasSlot l1 l4 h) mw_Function_hasSlot vw_Function_hasSlot ⟨_, rfl, rfl, by decide⟩ rfl rfl ln_Encoder_114 rfl fun r1 h2 =>
        qz_if_eq rfl ca_Encoder_addRuns_112
          (qz_fgt [0, 0, 0, 0, 0] <| jb_Encoder_addRuns_112 G h2)
          (qz_iinc rfl (by decide) fun x3 =>
            qz_aload_n rfl <|
            qz_iload rfl <|
            qz_invsI [qz_r false 4 l1, qz_i l4] rfl (cn_Encoder_endsRun l1 l4 h2) mw_Encoder_endsRun vs_Encoder_endsRun rfl rfl ln_Encoder_118 rfl fun r4 h5 =>
            qz_if_eq rfl ca_Encoder_addRuns_106
              (qz_fgt [1, 1, 0, 1, 1] <| jb_Encoder_addRuns_106 G k58 jk58 l0 l1 x3 l4 h5)
              (qz_aload_n rfl <|
                qz_iload_n rfl <|
                qz_i2l <|
                qz_invvV [qz_j x3] rfl (cn_Encoder_addUnsigned l0 x3 h5) mw_Encoder_addUnsigned vw_Encoder_addUnsigned ⟨_, rfl, rfl, by decide⟩ rfl rfl ln_Encoder_47 rfl fun _ h7 =>
                qz_aload_n rfl <|
                qz_aload_n rfl <|
                qz_nnd 0 rfl <|
                qz_getR (k1 := 40) kg_4 fl_Encoder_71 rfl rfl <|
                qz_iload rfl <|
                qz_nnd 1 rfl <|
                qz_iald (k0 := 40) rfl rfl rfl <|
                qz_invvV [qz_i (h7 (h7 l1 0) l4)] rfl (cn_Encoder_addType l0 (h7 (h7 l1 0) l4) h7) mw_Encoder_addType vw_Encoder_addType ⟨_, rfl, rfl, by decide⟩ rfl rfl ln_Encoder_74 rfl fun _ h9 =>
                qz_iconst rfl <|
                qz_istore_n (by decide) fun x10 =>
                qz_fall rfl ca_Encoder_addRuns_106 <|
                qz_fgt [1, 1, 0, 1, 1] <| jb_Encoder_addRuns_106 G k58 jk58 l0 l1 x10 l4 h9)))
theorem jb_Encoder_addRuns_58 (G : qz_G) : ∀ (n : Nat) (l0 l1 l3 l4 : Int) (h : qz_H), qz_J yd_Encoder_addRuns G bk_Encoder_addRuns_58 58 [qz_r true 2 l0, qz_r false 4 l1, qz_u, qz_i l3, qz_i l4] [] h 0 0 (fn_Encoder_addRuns_58 n l0 l1 l3 l4 h)
  | 0, _, _, _, _, _ => qz_none
  | n + 1, l0, l1, l3, l4, h => jb_Encoder_addRuns_58_b G (fn_Encoder_addRuns_58 n) (jb_Encoder_addRuns_58 G n) l0 l1 l3 l4 h
set_option maxRecDepth 20000 in
theorem jb_Encoder_addRuns_44 (G : qz_G) (l0 : Int) (l1 : Int) (l2 : Int) (h : qz_H) : qz_J yd_Encoder_addRuns G bk_Encoder_addRuns_44 44 [qz_r true 2 l0, qz_r false 4 l1, qz_i l2, qz_u, qz_u] [] h 0 0 (fn_Encoder_addRuns_44 l0 l1 l2 h) := by
  unfold fn_Encoder_addRuns_44 bk_Encoder_addRuns_44; exact
    qz_aload_n rfl <|
    qz_iload_n rfl <|
    qz_i2l <|
    qz_invvV [qz_j l2] rfl (cn_Encoder_addUnsigned l0 l2 h) mw_Encoder_addUnsigned vw_Encoder_addUnsigned ⟨_, rfl, rfl, by decide⟩ rfl rfl ln_Encoder_47 rfl fun _ h2 =>
    qz_iconst rfl <|
    qz_istore_n (by decide) fun x3 =>
    qz_aload_n rfl <|
    qz_nnd 0 rfl <|
    qz_getI kg_4 fl_Encoder_68 rfl rfl <|
    qz_istore (by decide) fun x4 =>
    qz_fall rfl ca_Encoder_addRuns_58 <|
    qz_fgt [1, 1, 0, 1, 1] <| jb_Encoder_addRuns_58 G qz_NF l0 l1 x3 x4 h2
set_option maxRecDepth 20000 in
theorem jb_Encoder_addRuns_36 (G : qz_G) (k7 : Int → Int → Int → Int → qz_H → Option qz_R) (jk7 : ∀ (l0 : Int) (l1 : Int) (l2 : Int) (l3 : Int) (h : qz_H), qz_J yd_Encoder_addRuns G bk_Encoder_addRuns_7 7 [qz_r true 2 l0, qz_r false 4 l1, qz_i l2, qz_i l3, qz_u] [] h 0 0 (k7 l0 l1 l2 l3 h)) (l0 : Int) (l1 : Int) (l3 : Int) (s0 : Int) (s1 : Int) (h : qz_H) : qz_J yd_Encoder_addRuns G bk_Encoder_addRuns_36 36 [qz_r true 2 l0, qz_r false 4 l1, qz_u, qz_i l3, qz_u] [qz_i s1, qz_i s0] h 0 0 (fn_Encoder_addRuns_36 k7 l0 l1 l3 s0 s1 h) := by
  unfold fn_Encoder_addRuns_36 bk_Encoder_addRuns_36; exact
    qz_iadd <|
    qz_istore_n (by decide) fun x1 =>
    qz_iinc rfl (by decide) fun x2 =>
    qz_goto rfl ca_Encoder_addRuns_7 <|
    qz_fgt [1, 1, 1, 1, 0] <| jk7 l0 l1 x1 x2 h
set_option maxRecDepth 20000 in
theorem jb_Encoder_addRuns_7_b (G : qz_G) (k7 : Int → Int → Int → Int → qz_H → Option qz_R) (jk7 : ∀ (l0 : Int) (l1 : Int) (l2 : Int) (l3 : Int) (h : qz_H), qz_J yd_Encoder_addRuns G bk_Encoder_addRuns_7 7 [qz_r true 2 l0, qz_r false 4 l1, qz_i l2, qz_i l3, qz_u] [] h 0 0 (k7 l0 l1 l2 l3 h)) (l0 : Int) (l1 : Int) (l2 : Int) (l3 : Int) (h : qz_H) : qz_J yd_Encoder_addRuns G bk_Encoder_addRuns_7 7 [qz_r true 2 l0, qz_r false 4 l1, qz_i l2, qz_i l3, qz_u] [] h 0 0 (fn_Encoder_addRuns_7_b k7 l0 l1 l2 l3 h) := by
  unfold fn_Encoder_addRuns_7_b bk_Encoder_addRuns_7; exact
    qz_iload_n rfl <|
    qz_bipush rfl <|
    qz_icmp_ge rfl ca_Encoder_addRuns_44
      (qz_fgt [1, 1, 1, 0, 0] <| jb_Encoder_addRuns_44 G l0 l1 l2 h)
      (qz_aload_n rfl <|
        qz_iload_n rfl <|
        qz_i2l <|
        qz_nnd 1 rfl <|
        qz_invvI [qz_j l3] rfl (cn_Function_hasSlot l1 l3 h) mw_Function_hasSlot vw_Function_hasSlot ⟨_, rfl, rfl, by decide⟩ rfl rfl ln_Encoder_114 rfl fun r1 h2 =>
        qz_if_eq rfl ca_Encoder_addRuns_44
          (qz_fgt [1, 1, 1, 0, 0] <| jb_Encoder_addRuns_44 G l0 l1 l2 h2)
          (qz_iload_n rfl <|
            qz_aload_n rfl <|
            qz_iload_n rfl <|
            qz_invsI [qz_r false 4 l1, qz_i l3] rfl (cn_Encoder_endsRun l1 l3 h2) mw_Encoder_endsRun vs_Encoder_endsRun rfl rfl ln_Encoder_118 rfl fun r3 h4 =>
            qz_if_eq rfl ca_Encoder_addRuns_35
              (qz_iconst rfl <|
                qz_fall rfl ca_Encoder_addRuns_36 <|
                qz_fgt [1, 1, 0, 1, 0] <| jb_Encoder_addRuns_36 G k7 jk7 l0 l1 l3 l2 0 h4)
              (qz_iconst rfl <|
                qz_goto rfl ca_Encoder_addRuns_36 <|
                qz_fgt [1, 1, 0, 1, 0] <| jb_Encoder_addRuns_36 G k7 jk7 l0 l1 l3 l2 1 h4)))
theorem jb_Encoder_addRuns_7 (G : qz_G) : ∀ (n : Nat) (l0 l1 l2 l3 : Int) (h : qz_H), qz_J yd_Encoder_addRuns G bk_Encoder_addRuns_7 7 [qz_r true 2 l0, qz_r false 4 l1, qz_i l2, qz_i l3, qz_u] [] h 0 0 (fn_Encoder_addRuns_7 n l0 l1 l2 l3 h)
  | 0, _, _, _, _, _ => qz_none
  | n + 1, l0, l1, l2, l3, h => jb_Encoder_addRuns_7_b G (fn_Encoder_addRuns_7 n) (jb_Encoder_addRuns_7 G n) l0 l1 l2 l3 h
set_option maxRecDepth 20000 in
theorem cn_Encoder_addRuns (l0 : Int) (l1 : Int) (h : qz_H) : qz_C yd_Encoder_addRuns [qz_r true 2 l0, qz_r false 4 l1] h (fn_Encoder_addRuns l0 l1 h) := by
  refine qz_con (is := bk_Encoder_addRuns_0) (ls := [qz_r true 2 l0, qz_r false 4 l1, qz_u, qz_u, qz_u]) mw_Encoder_addRuns.2.2.2 ca_Encoder_addRuns_0 rfl rfl rfl fun G => ?_
  unfold fn_Encoder_addRuns bk_Encoder_addRuns_0; exact
    qz_iconst rfl <|
    qz_istore_n (by decide) fun x1 =>
    qz_aload_n rfl <|
    qz_nnd 0 rfl <|
    qz_getI kg_4 fl_Encoder_68 rfl rfl <|
    qz_istore_n (by decide) fun x2 =>
    qz_fall rfl ca_Encoder_addRuns_7 <|
    qz_fgt [1, 1, 1, 1, 0] <| jb_Encoder_addRuns_7 G qz_NF l0 l1 x1 x2 h
def fn_Encoder_addSigned_57 (l0 : Int) (l3 : Int) (h : qz_H) : Option qz_R :=
  qz_bc (fn_Encoder_add l0 (qz_w (qz_andJ l3 127)) h) fun _ h2 =>
  some (0, h2)
def fn_Encoder_addSigned_5_b (k5 : Int → Int → Int → qz_H → Option qz_R) (l0 : Int) (l3 : Int) (l5 : Int) (h : qz_H) : Option qz_R :=
  if 9 ≤ l5 then
    fn_Encoder_addSigned_57 l0 l3 h
  else
    if qz_cmp (qz_shrJ l3 6) 0 = 0 then
      fn_Encoder_addSigned_57 l0 l3 h
    else
      if qz_cmp (qz_shrJ l3 6) (-1) = 0 then
        fn_Encoder_addSigned_57 l0 l3 h
      else
        qz_bc (fn_Encoder_add l0 (qz_or (qz_w (qz_andJ l3 127)) 128) h) fun _ h2 =>
        qz_bn (qz_shrJ l3 7 : Int) fun x3 =>
        qz_bn (qz_w (l5 + 1)) fun x4 =>
        k5 l0 x3 x4 h2
def fn_Encoder_addSigned_5 : Nat → Int → Int → Int → qz_H → Option qz_R
  | 0, _, _, _, _ => none
  | n + 1, l0, l3, l5, h => fn_Encoder_addSigned_5_b (fn_Encoder_addSigned_5 n) l0 l3 l5 h
set_option maxRecDepth 20000 in
def fn_Encoder_addSigned (l0 : Int) (l1 : Int) (h : qz_H) : Option qz_R :=
  qz_bn (l1 : Int) fun x1 =>
  qz_bn (0 : Int) fun x2 =>
  fn_Encoder_addSigned_5 qz_NF l0 x1 x2 h
def bk_Encoder_addSigned_0 : List (Instr × Nat) := [(.lload_n 1, 1), (.lstore_n 3, 1), (.iconst 0, 1), (.istore 5, 2)]
def bk_Encoder_addSigned_5 : List (Instr × Nat) := [(.iload 5, 2), (.bipush 9, 2), (.if_icmp .ge 48, 3), (.lload_n 3, 1), (.bipush 6, 2), (.lshr, 1), (.lconst 0, 1), (.lcmp, 1), (.ifCond .eq 39, 3), (.lload_n 3, 1), (.bipush 6, 2), (.lshr, 1), (.ldc2_w 130, 3), (.lcmp, 1), (.ifCond .eq 28, 3), (.aload_n 0, 1), (.lload_n 3, 1), (.ldc2_w 128, 3), (.land, 1), (.l2i, 1), (.sipush 128, 3), (.ior, 1), (.invokevirtual 26, 3), (.lload_n 3, 1), (.bipush 7, 2), (.lshr, 1), (.lstore_n 3, 1), (.iinc 5 1, 3), (.goto (-49), 3)]
def bk_Encoder_addSigned_57 : List (Instr × Nat) := [(.aload_n 0, 1), (.lload_n 3, 1), (.ldc2_w 128, 3), (.land, 1), (.l2i, 1), (.invokevirtual 26, 3), (.return_, 1)]
theorem ca_Encoder_addSigned_0 : qz_ca yd_Encoder_addSigned.2.1 0 bk_Encoder_addSigned_0 := qz_cab_ok _ _ (by decide +kernel)
theorem ca_Encoder_addSigned_5 : qz_ca yd_Encoder_addSigned.2.1 5 bk_Encoder_addSigned_5 := qz_cab_ok _ _ (by decide +kernel)
theorem ca_Encoder_addSigned_57 : qz_ca yd_Encoder_addSigned.2.1 57 bk_Encoder_addSigned_57 := qz_cab_ok _ _ (by decide +kernel)
set_option maxRecDepth 20000 in
theorem jb_Encoder_addSigned_57 (G : qz_G) (l0 : Int) (l3 : Int) (h : qz_H) : qz_J yd_Encoder_addSigned G bk_Encoder_addSigned_57 57 [qz_r true 2 l0, qz_u, qz_u, qz_j l3, qz_u, qz_u] [] h 0 0 (fn_Encoder_addSigned_57 l0 l3 h) := by
  unfold fn_Encoder_addSigned_57 bk_Encoder_addSigned_57; exact
    qz_aload_n rfl <|
    qz_lload_n rfl <|
    qz_ldc2 wc_Encoder_128 rfl <|
    qz_land <|
    qz_l2i <|
    qz_invvV [qz_i (qz_w (qz_andJ l3 127))] rfl (cn_Encoder_add l0 (qz_w (qz_andJ l3 127)) h) mw_Encoder_add vw_Encoder_add ⟨_, rfl, rfl, by decide⟩ rfl rfl ln_Encoder_26 rfl fun _ h2 =>
    qz_return ⟨rfl, rfl⟩ rfl
set_option maxRecDepth 20000 in
theorem jb_Encoder_addSigned_5_b (G : qz_G) (k5 : Int → Int → Int → qz_H → Option qz_R) (jk5 : ∀ (l0 : Int) (l3 : Int) (l5 : Int) (h : qz_H), qz_J yd_Encoder_addSigned G bk_Encoder_addSigned_5 5 [qz_r true 2 l0, qz_u, qz_u, qz_j l3, qz_u, qz_i l5] [] h 0 0 (k5 l0 l3 l5 h)) (l0 : Int) (l3 : Int) (l5 : Int) (h : qz_H) : qz_J yd_Encoder_addSigned G bk_Encoder_addSigned_5 5 [qz_r true 2 l0, qz_u, qz_u, qz_j l3, qz_u, qz_i l5] [] h 0 0 (fn_Encoder_addSigned_5_b k5 l0 l3 l5 h) := by
  unfold fn_Encoder_addSigned_5_b bk_Encoder_addSigned_5; exact
    qz_iload rfl <|
    qz_bipush rfl <|
    qz_icmp_ge rfl ca_Encoder_addSigned_57
      (qz_fgt [1, 0, 0, 1, 0, 0] <| jb_Encoder_addSigned_57 G l0 l3 h)
      (qz_lload_n rfl <|
        qz_bipush rfl <|
        qz_lshr <|
        qz_lconst rfl <|
        qz_lcmp <|
        qz_if_eq rfl ca_Encoder_addSigned_57
          (qz_fgt [1, 0, 0, 1, 0, 0] <| jb_Encoder_addSigned_57 G l0 l3 h)
          (qz_lload_n rfl <|
            qz_bipush rfl <|
            qz_lshr <|
            qz_ldc2 wc_Encoder_130 rfl <|
            qz_lcmp <|
            qz_if_eq rfl ca_Encoder_addSigned_57
              (qz_fgt [1, 0, 0, 1, 0, 0] <| jb_Encoder_addSigned_57 G l0 l3 h)
              (qz_aload_n rfl <|
                qz_lload_n rfl <|
                qz_ldc2 wc_Encoder_128 rfl <|
                qz_land <|
                qz_l2i <|
                qz_sipush rfl <|
                qz_ior <|
                qz_invvV [qz_i (qz_or (qz_w (qz_andJ l3 127)) 128)] rfl (cn_Encoder_add l0 (qz_or (qz_w (qz_andJ l3 127)) 128) h) mw_Encoder_add vw_Encoder_add ⟨_, rfl, rfl, by decide⟩ rfl rfl ln_Encoder_26 rfl fun _ h2 =>
                qz_lload_n rfl <|
                qz_bipush rfl <|
                qz_lshr <|
                qz_lstore_n (by decide) fun x3 =>
                qz_iinc rfl (by decide) fun x4 =>
                qz_goto rfl ca_Encoder_addSigned_5 <|
                qz_fgt [1, 0, 0, 1, 0, 1] <| jk5 l0 x3 x4 h2)))
theorem jb_Encoder_addSigned_5 (G : qz_G) : ∀ (n : Nat) (l0 l3 l5 : Int) (h : qz_H), qz_J yd_Encoder_addSigned G bk_Encoder_addSigned_5 5 [qz_r true 2 l0, qz_u, qz_u, qz_j l3, qz_u, qz_i l5] [] h 0 0 (fn_Encoder_addSigned_5 n l0 l3 l5 h)
  | 0, _, _, _, _ => qz_none
  | n + 1, l0, l3, l5, h => jb_Encoder_addSigned_5_b G (fn_Encoder_addSigned_5 n) (jb_Encoder_addSigned_5 G n) l0 l3 l5 h
set_option maxRecDepth 20000 in
theorem cn_Encoder_addSigned (l0 : Int) (l1 : Int) (h : qz_H) : qz_C yd_Encoder_addSigned [qz_r true 2 l0, qz_j l1] h (fn_Encoder_addSigned l0 l1 h) := by
  refine qz_con (is := bk_Encoder_addSigned_0) (ls := [qz_r true 2 l0, qz_j l1, qz_u, qz_u, qz_u, qz_u]) mw_Encoder_addSigned.2.2.2 ca_Encoder_addSigned_0 rfl rfl rfl fun G => ?_
  unfold fn_Encoder_addSigned bk_Encoder_addSigned_0; exact
    qz_lload_n rfl <|
    qz_lstore_n (by decide) fun x1 =>
    qz_iconst rfl <|
    qz_istore (by decide) fun x2 =>
    qz_fall rfl ca_Encoder_addSigned_5 <|
    qz_fgt [1, 0, 0, 1, 0, 1] <| jb_Encoder_addSigned_5 G qz_NF l0 x1 x2 h
def fn_Encoder_addOperand_73 (h : qz_H) : Option qz_R :=
  some (0, h)
set_option maxRecDepth 20000 in
def fn_Encoder_addOperand (l0 : Int) (l1 : Int) (l2 : Int) (h : qz_H) : Option qz_R :=
  qz_ck ((l1 : Int) ≠ 0) <|
  qz_swt (h l1 2) [
    (0,
      fn_Encoder_addOperand_73 h),
    (1,
      qz_bc (fn_Encoder_addType l0 (qz_w l2) h) fun _ h2 =>
      fn_Encoder_addOperand_73 h2),
    (2,
      qz_bc (fn_Encoder_addUnsigned l0 l2 h) fun _ h4 =>
      fn_Encoder_addOperand_73 h4),
    (3,
      qz_bc (fn_Encoder_addUnsigned l0 l2 h) fun _ h6 =>
      fn_Encoder_addOperand_73 h6),
    (4,
      qz_bc (fn_Encoder_addUnsigned l0 l2 h) fun _ h8 =>
      fn_Encoder_addOperand_73 h8),
    (5,
      qz_bc (fn_Encoder_addSigned l0 l2 h) fun _ h10 =>
      fn_Encoder_addOperand_73 h10),
    (6,
      qz_bc (fn_Encoder_addSigned l0 l2 h) fun _ h12 =>
      fn_Encoder_addOperand_73 h12)] <|
    qz_bc (fn_Encoder_addUnsigned l0 l2 h) fun _ h14 =>
    fn_Encoder_addOperand_73 h14
def bk_Encoder_addOperand_0 : List (Instr × Nat) := [(.aload_n 1, 1), (.getfield 122, 3), (.tableswitch 64 0 6 #[44, 47, 64, 64, 64, 56, 56], 44)]
def bk_Encoder_addOperand_48 : List (Instr × Nat) := [(.goto 25, 3)]
def bk_Encoder_addOperand_73 : List (Instr × Nat) := [(.return_, 1)]
def bk_Encoder_addOperand_51 : List (Instr × Nat) := [(.aload_n 0, 1), (.lload_n 2, 1), (.l2i, 1), (.invokevirtual 74, 3), (.goto 16, 3)]
def bk_Encoder_addOperand_68 : List (Instr × Nat) := [(.aload_n 0, 1), (.lload_n 2, 1), (.invokevirtual 47, 3)]
def bk_Encoder_addOperand_60 : List (Instr × Nat) := [(.aload_n 0, 1), (.lload_n 2, 1), (.invokevirtual 125, 3), (.goto 8, 3)]
theorem ca_Encoder_addOperand_0 : qz_ca yd_Encoder_addOperand.2.1 0 bk_Encoder_addOperand_0 := qz_cab_ok _ _ (by decide +kernel)
theorem ca_Encoder_addOperand_48 : qz_ca yd_Encoder_addOperand.2.1 48 bk_Encoder_addOperand_48 := qz_cab_ok _ _ (by decide +kernel)
theorem ca_Encoder_addOperand_73 : qz_ca yd_Encoder_addOperand.2.1 73 bk_Encoder_addOperand_73 := qz_cab_ok _ _ (by decide +kernel)
theorem ca_Encoder_addOperand_51 : qz_ca yd_Encoder_addOperand.2.1 51 bk_Encoder_addOperand_51 := qz_cab_ok _ _ (by decide +kernel)
theorem ca_Encoder_addOperand_68 : qz_ca yd_Encoder_addOperand.2.1 68 bk_Encoder_addOperand_68 := qz_cab_ok _ _ (by decide +kernel)
theorem ca_Encoder_addOperand_60 : qz_ca yd_Encoder_addOperand.2.1 60 bk_Encoder_addOperand_60 := qz_cab_ok _ _ (by decide +kernel)
set_option maxRecDepth 20000 in
theorem jb_Encoder_addOperand_73 (G : qz_G) (h : qz_H) : qz_J yd_Encoder_addOperand G bk_Encoder_addOperand_73 73 [qz_u, qz_u, qz_u, qz_u] [] h 0 0 (fn_Encoder_addOperand_73 h) := by
  unfold fn_Encoder_addOperand_73 bk_Encoder_addOperand_73; exact
    qz_return ⟨rfl, rfl⟩ rfl
set_option maxRecDepth 20000 in
theorem cn_Encoder_addOperand (l0 : Int) (l1 : Int) (l2 : Int) (h : qz_H) : qz_C yd_Encoder_addOperand [qz_r true 2 l0, qz_r false 7 l1, qz_j l2] h (fn_Encoder_addOperand l0 l1 l2 h) := by
  refine qz_con (is := bk_Encoder_addOperand_0) (ls := [qz_r true 2 l0, qz_r false 7 l1, qz_j l2, qz_u]) mw_Encoder_addOperand.2.2.2 ca_Encoder_addOperand_0 rfl rfl rfl fun G => ?_
  unfold fn_Encoder_addOperand bk_Encoder_addOperand_0; exact
    qz_aload_n rfl <|
    qz_nnd 0 rfl <|
    qz_getI kg_7 fl_Encoder_122 rfl rfl <|
    qz_tsw [(0, 48, bk_Encoder_addOperand_48), (1, 51, bk_Encoder_addOperand_51), (2, 68, bk_Encoder_addOperand_68), (3, 68, bk_Encoder_addOperand_68), (4, 68, bk_Encoder_addOperand_68), (5, 60, bk_Encoder_addOperand_60), (6, 60, bk_Encoder_addOperand_60)] ca_Encoder_addOperand_68 rfl rfl rfl
      ⟨ca_Encoder_addOperand_48, qz_goto rfl ca_Encoder_addOperand_73 <|
        qz_fgt [0, 0, 0, 0] <| jb_Encoder_addOperand_73 G h,
      ⟨ca_Encoder_addOperand_51, qz_aload_n rfl <|
        qz_lload_n rfl <|
        qz_l2i <|
        qz_invvV [qz_i (qz_w l2)] rfl (cn_Encoder_addType l0 (qz_w l2) h) mw_Encoder_addType vw_Encoder_addType ⟨_, rfl, rfl, by decide⟩ rfl rfl ln_Encoder_74 rfl fun _ h2 =>
        qz_goto rfl ca_Encoder_addOperand_73 <|
        qz_fgt [0, 0, 0, 0] <| jb_Encoder_addOperand_73 G h2,
      ⟨ca_Encoder_addOperand_68, qz_aload_n rfl <|
        qz_lload_n rfl <|
        qz_invvV [qz_j l2] rfl (cn_Encoder_addUnsigned l0 l2 h) mw_Encoder_addUnsigned vw_Encoder_addUnsigned ⟨_, rfl, rfl, by decide⟩ rfl rfl ln_Encoder_47 rfl fun _ h4 =>
        qz_fall rfl ca_Encoder_addOperand_73 <|
        qz_fgt [0, 0, 0, 0] <| jb_Encoder_addOperand_73 G h4,
      ⟨ca_Encoder_addOperand_68, qz_aload_n rfl <|
        qz_lload_n rfl <|
        qz_invvV [qz_j l2] rfl (cn_Encoder_addUnsigned l0 l2 h) mw_Encoder_addUnsigned vw_Encoder_addUnsigned ⟨_, rfl, rfl, by decide⟩ rfl rfl ln_Encoder_47 rfl fun _ h6 =>
        qz_fall rfl ca_Encoder_addOperand_73 <|
        qz_fgt [0, 0, 0, 0] <| jb_Encoder_addOperand_73 G h6,
      ⟨ca_Encoder_addOperand_68, qz_aload_n rfl <|
        qz_lload_n rfl <|
        qz_invvV [qz_j l2] rfl (cn_Encoder_addUnsigned l0 l2 h) mw_Encoder_addUnsigned vw_Encoder_addUnsigned ⟨_, rfl, rfl, by decide⟩ rfl rfl ln_Encoder_47 rfl fun _ h8 =>
        qz_fall rfl ca_Encoder_addOperand_73 <|
        qz_fgt [0, 0, 0, 0] <| jb_Encoder_addOperand_73 G h8,
      ⟨ca_Encoder_addOperand_60, qz_aload_n rfl <|
        qz_lload_n rfl <|
        qz_invvV [qz_j l2] rfl (cn_Encoder_addSigned l0 l2 h) mw_Encoder_addSigned vw_Encoder_addSigned ⟨_, rfl, rfl, by decide⟩ rfl rfl ln_Encoder_125 rfl fun _ h10 =>
        qz_goto rfl ca_Encoder_addOperand_73 <|
        qz_fgt [0, 0, 0, 0] <| jb_Encoder_addOperand_73 G h10,
      ⟨ca_Encoder_addOperand_60, qz_aload_n rfl <|
        qz_lload_n rfl <|
        qz_invvV [qz_j l2] rfl (cn_Encoder_addSigned l0 l2 h) mw_Encoder_addSigned vw_Encoder_addSigned ⟨_, rfl, rfl, by decide⟩ rfl rfl ln_Encoder_125 rfl fun _ h12 =>
        qz_goto rfl ca_Encoder_addOperand_73 <|
        qz_fgt [0, 0, 0, 0] <| jb_Encoder_addOperand_73 G h12,
      trivial⟩⟩⟩⟩⟩⟩⟩
      (qz_aload_n rfl <|
        qz_lload_n rfl <|
        qz_invvV [qz_j l2] rfl (cn_Encoder_addUnsigned l0 l2 h) mw_Encoder_addUnsigned vw_Encoder_addUnsigned ⟨_, rfl, rfl, by decide⟩ rfl rfl ln_Encoder_47 rfl fun _ h14 =>
        qz_fall rfl ca_Encoder_addOperand_73 <|
        qz_fgt [0, 0, 0, 0] <| jb_Encoder_addOperand_73 G h14)
def fn_Encoder_addBody_81 (l0 : Int) (l3 : Int) (h : qz_H) : Option qz_R :=
  qz_bc (fn_Encoder_add l0 (h (-7) 1) h) fun _ h2 =>
  qz_bc (fn_Encoder_putSizeAhead l0 l3 h2) fun _ h4 =>
  some (0, h4)
def fn_Encoder_addBody_13_b (k13 : Int → Int → Int → Int → Int → qz_H → Option qz_R) (l0 : Int) (l1 : Int) (l2 : Int) (l3 : Int) (l4 : Int) (h : qz_H) : Option qz_R :=
  qz_ck ((l2 : Int) ≠ 0) <|
  if h l2 5 ≤ l4 then
    fn_Encoder_addBody_81 l0 l3 h
  else
    qz_ck ((l2 : Int) ≠ 0) <|
    if 64 ≤ qz_w ((h l2 4) + l4) then
      fn_Encoder_addBody_81 l0 l3 h
    else
      qz_ck ((l1 : Int) ≠ 0) <|
      qz_ck ((l2 : Int) ≠ 0) <|
      qz_ck ((h l1 1 : Int) ≠ 0) <|
      qz_ck ((0 : Int) ≤ qz_w ((h l2 4) + l4) ∧ qz_w ((h l2 4) + l4) < h (h l1 1) (-1)) <|
      qz_bn (h (h l1 1) (qz_w ((h l2 4) + l4)) : Int) fun x1 =>
      qz_ck ((x1 : Int) ≠ 0) <|
      qz_bc (fn_Encoder_add l0 (h x1 1) h) fun _ h3 =>
      qz_ck ((l1 : Int) ≠ 0) <|
      qz_ck ((l2 : Int) ≠ 0) <|
      qz_ck ((h3 l1 2 : Int) ≠ 0) <|
      qz_ck ((0 : Int) ≤ qz_w ((h3 l2 4) + l4) ∧ qz_w ((h3 l2 4) + l4) < h3 (h3 l1 2) (-1)) <|
      qz_bc (fn_Encoder_addOperand l0 x1 (h3 (h3 l1 2) (qz_w ((h3 l2 4) + l4))) h3) fun _ h5 =>
      qz_bn (qz_w (l4 + 1)) fun x6 =>
      k13 l0 l1 l2 l3 x6 h5
def fn_Encoder_addBody_13 : Nat → Int → Int → Int → Int → Int → qz_H → Option qz_R
  | 0, _, _, _, _, _, _ => none
  | n + 1, l0, l1, l2, l3, l4, h => fn_Encoder_addBody_13_b (fn_Encoder_addBody_13 n) l0 l1 l2 l3 l4 h
set_option maxRecDepth 20000 in
def fn_Encoder_addBody (l0 : Int) (l1 : Int) (l2 : Int) (h : qz_H) : Option qz_R :=
  qz_bn (h l0 2 : Int) fun x1 =>
  qz_bc (fn_Encoder_addRuns l0 l2 h) fun _ h3 =>
  qz_bn (0 : Int) fun x4 =>
  fn_Encoder_addBody_13 qz_NF l0 l1 l2 x1 x4 h3
def bk_Encoder_addBody_0 : List (Instr × Nat) := [(.aload_n 0, 1), (.getfield 19, 3), (.istore_n 3, 1), (.aload_n 0, 1), (.aload_n 2, 1), (.invokevirtual 84, 3), (.iconst 0, 1), (.istore 4, 2)]
def bk_Encoder_addBody_13 : List (Instr × Nat) := [(.iload 4, 2), (.aload_n 2, 1), (.getfield 87, 3), (.if_icmp .ge 62, 3), (.aload_n 2, 1), (.getfield 90, 3), (.iload 4, 2), (.iadd, 1), (.bipush 64, 2), (.if_icmp .ge 50, 3), (.aload_n 1, 1), (.getfield 93, 3), (.aload_n 2, 1), (.getfield 90, 3), (.iload 4, 2), (.iadd, 1), (.aaload, 1), (.astore 5, 2), (.aload_n 0, 1), (.aload 5, 2), (.getfield 97, 3), (.invokevirtual 26, 3), (.aload_n 0, 1), (.aload 5, 2), (.aload_n 1, 1), (.getfield 102, 3), (.aload_n 2, 1), (.getfield 90, 3), (.iload 4, 2), (.iadd, 1), (.laload, 1), (.invokevirtual 106, 3), (.iinc 4 1, 3), (.goto (-65), 3)]
def bk_Encoder_addBody_81 : List (Instr × Nat) := [(.aload_n 0, 1), (.getstatic 110, 3), (.getfield 97, 3), (.invokevirtual 26, 3), (.aload_n 0, 1), (.iload_n 3, 1), (.invokevirtual 59, 3), (.return_, 1)]
theorem ca_Encoder_addBody_0 : qz_ca yd_Encoder_addBody.2.1 0 bk_Encoder_addBody_0 := qz_cab_ok _ _ (by decide +kernel)
theorem ca_Encoder_addBody_13 : qz_ca yd_Encoder_addBody.2.1 13 bk_Encoder_addBody_13 := qz_cab_ok _ _ (by decide +kernel)
theorem ca_Encoder_addBody_81 : qz_ca yd_Encoder_addBody.2.1 81 bk_Encoder_addBody_81 := qz_cab_ok _ _ (by decide +kernel)
set_option maxRecDepth 20000 in
theorem jb_Encoder_addBody_81 (G : qz_G) (l0 : Int) (l3 : Int) (h : qz_H) : qz_J yd_Encoder_addBody G bk_Encoder_addBody_81 81 [qz_r true 2 l0, qz_u, qz_u, qz_i l3, qz_u, qz_u] [] h 0 0 (fn_Encoder_addBody_81 l0 l3 h) := by
  unfold fn_Encoder_addBody_81 bk_Encoder_addBody_81; exact
    qz_aload_n rfl <|
    qz_getsR sz_Op_END sl_Encoder_110 rfl <|
    qz_getI kg_7 fl_Encoder_97 rfl rfl <|
    qz_invvV [qz_i (h (-7) 1)] rfl (cn_Encoder_add l0 (h (-7) 1) h) mw_Encoder_add vw_Encoder_add ⟨_, rfl, rfl, by decide⟩ rfl rfl ln_Encoder_26 rfl fun _ h2 =>
    qz_aload_n rfl <|
    qz_iload_n rfl <|
    qz_invvV [qz_i l3] rfl (cn_Encoder_putSizeAhead l0 l3 h2) mw_Encoder_putSizeAhead vw_Encoder_putSizeAhead ⟨_, rfl, rfl, by decide⟩ rfl rfl ln_Encoder_59 rfl fun _ h4 =>
    qz_return ⟨rfl, rfl⟩ rfl
set_option maxRecDepth 20000 in
theorem jb_Encoder_addBody_13_b (G : qz_G) (k13 : Int → Int → Int → Int → Int → qz_H → Option qz_R) (jk13 : ∀ (l0 : Int) (l1 : Int) (l2 : Int) (l3 : Int) (l4 : Int) (h : qz_H), qz_J yd_Encoder_addBody G bk_Encoder_addBody_13 13 [qz_r true 2 l0, qz_r false 6 l1, qz_r false 4 l2, qz_i l3, qz_i l4, qz_u] [] h 0 0 (k13 l0 l1 l2 l3 l4 h)) (l0 : Int) (l1 : Int) (l2 : Int) (l3 : Int) (l4 : Int) (h : qz_H) : qz_J yd_Encoder_addBody G bk_Encoder_addBody_13 13 [qz_r true 2 l0, qz_r false 6 l1, qz_r false 4 l2, qz_i l3, qz_i l4, qz_u] [] h 0 0 (fn_Encoder_addBody_13_b k13 l0 l1 l2 l3 l4 h) := by
  unfold fn_Encoder_addBody_13_b bk_Encoder_addBody_13; exact
    qz_iload rfl <|
    qz_aload_n rfl <|
    qz_nnd 0 rfl <|
    qz_getI kg_4 fl_Encoder_87 rfl rfl <|
    qz_icmp_ge rfl ca_Encoder_addBody_81
      (qz_fgt [1, 0, 0, 1, 0, 0] <| jb_Encoder_addBody_81 G l0 l3 h)
      (qz_aload_n rfl <|
        qz_nnd 0 rfl <|
        qz_getI kg_4 fl_Encoder_90 rfl rfl <|
        qz_iload rfl <|
        qz_iadd <|
        qz_bipush rfl <|
        qz_icmp_ge rfl ca_Encoder_addBody_81
          (qz_fgt [1, 0, 0, 1, 0, 0] <| jb_Encoder_addBody_81 G l0 l3 h)
          (qz_aload_n rfl <|
            qz_nnd 0 rfl <|
            qz_getR (k1 := 46) kg_6 fl_Encoder_93 rfl rfl <|
            qz_aload_n rfl <|
            qz_nnd 0 rfl <|
            qz_getI kg_4 fl_Encoder_90 rfl rfl <|
            qz_iload rfl <|
            qz_iadd <|
            qz_nnd 1 rfl <|
            qz_aald (k0 := 46) (k1 := 7) rfl rfl rfl <|
            qz_astore (by decide) fun x1 =>
            qz_aload_n rfl <|
            qz_aload rfl <|
            qz_nnd 0 rfl <|
            qz_getI kg_7 fl_Encoder_97 rfl rfl <|
            qz_invvV [qz_i (h x1 1)] rfl (cn_Encoder_add l0 (h x1 1) h) mw_Encoder_add vw_Encoder_add ⟨_, rfl, rfl, by decide⟩ rfl rfl ln_Encoder_26 rfl fun _ h3 =>
            qz_aload_n rfl <|
            qz_aload rfl <|
            qz_aload_n rfl <|
            qz_nnd 0 rfl <|
            qz_getR (k1 := 41) kg_6 fl_Encoder_102 rfl rfl <|
            qz_aload_n rfl <|
            qz_nnd 0 rfl <|
            qz_getI kg_4 fl_Encoder_90 rfl rfl <|
            qz_iload rfl <|
            qz_iadd <|
            qz_nnd 1 rfl <|
            qz_lald (k0 := 41) rfl rfl rfl <|
            qz_invvV [qz_r false 7 x1, qz_j (h3 (h3 l1 2) (qz_w ((h3 l2 4) + l4)))] rfl (cn_Encoder_addOperand l0 x1 (h3 (h3 l1 2) (qz_w ((h3 l2 4) + l4))) h3) mw_Encoder_addOperand vw_Encoder_addOperand ⟨_, rfl, rfl, by decide⟩ rfl rfl ln_Encoder_106 rfl fun _ h5 =>
            qz_iinc rfl (by decide) fun x6 =>
            qz_goto rfl ca_Encoder_addBody_13 <|
            qz_fgt [1, 1, 1, 1, 1, 0] <| jk13 l0 l1 l2 l3 x6 h5))
theorem jb_Encoder_addBody_13 (G : qz_G) : ∀ (n : Nat) (l0 l1 l2 l3 l4 : Int) (h : qz_H), qz_J yd_Encoder_addBody G bk_Encoder_addBody_13 13 [qz_r true 2 l0, qz_r false 6 l1, qz_r false 4 l2, qz_i l3, qz_i l4, qz_u] [] h 0 0 (fn_Encoder_addBody_13 n l0 l1 l2 l3 l4 h)
  | 0, _, _, _, _, _, _ => qz_none
  | n + 1, l0, l1, l2, l3, l4, h => jb_Encoder_addBody_13_b G (fn_Encoder_addBody_13 n) (jb_Encoder_addBody_13 G n) l0 l1 l2 l3 l4 h
set_option maxRecDepth 20000 in
theorem cn_Encoder_addBody (l0 : Int) (l1 : Int) (l2 : Int) (h : qz_H) : qz_C yd_Encoder_addBody [qz_r true 2 l0, qz_r false 6 l1, qz_r false 4 l2] h (fn_Encoder_addBody l0 l1 l2 h) := by
  refine qz_con (is := bk_Encoder_addBody_0) (ls := [qz_r true 2 l0, qz_r false 6 l1, qz_r false 4 l2, qz_u, qz_u, qz_u]) mw_Encoder_addBody.2.2.2 ca_Encoder_addBody_0 rfl rfl rfl fun G => ?_
  unfold fn_Encoder_addBody bk_Encoder_addBody_0; exact
    qz_aload_n rfl <|
    qz_getI kg_2 fl_Encoder_19 rfl rfl <|
    qz_istore_n (by decide) fun x1 =>
    qz_aload_n rfl <|
    qz_aload_n rfl <|
    qz_invvV [qz_r false 4 l2] rfl (cn_Encoder_addRuns l0 l2 h) mw_Encoder_addRuns vw_Encoder_addRuns ⟨_, rfl, rfl, by decide⟩ rfl rfl ln_Encoder_84 rfl fun _ h3 =>
    qz_iconst rfl <|
    qz_istore (by decide) fun x4 =>
    qz_fall rfl ca_Encoder_addBody_13 <|
    qz_fgt [1, 1, 1, 1, 1, 0] <| jb_Encoder_addBody_13 G qz_NF l0 l1 l2 x1 x4 h3
def fn_Encoder_addBodies_52 (l0 : Int) (l2 : Int) (h : qz_H) : Option qz_R :=
  qz_bc (fn_Encoder_putSizeAhead l0 l2 h) fun _ h2 =>
  some (0, h2)
def fn_Encoder_addBodies_22_b (k22 : Int → Int → Int → Int → qz_H → Option qz_R) (l0 : Int) (l1 : Int) (l2 : Int) (l3 : Int) (h : qz_H) : Option qz_R :=
  qz_ck ((l1 : Int) ≠ 0) <|
  if h l1 3 ≤ l3 then
    fn_Encoder_addBodies_52 l0 l2 h
  else
    if 4 ≤ l3 then
      fn_Encoder_addBodies_52 l0 l2 h
    else
      qz_ck ((l1 : Int) ≠ 0) <|
      qz_ck ((h l1 0 : Int) ≠ 0) <|
      qz_ck ((0 : Int) ≤ l3 ∧ l3 < h (h l1 0) (-1)) <|
      qz_bc (fn_Encoder_addBody l0 l1 (h (h l1 0) l3) h) fun _ h2 =>
      qz_bn (qz_w (l3 + 1)) fun x3 =>
      k22 l0 l1 l2 x3 h2
def fn_Encoder_addBodies_22 : Nat → Int → Int → Int → Int → qz_H → Option qz_R
  | 0, _, _, _, _, _ => none
  | n + 1, l0, l1, l2, l3, h => fn_Encoder_addBodies_22_b (fn_Encoder_addBodies_22 n) l0 l1 l2 l3 h
set_option maxRecDepth 20000 in
def fn_Encoder_addBodies (l0 : Int) (l1 : Int) (h : qz_H) : Option qz_R :=
  qz_bc (fn_Encoder_add l0 10 h) fun _ h2 =>
  qz_bn (h2 l0 2 : Int) fun x3 =>
  qz_ck ((l1 : Int) ≠ 0) <|
  qz_bc (fn_Encoder_addUnsigned l0 (h2 l1 3) h2) fun _ h5 =>
  qz_bn (0 : Int) fun x6 =>
  fn_Encoder_addBodies_22 qz_NF l0 l1 x3 x6 h5
def bk_Encoder_addBodies_0 : List (Instr × Nat) := [(.aload_n 0, 1), (.bipush 10, 2), (.invokevirtual 26, 3), (.aload_n 0, 1), (.getfield 19, 3), (.istore_n 2, 1), (.aload_n 0, 1), (.aload_n 1, 1), (.getfield 30, 3), (.i2l, 1), (.invokevirtual 47, 3), (.iconst 0, 1), (.istore_n 3, 1)]
def bk_Encoder_addBodies_22 : List (Instr × Nat) := [(.iload_n 3, 1), (.aload_n 1, 1), (.getfield 30, 3), (.if_icmp .ge 25, 3), (.iload_n 3, 1), (.iconst 4, 1), (.if_icmp .ge 20, 3), (.aload_n 0, 1), (.aload_n 1, 1), (.aload_n 1, 1), (.getfield 51, 3), (.iload_n 3, 1), (.aaload, 1), (.invokevirtual 80, 3), (.iinc 3 1, 3), (.goto (-27), 3)]
def bk_Encoder_addBodies_52 : List (Instr × Nat) := [(.aload_n 0, 1), (.iload_n 2, 1), (.invokevirtual 59, 3), (.return_, 1)]
theorem ca_Encoder_addBodies_0 : qz_ca yd_Encoder_addBodies.2.1 0 bk_Encoder_addBodies_0 := qz_cab_ok _ _ (by decide +kernel)
theorem ca_Encoder_addBodies_22 : qz_ca yd_Encoder_addBodies.2.1 22 bk_Encoder_addBodies_22 := qz_cab_ok _ _ (by decide +kernel)
theorem ca_Encoder_addBodies_52 : qz_ca yd_Encoder_addBodies.2.1 52 bk_Encoder_addBodies_52 := qz_cab_ok _ _ (by decide +kernel)
set_option maxRecDepth 20000 in
theorem jb_Encoder_addBodies_52 (G : qz_G) (l0 : Int) (l2 : Int) (h : qz_H) : qz_J yd_Encoder_addBodies G bk_Encoder_addBodies_52 52 [qz_r true 2 l0, qz_u, qz_i l2, qz_u] [] h 0 0 (fn_Encoder_addBodies_52 l0 l2 h) := by
  unfold fn_Encoder_addBodies_52 bk_Encoder_addBodies_52; exact
    qz_aload_n rfl <|
    qz_iload_n rfl <|
    qz_invvV [qz_i l2] rfl (cn_Encoder_putSizeAhead l0 l2 h) mw_Encoder_putSizeAhead vw_Encoder_putSizeAhead ⟨_, rfl, rfl, by decide⟩ rfl rfl ln_Encoder_59 rfl fun _ h2 =>
    qz_return ⟨rfl, rfl⟩ rfl
set_option maxRecDepth 20000 in
theorem jb_Encoder_addBodies_22_b (G : qz_G) (k22 : Int → Int → Int → Int → qz_H → Option qz_R) (jk22 : ∀ (l0 : Int) (l1 : Int) (l2 : Int) (l3 : Int) (h : qz_H), qz_J yd_Encoder_addBodies G bk_Encoder_addBodies_22 22 [qz_r true 2 l0, qz_r false 6 l1, qz_i l2, qz_i l3] [] h 0 0 (k22 l0 l1 l2 l3 h)) (l0 : Int) (l1 : Int) (l2 : Int) (l3 : Int) (h : qz_H) : qz_J yd_Encoder_addBodies G bk_Encoder_addBodies_22 22 [qz_r true 2 l0, qz_r false 6 l1, qz_i l2, qz_i l3] [] h 0 0 (fn_Encoder_addBodies_22_b k22 l0 l1 l2 l3 h) := by
  unfold fn_Encoder_addBodies_22_b bk_Encoder_addBodies_22; exact
    qz_iload_n rfl <|
    qz_aload_n rfl <|
    qz_nnd 0 rfl <|
    qz_getI kg_6 fl_Encoder_30 rfl rfl <|
    qz_icmp_ge rfl ca_Encoder_addBodies_52
      (qz_fgt [1, 0, 1, 0] <| jb_Encoder_addBodies_52 G l0 l2 h)
      (qz_iload_n rfl <|
        qz_iconst rfl <|
        qz_icmp_ge rfl ca_Encoder_addBodies_52
          (qz_fgt [1, 0, 1, 0] <| jb_Encoder_addBodies_52 G l0 l2 h)
          (qz_aload_n rfl <|
            qz_aload_n rfl <|
            qz_aload_n rfl <|
            qz_nnd 0 rfl <|
            qz_getR (k1 := 45) kg_6 fl_Encoder_51 rfl rfl <|
            qz_iload_n rfl <|
            qz_nnd 1 rfl <|
            qz_aald (k0 := 45) (k1 := 4) rfl rfl rfl <|
            qz_invvV [qz_r false 6 l1, qz_r false 4 (h (h l1 0) l3)] rfl (cn_Encoder_addBody l0 l1 (h (h l1 0) l3) h) mw_Encoder_addBody vw_Encoder_addBody ⟨_, rfl, rfl, by decide⟩ rfl rfl ln_Encoder_80 rfl fun _ h2 =>
            qz_iinc rfl (by decide) fun x3 =>
            qz_goto rfl ca_Encoder_addBodies_22 <|
            qz_fgt [1, 1, 1, 1] <| jk22 l0 l1 l2 x3 h2))
theorem jb_Encoder_addBodies_22 (G : qz_G) : ∀ (n : Nat) (l0 l1 l2 l3 : Int) (h : qz_H), qz_J yd_Encoder_addBodies G bk_Encoder_addBodies_22 22 [qz_r true 2 l0, qz_r false 6 l1, qz_i l2, qz_i l3] [] h 0 0 (fn_Encoder_addBodies_22 n l0 l1 l2 l3 h)
  | 0, _, _, _, _, _ => qz_none
  | n + 1, l0, l1, l2, l3, h => jb_Encoder_addBodies_22_b G (fn_Encoder_addBodies_22 n) (jb_Encoder_addBodies_22 G n) l0 l1 l2 l3 h
set_option maxRecDepth 20000 in
theorem cn_Encoder_addBodies (l0 : Int) (l1 : Int) (h : qz_H) : qz_C yd_Encoder_addBodies [qz_r true 2 l0, qz_r false 6 l1] h (fn_Encoder_addBodies l0 l1 h) := by
  refine qz_con (is := bk_Encoder_addBodies_0) (ls := [qz_r true 2 l0, qz_r false 6 l1, qz_u, qz_u]) mw_Encoder_addBodies.2.2.2 ca_Encoder_addBodies_0 rfl rfl rfl fun G => ?_
  unfold fn_Encoder_addBodies bk_Encoder_addBodies_0; exact
    qz_aload_n rfl <|
    qz_bipush rfl <|
    qz_invvV [qz_i 10] rfl (cn_Encoder_add l0 10 h) mw_Encoder_add vw_Encoder_add ⟨_, rfl, rfl, by decide⟩ rfl rfl ln_Encoder_26 rfl fun _ h2 =>
    qz_aload_n rfl <|
    qz_getI kg_2 fl_Encoder_19 rfl rfl <|
    qz_istore_n (by decide) fun x3 =>
    qz_aload_n rfl <|
    qz_aload_n rfl <|
    qz_nnd 0 rfl <|
    qz_getI kg_6 fl_Encoder_30 rfl rfl <|
    qz_i2l <|
    qz_invvV [qz_j (h2 l1 3)] rfl (cn_Encoder_addUnsigned l0 (h2 l1 3) h2) mw_Encoder_addUnsigned vw_Encoder_addUnsigned ⟨_, rfl, rfl, by decide⟩ rfl rfl ln_Encoder_47 rfl fun _ h5 =>
    qz_iconst rfl <|
    qz_istore_n (by decide) fun x6 =>
    qz_fall rfl ca_Encoder_addBodies_22 <|
    qz_fgt [1, 1, 1, 1] <| jb_Encoder_addBodies_22 G qz_NF l0 l1 x3 x6 h5
def fn_Encoder_write_52 (h : qz_H) : Option qz_R :=
  some (0, h)
def fn_Encoder_write_7_b (k7 : Int → Int → Int → qz_H → Option qz_R) (l0 : Int) (l1 : Int) (l2 : Int) (h : qz_H) : Option qz_R :=
  if h (-32) (-1) ≤ l2 then
    qz_ck ((l1 : Int) ≠ 0) <|
    if h l1 3 ≤ 0 then
      fn_Encoder_write_52 h
    else
      qz_bc (fn_Encoder_addSignatures l0 l1 h) fun _ h2 =>
      qz_bc (fn_Encoder_addSignatureNumbers l0 l1 h2) fun _ h4 =>
      qz_bc (fn_Encoder_addBodies l0 l1 h4) fun _ h6 =>
      fn_Encoder_write_52 h6
  else
    qz_ck ((0 : Int) ≤ l2 ∧ l2 < h (-32) (-1)) <|
    qz_bc (fn_Encoder_add l0 (h (-32) l2) h) fun _ h8 =>
    qz_bn (qz_w (l2 + 1)) fun x9 =>
    k7 l0 l1 x9 h8
def fn_Encoder_write_7 : Nat → Int → Int → Int → qz_H → Option qz_R
  | 0, _, _, _, _ => none
  | n + 1, l0, l1, l2, h => fn_Encoder_write_7_b (fn_Encoder_write_7 n) l0 l1 l2 h
set_option maxRecDepth 20000 in
def fn_Encoder_write (l0 : Int) (l1 : Int) (h : qz_H) : Option qz_R :=
  qz_ck ((0 : Int) < l0) <|
  qz_bn (qz_up h l0 2 0) fun h1 =>
  qz_bn (0 : Int) fun x2 =>
  fn_Encoder_write_7 qz_NF l0 l1 x2 h1
def bk_Encoder_write_0 : List (Instr × Nat) := [(.aload_n 0, 1), (.iconst 0, 1), (.putfield 19, 3), (.iconst 0, 1), (.istore_n 2, 1)]
def bk_Encoder_write_7 : List (Instr × Nat) := [(.iload_n 2, 1), (.getstatic 23, 3), (.arraylength, 1), (.if_icmp .ge 18, 3), (.aload_n 0, 1), (.getstatic 23, 3), (.iload_n 2, 1), (.iaload, 1), (.invokevirtual 26, 3), (.iinc 2 1, 3), (.goto (-20), 3)]
def bk_Encoder_write_30 : List (Instr × Nat) := [(.aload_n 1, 1), (.getfield 30, 3), (.ifCond .le 18, 3), (.aload_n 0, 1), (.aload_n 1, 1), (.invokevirtual 33, 3), (.aload_n 0, 1), (.aload_n 1, 1), (.invokevirtual 37, 3), (.aload_n 0, 1), (.aload_n 1, 1), (.invokevirtual 40, 3)]
def bk_Encoder_write_52 : List (Instr × Nat) := [(.return_, 1)]
theorem ca_Encoder_write_0 : qz_ca yd_Encoder_write.2.1 0 bk_Encoder_write_0 := qz_cab_ok _ _ (by decide +kernel)
theorem ca_Encoder_write_7 : qz_ca yd_Encoder_write.2.1 7 bk_Encoder_write_7 := qz_cab_ok _ _ (by decide +kernel)
theorem ca_Encoder_write_30 : qz_ca yd_Encoder_write.2.1 30 bk_Encoder_write_30 := qz_cab_ok _ _ (by decide +kernel)
theorem ca_Encoder_write_52 : qz_ca yd_Encoder_write.2.1 52 bk_Encoder_write_52 := qz_cab_ok _ _ (by decide +kernel)
set_option maxRecDepth 20000 in
theorem jb_Encoder_write_52 (G : qz_G) (h : qz_H) : qz_J yd_Encoder_write G bk_Encoder_write_52 52 [qz_u, qz_u, qz_u] [] h 0 0 (fn_Encoder_write_52 h) := by
  unfold fn_Encoder_write_52 bk_Encoder_write_52; exact
    qz_return ⟨rfl, rfl⟩ rfl
set_option maxRecDepth 20000 in
theorem jb_Encoder_write_7_b (G : qz_G) (k7 : Int → Int → Int → qz_H → Option qz_R) (jk7 : ∀ (l0 : Int) (l1 : Int) (l2 : Int) (h : qz_H), qz_J yd_Encoder_write G bk_Encoder_write_7 7 [qz_r true 2 l0, qz_r false 6 l1, qz_i l2] [] h 0 0 (k7 l0 l1 l2 h)) (l0 : Int) (l1 : Int) (l2 : Int) (h : qz_H) : qz_J yd_Encoder_write G bk_Encoder_write_7 7 [qz_r true 2 l0, qz_r false 6 l1, qz_i l2] [] h 0 0 (fn_Encoder_write_7_b k7 l0 l1 l2 h) := by
  unfold fn_Encoder_write_7_b bk_Encoder_write_7; exact
    qz_iload_n rfl <|
    qz_getsR sz_Encoder_HEADER sl_Encoder_23 rfl <|
    qz_alen (k0 := 40) rfl <|
    qz_icmp_ge rfl ca_Encoder_write_30
      (qz_aload_n rfl <|
        qz_nnd 0 rfl <|
        qz_getI kg_6 fl_Encoder_30 rfl rfl <|
        qz_if_le rfl ca_Encoder_write_52
          (qz_fgt [0, 0, 0] <| jb_Encoder_write_52 G h)
          (qz_aload_n rfl <|
            qz_aload_n rfl <|
            qz_invvV [qz_r false 6 l1] rfl (cn_Encoder_addSignatures l0 l1 h) mw_Encoder_addSignatures vw_Encoder_addSignatures ⟨_, rfl, rfl, by decide⟩ rfl rfl ln_Encoder_33 rfl fun _ h2 =>
            qz_aload_n rfl <|
            qz_aload_n rfl <|
            qz_invvV [qz_r false 6 l1] rfl (cn_Encoder_addSignatureNumbers l0 l1 h2) mw_Encoder_addSignatureNumbers vw_Encoder_addSignatureNumbers ⟨_, rfl, rfl, by decide⟩ rfl rfl ln_Encoder_37 rfl fun _ h4 =>
            qz_aload_n rfl <|
            qz_aload_n rfl <|
            qz_invvV [qz_r false 6 l1] rfl (cn_Encoder_addBodies l0 l1 h4) mw_Encoder_addBodies vw_Encoder_addBodies ⟨_, rfl, rfl, by decide⟩ rfl rfl ln_Encoder_40 rfl fun _ h6 =>
            qz_fall rfl ca_Encoder_write_52 <|
            qz_fgt [0, 0, 0] <| jb_Encoder_write_52 G h6))
      (qz_aload_n rfl <|
        qz_getsR sz_Encoder_HEADER sl_Encoder_23 rfl <|
        qz_iload_n rfl <|
        qz_iald (k0 := 40) rfl rfl rfl <|
        qz_invvV [qz_i (h (-32) l2)] rfl (cn_Encoder_add l0 (h (-32) l2) h) mw_Encoder_add vw_Encoder_add ⟨_, rfl, rfl, by decide⟩ rfl rfl ln_Encoder_26 rfl fun _ h8 =>
        qz_iinc rfl (by decide) fun x9 =>
        qz_goto rfl ca_Encoder_write_7 <|
        qz_fgt [1, 1, 1] <| jk7 l0 l1 x9 h8)
theorem jb_Encoder_write_7 (G : qz_G) : ∀ (n : Nat) (l0 l1 l2 : Int) (h : qz_H), qz_J yd_Encoder_write G bk_Encoder_write_7 7 [qz_r true 2 l0, qz_r false 6 l1, qz_i l2] [] h 0 0 (fn_Encoder_write_7 n l0 l1 l2 h)
  | 0, _, _, _, _ => qz_none
  | n + 1, l0, l1, l2, h => jb_Encoder_write_7_b G (fn_Encoder_write_7 n) (jb_Encoder_write_7 G n) l0 l1 l2 h
set_option maxRecDepth 20000 in
theorem cn_Encoder_write (l0 : Int) (l1 : Int) (h : qz_H) : qz_C yd_Encoder_write [qz_r true 2 l0, qz_r false 6 l1] h (fn_Encoder_write l0 l1 h) := by
  refine qz_con (is := bk_Encoder_write_0) (ls := [qz_r true 2 l0, qz_r false 6 l1, qz_u]) mw_Encoder_write.2.2.2 ca_Encoder_write_0 rfl rfl rfl fun G => ?_
  unfold fn_Encoder_write bk_Encoder_write_0; exact
    qz_aload_n rfl <|
    qz_iconst rfl <|
    qz_putI kw_2 fp_Encoder_19_Encoder_write rfl rfl fun h1 =>
    qz_iconst rfl <|
    qz_istore_n (by decide) fun x2 =>
    qz_fall rfl ca_Encoder_write_7 <|
    qz_fgt [1, 1, 1] <| jb_Encoder_write_7 G qz_NF l0 l1 x2 h1
set_option maxRecDepth 20000 in
def fn_SA_encode (l0 : Int) (h : qz_H) : Option qz_R :=
  qz_ck ((h l0 2 : Int) ≠ 0) <|
  qz_bc (fn_Encoder_write (h l0 2) (h l0 6) h) fun _ h2 =>
  qz_ck ((h2 l0 2 : Int) ≠ 0) <|
  some (h2 (h2 l0 2) 2, h2)
def bk_SA_encode_0 : List (Instr × Nat) := [(.aload_n 0, 1), (.getfield 50, 3), (.aload_n 0, 1), (.getfield 22, 3), (.invokevirtual 110, 3), (.aload_n 0, 1), (.getfield 50, 3), (.getfield 113, 3), (.ireturn, 1)]
theorem ca_SA_encode_0 : qz_ca yd_SA_encode.2.1 0 bk_SA_encode_0 := qz_cab_ok _ _ (by decide +kernel)
set_option maxRecDepth 20000 in
theorem cn_SA_encode (l0 : Int) (h : qz_H) : qz_C yd_SA_encode [qz_r true 0 l0] h (fn_SA_encode l0 h) := by
  refine qz_con (is := bk_SA_encode_0) (ls := [qz_r true 0 l0]) mw_SA_encode.2.2.2 ca_SA_encode_0 rfl rfl rfl fun G => ?_
  unfold fn_SA_encode bk_SA_encode_0; exact
    qz_aload_n rfl <|
    qz_getR (k1 := 2) kg_0 fl_SA_50 rfl rfl <|
    qz_aload_n rfl <|
    qz_getR (k1 := 6) kg_0 fl_SA_22 rfl rfl <|
    qz_nnd 1 rfl <|
    qz_invvV [qz_r false 6 (h l0 6)] rfl (cn_Encoder_write (h l0 2) (h l0 6) h) mw_Encoder_write vw_Encoder_write ⟨_, rfl, rfl, by decide⟩ rfl rfl ln_SA_110 rfl fun _ h2 =>
    qz_aload_n rfl <|
    qz_getR (k1 := 2) kg_0 fl_SA_50 rfl rfl <|
    qz_nnd 0 rfl <|
    qz_getI kg_2 fl_SA_113 rfl rfl <|
    qz_ireturn ⟨rfl, rfl⟩ rfl
def fn_Encoder_at_33 (s0 : Int) (h : qz_H) : Option qz_R :=
  some (s0, h)
def fn_Encoder_at_32 (h : qz_H) : Option qz_R :=
  fn_Encoder_at_33 (-1) h
set_option maxRecDepth 20000 in
def fn_Encoder_at (l0 : Int) (l1 : Int) (h : qz_H) : Option qz_R :=
  if l1 < 0 then
    fn_Encoder_at_32 h
  else
    if h l0 2 ≤ l1 then
      fn_Encoder_at_32 h
    else
      if 1024 ≤ l1 then
        fn_Encoder_at_32 h
      else
        qz_ck ((h l0 0 : Int) ≠ 0) <|
        qz_ck ((0 : Int) ≤ l1 ∧ l1 < h (h l0 0) (-1)) <|
        fn_Encoder_at_33 (qz_and (h (h l0 0) l1) 255) h
def bk_Encoder_at_0 : List (Instr × Nat) := [(.iload_n 1, 1), (.ifCond .lt 31, 3), (.iload_n 1, 1), (.aload_n 0, 1), (.getfield 19, 3), (.if_icmp .ge 23, 3), (.iload_n 1, 1), (.sipush 1024, 3), (.if_icmp .ge 16, 3), (.aload_n 0, 1), (.getfield 11, 3), (.iload_n 1, 1), (.baload, 1), (.sipush 255, 3), (.iand, 1), (.goto 4, 3)]
def bk_Encoder_at_32 : List (Instr × Nat) := [(.iconst (-1), 1)]
def bk_Encoder_at_33 : List (Instr × Nat) := [(.ireturn, 1)]
theorem ca_Encoder_at_0 : qz_ca yd_Encoder_at.2.1 0 bk_Encoder_at_0 := qz_cab_ok _ _ (by decide +kernel)
theorem ca_Encoder_at_32 : qz_ca yd_Encoder_at.2.1 32 bk_Encoder_at_32 := qz_cab_ok _ _ (by decide +kernel)
theorem ca_Encoder_at_33 : qz_ca yd_Encoder_at.2.1 33 bk_Encoder_at_33 := qz_cab_ok _ _ (by decide +kernel)
set_option maxRecDepth 20000 in
theorem jb_Encoder_at_33 (G : qz_G) (s0 : Int) (h : qz_H) : qz_J yd_Encoder_at G bk_Encoder_at_33 33 [qz_u, qz_u] [qz_i s0] h 0 0 (fn_Encoder_at_33 s0 h) := by
  unfold fn_Encoder_at_33 bk_Encoder_at_33; exact
    qz_ireturn ⟨rfl, rfl⟩ rfl
set_option maxRecDepth 20000 in
theorem jb_Encoder_at_32 (G : qz_G) (h : qz_H) : qz_J yd_Encoder_at G bk_Encoder_at_32 32 [qz_u, qz_u] [] h 0 0 (fn_Encoder_at_32 h) := by
  unfold fn_Encoder_at_32 bk_Encoder_at_32; exact
    qz_iconst rfl <|
    qz_fall rfl ca_Encoder_at_33 <|
    qz_fgt [0, 0] <| jb_Encoder_at_33 G (-1) h
set_option maxRecDepth 20000 in
theorem cn_Encoder_at (l0 : Int) (l1 : Int) (h : qz_H) : qz_C yd_Encoder_at [qz_r true 2 l0, qz_i l1] h (fn_Encoder_at l0 l1 h) := by
  refine qz_con (is := bk_Encoder_at_0) (ls := [qz_r true 2 l0, qz_i l1]) mw_Encoder_at.2.2.2 ca_Encoder_at_0 rfl rfl rfl fun G => ?_
  unfold fn_Encoder_at bk_Encoder_at_0; exact
    qz_iload_n rfl <|
    qz_if_lt rfl ca_Encoder_at_32
      (qz_fgt [0, 0] <| jb_Encoder_at_32 G h)
      (qz_iload_n rfl <|
        qz_aload_n rfl <|
        qz_getI kg_2 fl_Encoder_19 rfl rfl <|
        qz_icmp_ge rfl ca_Encoder_at_32
          (qz_fgt [0, 0] <| jb_Encoder_at_32 G h)
          (qz_iload_n rfl <|
            qz_sipush rfl <|
            qz_icmp_ge rfl ca_Encoder_at_32
              (qz_fgt [0, 0] <| jb_Encoder_at_32 G h)
              (qz_aload_n rfl <|
                qz_getR (k1 := 43) kg_2 fl_Encoder_11 rfl rfl <|
                qz_iload_n rfl <|
                qz_nnd 1 rfl <|
                qz_bald (k0 := 43) rfl rfl rfl <|
                qz_sipush rfl <|
                qz_iand <|
                qz_goto rfl ca_Encoder_at_33 <|
                qz_fgt [0, 0] <| jb_Encoder_at_33 G (qz_and (h (h l0 0) l1) 255) h)))
def fn_SA_octet_23 (s0 : Int) (h : qz_H) : Option qz_R :=
  some (s0, h)
set_option maxRecDepth 20000 in
def fn_SA_octet (l0 : Int) (l1 : Int) (h : qz_H) : Option qz_R :=
  if ¬ l1 = (-1) then
    qz_ck ((h l0 2 : Int) ≠ 0) <|
    qz_bc (fn_Encoder_at (h l0 2) l1 h) fun r1 h2 =>
    fn_SA_octet_23 r1 h2
  else
    qz_ck ((h l0 2 : Int) ≠ 0) <|
    fn_SA_octet_23 (h (h l0 2) 2) h
def bk_SA_octet_0 : List (Instr × Nat) := [(.iload_n 1, 1), (.iconst (-1), 1), (.if_icmp .ne 13, 3), (.aload_n 0, 1), (.getfield 50, 3), (.getfield 113, 3), (.goto 11, 3)]
def bk_SA_octet_15 : List (Instr × Nat) := [(.aload_n 0, 1), (.getfield 50, 3), (.iload_n 1, 1), (.invokevirtual 114, 3)]
def bk_SA_octet_23 : List (Instr × Nat) := [(.ireturn, 1)]
theorem ca_SA_octet_0 : qz_ca yd_SA_octet.2.1 0 bk_SA_octet_0 := qz_cab_ok _ _ (by decide +kernel)
theorem ca_SA_octet_15 : qz_ca yd_SA_octet.2.1 15 bk_SA_octet_15 := qz_cab_ok _ _ (by decide +kernel)
theorem ca_SA_octet_23 : qz_ca yd_SA_octet.2.1 23 bk_SA_octet_23 := qz_cab_ok _ _ (by decide +kernel)
set_option maxRecDepth 20000 in
theorem jb_SA_octet_23 (G : qz_G) (s0 : Int) (h : qz_H) : qz_J yd_SA_octet G bk_SA_octet_23 23 [qz_u, qz_u] [qz_i s0] h 0 0 (fn_SA_octet_23 s0 h) := by
  unfold fn_SA_octet_23 bk_SA_octet_23; exact
    qz_ireturn ⟨rfl, rfl⟩ rfl
set_option maxRecDepth 20000 in
theorem cn_SA_octet (l0 : Int) (l1 : Int) (h : qz_H) : qz_C yd_SA_octet [qz_r true 0 l0, qz_i l1] h (fn_SA_octet l0 l1 h) := by
  refine qz_con (is := bk_SA_octet_0) (ls := [qz_r true 0 l0, qz_i l1]) mw_SA_octet.2.2.2 ca_SA_octet_0 rfl rfl rfl fun G => ?_
  unfold fn_SA_octet bk_SA_octet_0; exact
    qz_iload_n rfl <|
    qz_iconst rfl <|
    qz_icmp_ne rfl ca_SA_octet_15
      (qz_aload_n rfl <|
        qz_getR (k1 := 2) kg_0 fl_SA_50 rfl rfl <|
        qz_iload_n rfl <|
        qz_nnd 1 rfl <|
        qz_invvI [qz_i l1] rfl (cn_Encoder_at (h l0 2) l1 h) mw_Encoder_at vw_Encoder_at ⟨_, rfl, rfl, by decide⟩ rfl rfl ln_SA_114 rfl fun r1 h2 =>
        qz_fall rfl ca_SA_octet_23 <|
        qz_fgt [0, 0] <| jb_SA_octet_23 G r1 h2)
      (qz_aload_n rfl <|
        qz_getR (k1 := 2) kg_0 fl_SA_50 rfl rfl <|
        qz_nnd 0 rfl <|
        qz_getI kg_2 fl_SA_113 rfl rfl <|
        qz_goto rfl ca_SA_octet_23 <|
        qz_fgt [0, 0] <| jb_SA_octet_23 G (h (h l0 2) 2) h)
def fn_Text_addAll_2_b (k2 : Int → Int → Int → qz_H → Option qz_R) (l0 : Int) (l1 : Int) (l2 : Int) (h : qz_H) : Option qz_R :=
  qz_ck ((l1 : Int) ≠ 0) <|
  qz_bc (fn_String_length l1 h) fun r1 h2 =>
  if r1 ≤ l2 then
    some (0, h2)
  else
    qz_ck ((l1 : Int) ≠ 0) <|
    qz_bc (fn_String_charAt l1 l2 h2) fun r3 h4 =>
    qz_bc (fn_Text_add l0 r3 h4) fun _ h6 =>
    qz_bn (qz_w (l2 + 1)) fun x7 =>
    k2 l0 l1 x7 h6
def fn_Text_addAll_2 : Nat → Int → Int → Int → qz_H → Option qz_R
  | 0, _, _, _, _ => none
  | n + 1, l0, l1, l2, h => fn_Text_addAll_2_b (fn_Text_addAll_2 n) l0 l1 l2 h
set_option maxRecDepth 20000 in
def fn_Text_addAll (l0 : Int) (l1 : Int) (h : qz_H) : Option qz_R :=
  qz_bn (0 : Int) fun x1 =>
  fn_Text_addAll_2 qz_NF l0 l1 x1 h
def bk_Text_addAll_0 : List (Instr × Nat) := [(.iconst 0, 1), (.istore_n 2, 1)]
def bk_Text_addAll_2 : List (Instr × Nat) := [(.iload_n 2, 1), (.aload_n 1, 1), (.invokevirtual 19, 3), (.if_icmp .ge 18, 3), (.aload_n 0, 1), (.aload_n 1, 1), (.iload_n 2, 1), (.invokevirtual 24, 3), (.invokevirtual 28, 3), (.iinc 2 1, 3), (.goto (-20), 3)]
def bk_Text_addAll_25 : List (Instr × Nat) := [(.return_, 1)]
theorem ca_Text_addAll_0 : qz_ca yd_Text_addAll.2.1 0 bk_Text_addAll_0 := qz_cab_ok _ _ (by decide +kernel)
theorem ca_Text_addAll_2 : qz_ca yd_Text_addAll.2.1 2 bk_Text_addAll_2 := qz_cab_ok _ _ (by decide +kernel)
theorem ca_Text_addAll_25 : qz_ca yd_Text_addAll.2.1 25 bk_Text_addAll_25 := qz_cab_ok _ _ (by decide +kernel)
set_option maxRecDepth 20000 in
theorem jb_Text_addAll_2_b (G : qz_G) (k2 : Int → Int → Int → qz_H → Option qz_R) (jk2 : ∀ (l0 : Int) (l1 : Int) (l2 : Int) (h : qz_H), qz_J yd_Text_addAll G bk_Text_addAll_2 2 [qz_r true 11 l0, qz_r false 13 l1, qz_i l2] [] h 0 0 (k2 l0 l1 l2 h)) (l0 : Int) (l1 : Int) (l2 : Int) (h : qz_H) : qz_J yd_Text_addAll G bk_Text_addAll_2 2 [qz_r true 11 l0, qz_r false 13 l1, qz_i l2] [] h 0 0 (fn_Text_addAll_2_b k2 l0 l1 l2 h) := by
  unfold fn_Text_addAll_2_b bk_Text_addAll_2; exact
    qz_iload_n rfl <|
    qz_aload_n rfl <|
    qz_nnd 0 rfl <|
    qz_invvI [] rfl (cn_String_length l1 h) mw_String_length vw_String_length ⟨_, rfl, rfl, by decide⟩ rfl rfl ln_Text_19 rfl fun r1 h2 =>
    qz_icmp_ge rfl ca_Text_addAll_25
      (qz_return ⟨rfl, rfl⟩ rfl)
      (qz_aload_n rfl <|
        qz_aload_n rfl <|
        qz_iload_n rfl <|
        qz_nnd 1 rfl <|
        qz_invvI [qz_i l2] rfl (cn_String_charAt l1 l2 h2) mw_String_charAt vw_String_charAt ⟨_, rfl, rfl, by decide⟩ rfl rfl ln_Text_24 rfl fun r3 h4 =>
        qz_invvV [qz_i r3] rfl (cn_Text_add l0 r3 h4) mw_Text_add vw_Text_add ⟨_, rfl, rfl, by decide⟩ rfl rfl ln_Text_28 rfl fun _ h6 =>
        qz_iinc rfl (by decide) fun x7 =>
        qz_goto rfl ca_Text_addAll_2 <|
        qz_fgt [1, 1, 1] <| jk2 l0 l1 x7 h6)
theorem jb_Text_addAll_2 (G : qz_G) : ∀ (n : Nat) (l0 l1 l2 : Int) (h : qz_H), qz_J yd_Text_addAll G bk_Text_addAll_2 2 [qz_r true 11 l0, qz_r false 13 l1, qz_i l2] [] h 0 0 (fn_Text_addAll_2 n l0 l1 l2 h)
  | 0, _, _, _, _ => qz_none
  | n + 1, l0, l1, l2, h => jb_Text_addAll_2_b G (fn_Text_addAll_2 n) (jb_Text_addAll_2 G n) l0 l1 l2 h
set_option maxRecDepth 20000 in
theorem cn_Text_addAll (l0 : Int) (l1 : Int) (h : qz_H) : qz_C yd_Text_addAll [qz_r true 11 l0, qz_r false 13 l1] h (fn_Text_addAll l0 l1 h) := by
  refine qz_con (is := bk_Text_addAll_0) (ls := [qz_r true 11 l0, qz_r false 13 l1, qz_u]) mw_Text_addAll.2.2.2 ca_Text_addAll_0 rfl rfl rfl fun G => ?_
  unfold fn_Text_addAll bk_Text_addAll_0; exact
    qz_iconst rfl <|
    qz_istore_n (by decide) fun x1 =>
    qz_fall rfl ca_Text_addAll_2 <|
    qz_fgt [1, 1, 1] <| jb_Text_addAll_2 G qz_NF l0 l1 x1 h
def fn_Printer_writeType_16 (s0 : Int) (s1 : Int) (h : qz_H) : Option qz_R :=
  qz_ck ((s0 : Int) ≠ 0) <|
  qz_bc (fn_Text_addAll s0 s1 h) fun _ h2 =>
  some (0, h2)
set_option maxRecDepth 20000 in
def fn_Printer_writeType (l0 : Int) (l1 : Int) (h : qz_H) : Option qz_R :=
  if ¬ l1 = 1 then
    fn_Printer_writeType_16 (h l0 0) (-47) h
  else
    fn_Printer_writeType_16 (h l0 0) (-45) h
def bk_Printer_writeType_0 : List (Instr × Nat) := [(.aload_n 0, 1), (.getfield 9, 3), (.iload_n 1, 1), (.iconst 1, 1), (.if_icmp .ne 8, 3), (.ldc 100, 2), (.goto 5, 3)]
def bk_Printer_writeType_14 : List (Instr × Nat) := [(.ldc 102, 2)]
def bk_Printer_writeType_16 : List (Instr × Nat) := [(.invokevirtual 23, 3), (.return_, 1)]
theorem ca_Printer_writeType_0 : qz_ca yd_Printer_writeType.2.1 0 bk_Printer_writeType_0 := qz_cab_ok _ _ (by decide +kernel)
theorem ca_Printer_writeType_14 : qz_ca yd_Printer_writeType.2.1 14 bk_Printer_writeType_14 := qz_cab_ok _ _ (by decide +kernel)
theorem ca_Printer_writeType_16 : qz_ca yd_Printer_writeType.2.1 16 bk_Printer_writeType_16 := qz_cab_ok _ _ (by decide +kernel)
set_option maxRecDepth 20000 in
theorem jb_Printer_writeType_16 (G : qz_G) (s0 : Int) (s1 : Int) (h : qz_H) : qz_J yd_Printer_writeType G bk_Printer_writeType_16 16 [qz_u, qz_u] [qz_r true 13 s1, qz_r false 11 s0] h 0 0 (fn_Printer_writeType_16 s0 s1 h) := by
  unfold fn_Printer_writeType_16 bk_Printer_writeType_16; exact
    qz_nnd 1 rfl <|
    qz_wkS [2] <|
    qz_invvV [qz_r false 13 s1] rfl (cn_Text_addAll s0 s1 h) mw_Text_addAll vw_Text_addAll ⟨_, rfl, rfl, by decide⟩ rfl rfl ln_Printer_23 rfl fun _ h2 =>
    qz_return ⟨rfl, rfl⟩ rfl
set_option maxRecDepth 20000 in
theorem cn_Printer_writeType (l0 : Int) (l1 : Int) (h : qz_H) : qz_C yd_Printer_writeType [qz_r true 8 l0, qz_i l1] h (fn_Printer_writeType l0 l1 h) := by
  refine qz_con (is := bk_Printer_writeType_0) (ls := [qz_r true 8 l0, qz_i l1]) mw_Printer_writeType.2.2.2 ca_Printer_writeType_0 rfl rfl rfl fun G => ?_
  unfold fn_Printer_writeType bk_Printer_writeType_0; exact
    qz_aload_n rfl <|
    qz_getR (k1 := 11) kg_8 fl_Printer_9 rfl rfl <|
    qz_iload_n rfl <|
    qz_iconst rfl <|
    qz_icmp_ne rfl ca_Printer_writeType_14
      (qz_ldcS ss_Printer_102 rfl <|
        qz_fall rfl ca_Printer_writeType_16 <|
        qz_fgt [0, 0] <| jb_Printer_writeType_16 G (h l0 0) (-47) h)
      (qz_ldcS ss_Printer_100 rfl <|
        qz_goto rfl ca_Printer_writeType_16 <|
        qz_fgt [0, 0] <| jb_Printer_writeType_16 G (h l0 0) (-45) h)
