def fn_Md_readFunction_257 (l0 : Int) (l1 : Int) (l3 : Int) (h : qz_H) : Option qz_R :=
  qz_bc (fn_Md_body l0 l1 l3 h) fun r1 h2 =>
  qz_ck ((r1 : Int) = 0 ∨ (r1 : Int) = 1) (some (r1, h2))
def fn_Md_readFunction_224 (k123 : Int → Int → Int → Int → qz_H → Option qz_R) (l0 : Int) (l1 : Int) (l2 : Int) (l3 : Int) (h : qz_H) : Option qz_R :=
  qz_bc (fn_Md_is l0 465725251948 5 h) fun r1 h2 =>
  if r1 = 0 then
    qz_bn (1 : Int) fun x3 =>
    k123 l0 l1 l2 x3 h2
  else
    qz_bc (fn_Md_next l0 h2) fun _ h5 =>
    qz_bn (2 : Int) fun x6 =>
    qz_bc (fn_Md_variables l0 l1 0 h5) fun r7 h8 =>
    if ¬ r7 = 0 then
      k123 l0 l1 x6 l3 h8
    else
      qz_ck ((0 : Int) = 0 ∨ (0 : Int) = 1) (some (0, h8))
def fn_Md_readFunction_218 (l0 : Int) (h : qz_H) : Option qz_R :=
  qz_bc (fn_Md_fail l0 1 h) fun r1 h2 =>
  qz_ck ((r1 : Int) = 0 ∨ (r1 : Int) = 1) (some (r1, h2))
def fn_Md_readFunction_169 (k123 : Int → Int → Int → Int → qz_H → Option qz_R) (l0 : Int) (l1 : Int) (l2 : Int) (l3 : Int) (h : qz_H) : Option qz_R :=
  if ¬ l2 = 0 then
    fn_Md_readFunction_224 k123 l0 l1 l2 l3 h
  else
    qz_bc (fn_Md_is l0 125780054338676 6 h) fun r1 h2 =>
    if r1 = 0 then
      fn_Md_readFunction_224 k123 l0 l1 l2 l3 h2
    else
      qz_bc (fn_Md_next l0 h2) fun _ h4 =>
      qz_bn (1 : Int) fun x5 =>
      qz_bc (fn_Md_readType l0 h4) fun r6 h7 =>
      qz_ck ((h4 l0 18 : Int) ≠ 0) <|
      qz_ck (0 < h4 l0 18 ∧ (0 : Int) ≤ l1 ∧ l1 < h7 (h4 l0 18) (-1)) <|
      qz_bn (qz_up h7 (h4 l0 18) l1 r6) fun h8 =>
      qz_ck ((h8 l0 18 : Int) ≠ 0) <|
      qz_ck ((0 : Int) ≤ l1 ∧ l1 < h8 (h8 l0 18) (-1)) <|
      if h8 (h8 l0 18) l1 = 0 then
        fn_Md_readFunction_218 l0 h8
      else
        qz_bc (fn_Md_pass l0 2 h8) fun r9 h10 =>
        if ¬ r9 = 0 then
          k123 l0 l1 x5 l3 h10
        else
          fn_Md_readFunction_218 l0 h10
def fn_Md_readFunction_123_b (k123 : Int → Int → Int → Int → qz_H → Option qz_R) (l0 : Int) (l1 : Int) (l2 : Int) (l3 : Int) (h : qz_H) : Option qz_R :=
  if ¬ h l0 33 = 1 then
    fn_Md_readFunction_257 l0 l1 l3 h
  else
    if ¬ l3 = 0 then
      fn_Md_readFunction_257 l0 l1 l3 h
    else
      qz_bc (fn_Md_next l0 h) fun _ h2 =>
      if ¬ l2 = 0 then
        fn_Md_readFunction_169 k123 l0 l1 l2 l3 h2
      else
        qz_bc (fn_Md_is l0 482671223149 5 h2) fun r3 h4 =>
        if r3 = 0 then
          fn_Md_readFunction_169 k123 l0 l1 l2 l3 h4
        else
          qz_bc (fn_Md_next l0 h4) fun _ h6 =>
          qz_bc (fn_Md_variables l0 l1 1 h6) fun r7 h8 =>
          if ¬ r7 = 0 then
            k123 l0 l1 l2 l3 h8
          else
            qz_ck ((0 : Int) = 0 ∨ (0 : Int) = 1) (some (0, h8))
def fn_Md_readFunction_123 : Nat → Int → Int → Int → Int → qz_H → Option qz_R
  | 0, _, _, _, _, _ => none
  | n + 1, l0, l1, l2, l3, h => fn_Md_readFunction_123_b (fn_Md_readFunction_123 n) l0 l1 l2 l3 h
def fn_Md_readFunction_119 (l0 : Int) (l1 : Int) (h : qz_H) : Option qz_R :=
  qz_bn (0 : Int) fun x1 =>
  qz_bn (0 : Int) fun x2 =>
  fn_Md_readFunction_123 qz_NF l0 l1 x1 x2 h
def fn_Md_readFunction_105 (l0 : Int) (l1 : Int) (h : qz_H) : Option qz_R :=
  qz_ck ((h l0 25 : Int) ≠ 0) <|
  qz_ck (0 < h l0 25 ∧ (0 : Int) ≤ l1 ∧ l1 < h (h l0 25) (-1)) <|
  qz_bn (qz_up h (h l0 25) l1 (h l0 35)) fun h1 =>
  qz_bc (fn_Md_next l0 h1) fun _ h3 =>
  fn_Md_readFunction_119 l0 l1 h3
def fn_Md_readFunction_89 (k42 : Int → Int → Int → qz_H → Option qz_R) (l0 : Int) (l1 : Int) (l2 : Int) (h : qz_H) : Option qz_R :=
  qz_bn (qz_w (l2 + 1)) fun x1 =>
  k42 l0 l1 x1 h
def fn_Md_readFunction_42_b (k42 : Int → Int → Int → qz_H → Option qz_R) (l0 : Int) (l1 : Int) (l2 : Int) (h : qz_H) : Option qz_R :=
  if l1 ≤ l2 then
    qz_ck ((h l0 24 : Int) ≠ 0) <|
    qz_ck (0 < h l0 24 ∧ (0 : Int) ≤ l1 ∧ l1 < h (h l0 24) (-1)) <|
    qz_bn (qz_up h (h l0 24) l1 (h l0 34)) fun h1 =>
    fn_Md_readFunction_105 l0 l1 h1
  else
    qz_ck ((h l0 25 : Int) ≠ 0) <|
    qz_ck ((0 : Int) ≤ l2 ∧ l2 < h (h l0 25) (-1)) <|
    if h (h l0 25) l2 ≤ 0 then
      fn_Md_readFunction_89 k42 l0 l1 l2 h
    else
      qz_ck ((h l0 24 : Int) ≠ 0) <|
      qz_ck ((0 : Int) ≤ l2 ∧ l2 < h (h l0 24) (-1)) <|
      qz_ck ((h l0 25 : Int) ≠ 0) <|
      qz_ck ((0 : Int) ≤ l2 ∧ l2 < h (h l0 25) (-1)) <|
      qz_bc (fn_Md_sameName l0 (h (h l0 24) l2) (h (h l0 25) l2) (h l0 34) (h l0 35) h) fun r2 h3 =>
      if r2 = 0 then
        fn_Md_readFunction_89 k42 l0 l1 l2 h3
      else
        qz_bc (fn_Md_fail l0 1 h3) fun r4 h5 =>
        qz_ck ((r4 : Int) = 0 ∨ (r4 : Int) = 1) (some (r4, h5))
def fn_Md_readFunction_42 : Nat → Int → Int → Int → qz_H → Option qz_R
  | 0, _, _, _, _ => none
  | n + 1, l0, l1, l2, h => fn_Md_readFunction_42_b (fn_Md_readFunction_42 n) l0 l1 l2 h
set_option maxRecDepth 20000 in
def fn_Md_readFunction (l0 : Int) (l1 : Int) (h : qz_H) : Option qz_R :=
  qz_ck ((h l0 16 : Int) ≠ 0) <|
  qz_ck (0 < h l0 16 ∧ (0 : Int) ≤ l1 ∧ l1 < h (h l0 16) (-1)) <|
  qz_bn (qz_up h (h l0 16) l1 0) fun h1 =>
  qz_ck ((h1 l0 17 : Int) ≠ 0) <|
  qz_ck (0 < h1 l0 17 ∧ (0 : Int) ≤ l1 ∧ l1 < h1 (h1 l0 17) (-1)) <|
  qz_bn (qz_up h1 (h1 l0 17) l1 0) fun h2 =>
  qz_ck ((h2 l0 18 : Int) ≠ 0) <|
  qz_ck (0 < h2 l0 18 ∧ (0 : Int) ≤ l1 ∧ l1 < h2 (h2 l0 18) (-1)) <|
  qz_bn (qz_up h2 (h2 l0 18) l1 0) fun h3 =>
  qz_ck ((h3 l0 25 : Int) ≠ 0) <|
  qz_ck (0 < h3 l0 25 ∧ (0 : Int) ≤ l1 ∧ l1 < h3 (h3 l0 25) (-1)) <|
  qz_bn (qz_up h3 (h3 l0 25) l1 0) fun h4 =>
  qz_ck ((0 : Int) < l0) <|
  qz_bn (qz_up h4 l0 39 0) fun h5 =>
  qz_bc (fn_Md_isId l0 h5) fun r6 h7 =>
  if r6 = 0 then
    fn_Md_readFunction_119 l0 l1 h7
  else
    qz_bn (0 : Int) fun x8 =>
    fn_Md_readFunction_42 qz_NF l0 l1 x8 h7
def bk_Md_readFunction_0 : List (Instr × Nat) := [(.aload_n 0, 1), (.getfield 115, 3), (.iload_n 1, 1), (.iconst 0, 1), (.iastore, 1), (.aload_n 0, 1), (.getfield 118, 3), (.iload_n 1, 1), (.iconst 0, 1), (.iastore, 1), (.aload_n 0, 1), (.getfield 121, 3), (.iload_n 1, 1), (.iconst 0, 1), (.iastore, 1), (.aload_n 0, 1), (.getfield 139, 3), (.iload_n 1, 1), (.iconst 0, 1), (.iastore, 1), (.aload_n 0, 1), (.iconst 0, 1), (.putfield 297, 3), (.aload_n 0, 1), (.invokevirtual 284, 3), (.ifCond .eq 82, 3), (.iconst 0, 1), (.istore_n 2, 1)]
def bk_Md_readFunction_119 : List (Instr × Nat) := [(.iconst 0, 1), (.istore_n 2, 1), (.iconst 0, 1), (.istore_n 3, 1)]
def bk_Md_readFunction_42 : List (Instr × Nat) := [(.iload_n 2, 1), (.iload_n 1, 1), (.if_icmp .ge 51, 3), (.aload_n 0, 1), (.getfield 139, 3), (.iload_n 2, 1), (.iaload, 1), (.ifCond .le 36, 3), (.aload_n 0, 1), (.aload_n 0, 1), (.getfield 136, 3), (.iload_n 2, 1), (.iaload, 1), (.aload_n 0, 1), (.getfield 139, 3), (.iload_n 2, 1), (.iaload, 1), (.aload_n 0, 1), (.getfield 224, 3), (.aload_n 0, 1), (.getfield 247, 3), (.invokevirtual 300, 3), (.ifCond .eq 9, 3), (.aload_n 0, 1), (.iconst 1, 1), (.invokevirtual 253, 3), (.ireturn, 1)]
def bk_Md_readFunction_123 : List (Instr × Nat) := [(.aload_n 0, 1), (.getfield 231, 3), (.iconst 1, 1), (.if_icmp .ne 129, 3), (.iload_n 3, 1), (.ifCond .ne 125, 3), (.aload_n 0, 1), (.invokevirtual 256, 3), (.iload_n 2, 1), (.ifCond .ne 29, 3), (.aload_n 0, 1), (.ldc2_w 323, 3), (.iconst 5, 1), (.invokevirtual 259, 3), (.ifCond .eq 18, 3), (.aload_n 0, 1), (.invokevirtual 256, 3), (.aload_n 0, 1), (.iload_n 1, 1), (.iconst 1, 1), (.invokevirtual 325, 3), (.ifCond .ne (-41), 3), (.iconst 0, 1), (.ireturn, 1)]
def bk_Md_readFunction_95 : List (Instr × Nat) := [(.aload_n 0, 1), (.getfield 136, 3), (.iload_n 1, 1), (.aload_n 0, 1), (.getfield 224, 3), (.iastore, 1)]
def bk_Md_readFunction_105 : List (Instr × Nat) := [(.aload_n 0, 1), (.getfield 139, 3), (.iload_n 1, 1), (.aload_n 0, 1), (.getfield 247, 3), (.iastore, 1), (.aload_n 0, 1), (.invokevirtual 256, 3)]
def bk_Md_readFunction_89 : List (Instr × Nat) := [(.iinc 2 1, 3), (.goto (-50), 3)]
def bk_Md_readFunction_257 : List (Instr × Nat) := [(.aload_n 0, 1), (.iload_n 1, 1), (.iload_n 3, 1), (.invokevirtual 335, 3), (.ireturn, 1)]
def bk_Md_readFunction_169 : List (Instr × Nat) := [(.iload_n 2, 1), (.ifCond .ne 54, 3), (.aload_n 0, 1), (.ldc2_w 328, 3), (.bipush 6, 2), (.invokevirtual 259, 3), (.ifCond .eq 42, 3), (.aload_n 0, 1), (.invokevirtual 256, 3), (.iconst 1, 1), (.istore_n 2, 1), (.aload_n 0, 1), (.getfield 121, 3), (.iload_n 1, 1), (.aload_n 0, 1), (.invokevirtual 330, 3), (.iastore, 1), (.aload_n 0, 1), (.getfield 121, 3), (.iload_n 1, 1), (.iaload, 1), (.ifCond .eq 11, 3), (.aload_n 0, 1), (.iconst 2, 1), (.invokevirtual 310, 3), (.ifCond .ne (-92), 3)]
def bk_Md_readFunction_224 : List (Instr × Nat) := [(.aload_n 0, 1), (.ldc2_w 333, 3), (.iconst 5, 1), (.invokevirtual 259, 3), (.ifCond .eq 20, 3), (.aload_n 0, 1), (.invokevirtual 256, 3), (.iconst 2, 1), (.istore_n 2, 1), (.aload_n 0, 1), (.iload_n 1, 1), (.iconst 0, 1), (.invokevirtual 325, 3), (.ifCond .ne (-124), 3), (.iconst 0, 1), (.ireturn, 1)]
def bk_Md_readFunction_218 : List (Instr × Nat) := [(.aload_n 0, 1), (.iconst 1, 1), (.invokevirtual 253, 3), (.ireturn, 1)]
def bk_Md_readFunction_252 : List (Instr × Nat) := [(.iconst 1, 1), (.istore_n 3, 1), (.goto (-131), 3)]
theorem ca_Md_readFunction_0 : qz_ca yd_Md_readFunction.2.1 0 bk_Md_readFunction_0 := qz_cab_ok _ _ (by decide +kernel)
theorem ca_Md_readFunction_119 : qz_ca yd_Md_readFunction.2.1 119 bk_Md_readFunction_119 := qz_cab_ok _ _ (by decide +kernel)
theorem ca_Md_readFunction_42 : qz_ca yd_Md_readFunction.2.1 42 bk_Md_readFunction_42 := qz_cab_ok _ _ (by decide +kernel)
theorem ca_Md_readFunction_123 : qz_ca yd_Md_readFunction.2.1 123 bk_Md_readFunction_123 := qz_cab_ok _ _ (by decide +kernel)
theorem ca_Md_readFunction_95 : qz_ca yd_Md_readFunction.2.1 95 bk_Md_readFunction_95 := qz_cab_ok _ _ (by decide +kernel)
theorem ca_Md_readFunction_105 : qz_ca yd_Md_readFunction.2.1 105 bk_Md_readFunction_105 := qz_cab_ok _ _ (by decide +kernel)
theorem ca_Md_readFunction_89 : qz_ca yd_Md_readFunction.2.1 89 bk_Md_readFunction_89 := qz_cab_ok _ _ (by decide +kernel)
theorem ca_Md_readFunction_257 : qz_ca yd_Md_readFunction.2.1 257 bk_Md_readFunction_257 := qz_cab_ok _ _ (by decide +kernel)
theorem ca_Md_readFunction_169 : qz_ca yd_Md_readFunction.2.1 169 bk_Md_readFunction_169 := qz_cab_ok _ _ (by decide +kernel)
theorem ca_Md_readFunction_224 : qz_ca yd_Md_readFunction.2.1 224 bk_Md_readFunction_224 := qz_cab_ok _ _ (by decide +kernel)
theorem ca_Md_readFunction_218 : qz_ca yd_Md_readFunction.2.1 218 bk_Md_readFunction_218 := qz_cab_ok _ _ (by decide +kernel)
theorem ca_Md_readFunction_252 : qz_ca yd_Md_readFunction.2.1 252 bk_Md_readFunction_252 := qz_cab_ok _ _ (by decide +kernel)
set_option maxRecDepth 20000 in
theorem jb_Md_readFunction_257 (G : qz_G) (l0 : Int) (l1 : Int) (l3 : Int) (h : qz_H) : qz_J yd_Md_readFunction G bk_Md_readFunction_257 257 [qz_r true 12 l0, qz_i l1, qz_u, qz_i l3] [] h 0 0 (fn_Md_readFunction_257 l0 l1 l3 h) := by
  unfold fn_Md_readFunction_257 bk_Md_readFunction_257; exact
    qz_aload_n rfl <|
    qz_iload_n rfl <|
    qz_iload_n rfl <|
    qz_invvI [qz_i l1, qz_i l3] rfl (cn_Md_body l0 l1 l3 h) mw_Md_body vw_Md_body ⟨_, rfl, rfl, by decide⟩ rfl rfl ln_Md_335 rfl fun r1 h2 =>
    qz_zreturn ⟨rfl, rfl⟩ rfl
set_option maxRecDepth 20000 in
theorem jb_Md_readFunction_224 (G : qz_G) (k123 : Int → Int → Int → Int → qz_H → Option qz_R) (jk123 : ∀ (l0 : Int) (l1 : Int) (l2 : Int) (l3 : Int) (h : qz_H), qz_J yd_Md_readFunction G bk_Md_readFunction_123 123 [qz_r true 12 l0, qz_i l1, qz_i l2, qz_i l3] [] h 0 0 (k123 l0 l1 l2 l3 h)) (l0 : Int) (l1 : Int) (l2 : Int) (l3 : Int) (h : qz_H) : qz_J yd_Md_readFunction G bk_Md_readFunction_224 224 [qz_r true 12 l0, qz_i l1, qz_i l2, qz_i l3] [] h 0 0 (fn_Md_readFunction_224 k123 l0 l1 l2 l3 h) := by
  unfold fn_Md_readFunction_224 bk_Md_readFunction_224; exact
    qz_aload_n rfl <|
    qz_ldc2 wc_Md_333 rfl <|
    qz_iconst rfl <|
    qz_invvI [qz_j 465725251948, qz_i 5] rfl (cn_Md_is l0 465725251948 5 h) mw_Md_is vw_Md_is ⟨_, rfl, rfl, by decide⟩ rfl rfl ln_Md_259 rfl fun r1 h2 =>
    qz_if_eq rfl ca_Md_readFunction_252
      (qz_iconst rfl <|
        qz_istore_n (by decide) fun x3 =>
        qz_goto rfl ca_Md_readFunction_123 <|
        qz_fgt [1, 1, 1, 1] <| jk123 l0 l1 l2 x3 h2)
      (qz_aload_n rfl <|
        qz_invvV [] rfl (cn_Md_next l0 h2) mw_Md_next vw_Md_next ⟨_, rfl, rfl, by decide⟩ rfl rfl ln_Md_256 rfl fun _ h5 =>
        qz_iconst rfl <|
        qz_istore_n (by decide) fun x6 =>
        qz_aload_n rfl <|
        qz_iload_n rfl <|
        qz_iconst rfl <|
        qz_invvI [qz_i l1, qz_i 0] rfl (cn_Md_variables l0 l1 0 h5) mw_Md_variables vw_Md_variables ⟨_, rfl, rfl, by decide⟩ rfl rfl ln_Md_325 rfl fun r7 h8 =>
        qz_if_ne rfl ca_Md_readFunction_123
          (qz_fgt [1, 1, 1, 1] <| jk123 l0 l1 x6 l3 h8)
          (qz_iconst rfl <|
            qz_zreturn ⟨rfl, rfl⟩ rfl))
set_option maxRecDepth 20000 in
theorem jb_Md_readFunction_218 (G : qz_G) (l0 : Int) (h : qz_H) : qz_J yd_Md_readFunction G bk_Md_readFunction_218 218 [qz_r true 12 l0, qz_u, qz_u, qz_u] [] h 0 0 (fn_Md_readFunction_218 l0 h) := by
  unfold fn_Md_readFunction_218 bk_Md_readFunction_218; exact
    qz_aload_n rfl <|
    qz_iconst rfl <|
    qz_invvI [qz_i 1] rfl (cn_Md_fail l0 1 h) mw_Md_fail vw_Md_fail ⟨_, rfl, rfl, by decide⟩ rfl rfl ln_Md_253 rfl fun r1 h2 =>
    qz_zreturn ⟨rfl, rfl⟩ rfl
set_option maxRecDepth 20000 in
theorem jb_Md_readFunction_169 (G : qz_G) (k123 : Int → Int → Int → Int → qz_H → Option qz_R) (jk123 : ∀ (l0 : Int) (l1 : Int) (l2 : Int) (l3 : Int) (h : qz_H), qz_J yd_Md_readFunction G bk_Md_readFunction_123 123 [qz_r true 12 l0, qz_i l1, qz_i l2, qz_i l3] [] h 0 0 (k123 l0 l1 l2 l3 h)) (l0 : Int) (l1 : Int) (l2 : Int) (l3 : Int) (h : qz_H) : qz_J yd_Md_readFunction G bk_Md_readFunction_169 169 [qz_r true 12 l0, qz_i l1, qz_i l2, qz_i l3] [] h 0 0 (fn_Md_readFunction_169 k123 l0 l1 l2 l3 h) := by
  unfold fn_Md_readFunction_169 bk_Md_readFunction_169; exact
    qz_iload_n rfl <|
    qz_if_ne rfl ca_Md_readFunction_224
      (qz_fgt [1, 1, 1, 1] <| jb_Md_readFunction_224 G k123 jk123 l0 l1 l2 l3 h)
      (qz_aload_n rfl <|
        qz_ldc2 wc_Md_328 rfl <|
        qz_bipush rfl <|
        qz_invvI [qz_j 125780054338676, qz_i 6] rfl (cn_Md_is l0 125780054338676 6 h) mw_Md_is vw_Md_is ⟨_, rfl, rfl, by decide⟩ rfl rfl ln_Md_259 rfl fun r1 h2 =>
        qz_if_eq rfl ca_Md_readFunction_224
          (qz_fgt [1, 1, 1, 1] <| jb_Md_readFunction_224 G k123 jk123 l0 l1 l2 l3 h2)
          (qz_aload_n rfl <|
            qz_invvV [] rfl (cn_Md_next l0 h2) mw_Md_next vw_Md_next ⟨_, rfl, rfl, by decide⟩ rfl rfl ln_Md_256 rfl fun _ h4 =>
            qz_iconst rfl <|
            qz_istore_n (by decide) fun x5 =>
            qz_aload_n rfl <|
            qz_getR (k1 := 40) kg_12 fl_Md_121 rfl rfl <|
            qz_iload_n rfl <|
            qz_aload_n rfl <|
            qz_invvI [] rfl (cn_Md_readType l0 h4) mw_Md_readType vw_Md_readType ⟨_, rfl, rfl, by decide⟩ rfl rfl ln_Md_330 rfl fun r6 h7 =>
            qz_nnd 2 rfl <|
            qz_iast rfl rfl rfl fun h8 =>
            qz_aload_n rfl <|
            qz_getR (k1 := 40) kg_12 fl_Md_121 rfl rfl <|
            qz_iload_n rfl <|
            qz_nnd 1 rfl <|
            qz_iald (k0 := 40) rfl rfl rfl <|
            qz_if_eq rfl ca_Md_readFunction_218
              (qz_fgt [1, 0, 0, 0] <| jb_Md_readFunction_218 G l0 h8)
              (qz_aload_n rfl <|
                qz_iconst rfl <|
                qz_invvI [qz_i 2] rfl (cn_Md_pass l0 2 h8) mw_Md_pass vw_Md_pass ⟨_, rfl, rfl, by decide⟩ rfl rfl ln_Md_310 rfl fun r9 h10 =>
                qz_if_ne rfl ca_Md_readFunction_123
                  (qz_fgt [1, 1, 1, 1] <| jk123 l0 l1 x5 l3 h10)
                  (qz_fall rfl ca_Md_readFunction_218 <|
                    qz_fgt [1, 0, 0, 0] <| jb_Md_readFunction_218 G l0 h10))))
set_option maxRecDepth 20000 in
theorem jb_Md_readFunction_123_b (G : qz_G) (k123 : Int → Int → Int → Int → qz_H → Option qz_R) (jk123 : ∀ (l0 : Int) (l1 : Int) (l2 : Int) (l3 : Int) (h : qz_H), qz_J yd_Md_readFunction G bk_Md_readFunction_123 123 [qz_r true 12 l0, qz_i l1, qz_i l2, qz_i l3] [] h 0 0 (k123 l0 l1 l2 l3 h)) (l0 : Int) (l1 : Int) (l2 : Int) (l3 : Int) (h : qz_H) : qz_J yd_Md_readFunction G bk_Md_readFunction_123 123 [qz_r true 12 l0, qz_i l1, qz_i l2, qz_i l3] [] h 0 0 (fn_Md_readFunction_123_b k123 l0 l1 l2 l3 h) := by
  unfold fn_Md_readFunction_123_b bk_Md_readFunction_123; exact
    qz_aload_n rfl <|
    qz_getI kg_12 fl_Md_231 rfl rfl <|
    qz_iconst rfl <|
    qz_icmp_ne rfl ca_Md_readFunction_257
      (qz_fgt [1, 1, 0, 1] <| jb_Md_readFunction_257 G l0 l1 l3 h)
      (qz_iload_n rfl <|
        qz_if_ne rfl ca_Md_readFunction_257
          (qz_fgt [1, 1, 0, 1] <| jb_Md_readFunction_257 G l0 l1 l3 h)
          (qz_aload_n rfl <|
            qz_invvV [] rfl (cn_Md_next l0 h) mw_Md_next vw_Md_next ⟨_, rfl, rfl, by decide⟩ rfl rfl ln_Md_256 rfl fun _ h2 =>
            qz_iload_n rfl <|
            qz_if_ne rfl ca_Md_readFunction_169
              (qz_fgt [1, 1, 1, 1] <| jb_Md_readFunction_169 G k123 jk123 l0 l1 l2 l3 h2)
              (qz_aload_n rfl <|
                qz_ldc2 wc_Md_323 rfl <|
                qz_iconst rfl <|
                qz_invvI [qz_j 482671223149, qz_i 5] rfl (cn_Md_is l0 482671223149 5 h2) mw_Md_is vw_Md_is ⟨_, rfl, rfl, by decide⟩ rfl rfl ln_Md_259 rfl fun r3 h4 =>
                qz_if_eq rfl ca_Md_readFunction_169
                  (qz_fgt [1, 1, 1, 1] <| jb_Md_readFunction_169 G k123 jk123 l0 l1 l2 l3 h4)
                  (qz_aload_n rfl <|
                    qz_invvV [] rfl (cn_Md_next l0 h4) mw_Md_next vw_Md_next ⟨_, rfl, rfl, by decide⟩ rfl rfl ln_Md_256 rfl fun _ h6 =>
                    qz_aload_n rfl <|
                    qz_iload_n rfl <|
                    qz_iconst rfl <|
                    qz_invvI [qz_i l1, qz_i 1] rfl (cn_Md_variables l0 l1 1 h6) mw_Md_variables vw_Md_variables ⟨_, rfl, rfl, by decide⟩ rfl rfl ln_Md_325 rfl fun r7 h8 =>
                    qz_if_ne rfl ca_Md_readFunction_123
                      (qz_fgt [1, 1, 1, 1] <| jk123 l0 l1 l2 l3 h8)
                      (qz_iconst rfl <|
                        qz_zreturn ⟨rfl, rfl⟩ rfl)))))
theorem jb_Md_readFunction_123 (G : qz_G) : ∀ (n : Nat) (l0 l1 l2 l3 : Int) (h : qz_H), qz_J yd_Md_readFunction G bk_Md_readFunction_123 123 [qz_r true 12 l0, qz_i l1, qz_i l2, qz_i l3] [] h 0 0 (fn_Md_readFunction_123 n l0 l1 l2 l3 h)
  | 0, _, _, _, _, _ => qz_none
  | n + 1, l0, l1, l2, l3, h => jb_Md_readFunction_123_b G (fn_Md_readFunction_123 n) (jb_Md_readFunction_123 G n) l0 l1 l2 l3 h
set_option maxRecDepth 20000 in
theorem jb_Md_readFunction_119 (G : qz_G) (l0 : Int) (l1 : Int) (h : qz_H) : qz_J yd_Md_readFunction G bk_Md_readFunction_119 119 [qz_r true 12 l0, qz_i l1, qz_u, qz_u] [] h 0 0 (fn_Md_readFunction_119 l0 l1 h) := by
  unfold fn_Md_readFunction_119 bk_Md_readFunction_119; exact
    qz_iconst rfl <|
    qz_istore_n (by decide) fun x1 =>
    qz_iconst rfl <|
    qz_istore_n (by decide) fun x2 =>
    qz_fall rfl ca_Md_readFunction_123 <|
    qz_fgt [1, 1, 1, 1] <| jb_Md_readFunction_123 G qz_NF l0 l1 x1 x2 h
set_option maxRecDepth 20000 in
theorem jb_Md_readFunction_105 (G : qz_G) (l0 : Int) (l1 : Int) (h : qz_H) : qz_J yd_Md_readFunction G bk_Md_readFunction_105 105 [qz_r true 12 l0, qz_i l1, qz_u, qz_u] [] h 0 0 (fn_Md_readFunction_105 l0 l1 h) := by
  unfold fn_Md_readFunction_105 bk_Md_readFunction_105; exact
    qz_aload_n rfl <|
    qz_getR (k1 := 40) kg_12 fl_Md_139 rfl rfl <|
    qz_iload_n rfl <|
    qz_aload_n rfl <|
    qz_getI kg_12 fl_Md_247 rfl rfl <|
    qz_nnd 2 rfl <|
    qz_iast rfl rfl rfl fun h1 =>
    qz_aload_n rfl <|
    qz_invvV [] rfl (cn_Md_next l0 h1) mw_Md_next vw_Md_next ⟨_, rfl, rfl, by decide⟩ rfl rfl ln_Md_256 rfl fun _ h3 =>
    qz_fall rfl ca_Md_readFunction_119 <|
    qz_fgt [1, 1, 0, 0] <| jb_Md_readFunction_119 G l0 l1 h3
set_option maxRecDepth 20000 in
theorem jb_Md_readFunction_89 (G : qz_G) (k42 : Int → Int → Int → qz_H → Option qz_R) (jk42 : ∀ (l0 : Int) (l1 : Int) (l2 : Int) (h : qz_H), qz_J yd_Md_readFunction G bk_Md_readFunction_42 42 [qz_r true 12 l0, qz_i l1, qz_i l2, qz_u] [] h 0 0 (k42 l0 l1 l2 h)) (l0 : Int) (l1 : Int) (l2 : Int) (h : qz_H) : qz_J yd_Md_readFunction G bk_Md_readFunction_89 89 [qz_r true 12 l0, qz_i l1, qz_i l2, qz_u] [] h 0 0 (fn_Md_readFunction_89 k42 l0 l1 l2 h) := by
  unfold fn_Md_readFunction_89 bk_Md_readFunction_89; exact
    qz_iinc rfl (by decide) fun x1 =>
    qz_goto rfl ca_Md_readFunction_42 <|
    qz_fgt [1, 1, 1, 0] <| jk42 l0 l1 x1 h
set_option maxRecDepth 20000 in
theorem jb_Md_readFunction_42_b (G : qz_G) (k42 : Int → Int → Int → qz_H → Option qz_R) (jk42 : ∀ (l0 : Int) (l1 : Int) (l2 : Int) (h : qz_H), qz_J yd_Md_readFunction G bk_Md_readFunction_42 42 [qz_r true 12 l0, qz_i l1, qz_i l2, qz_u] [] h 0 0 (k42 l0 l1 l2 h)) (l0 : Int) (l1 : Int) (l2 : Int) (h : qz_H) : qz_J yd_Md_readFunction G bk_Md_readFunction_42 42 [qz_r true 12 l0, qz_i l1, qz_i l2, qz_u] [] h 0 0 (fn_Md_readFunction_42_b k42 l0 l1 l2 h) := by
  unfold fn_Md_readFunction_42_b bk_Md_readFunction_42; exact
    qz_iload_n rfl <|
    qz_iload_n rfl <|
    qz_icmp_ge rfl ca_Md_readFunction_95
      (qz_aload_n rfl <|
        qz_getR (k1 := 40) kg_12 fl_Md_136 rfl rfl <|
        qz_iload_n rfl <|
        qz_aload_n rfl <|
        qz_getI kg_12 fl_Md_224 rfl rfl <|
        qz_nnd 2 rfl <|
        qz_iast rfl rfl rfl fun h1 =>
        qz_fall rfl ca_Md_readFunction_105 <|
        qz_fgt [1, 1, 0, 0] <| jb_Md_readFunction_105 G l0 l1 h1)
      (qz_aload_n rfl <|
        qz_getR (k1 := 40) kg_12 fl_Md_139 rfl rfl <|
        qz_iload_n rfl <|
        qz_nnd 1 rfl <|
        qz_iald (k0 := 40) rfl rfl rfl <|
        qz_if_le rfl ca_Md_readFunction_89
          (qz_fgt [1, 1, 1, 0] <| jb_Md_readFunction_89 G k42 jk42 l0 l1 l2 h)
          (qz_aload_n rfl <|
            qz_aload_n rfl <|
            qz_getR (k1 := 40) kg_12 fl_Md_136 rfl rfl <|
            qz_iload_n rfl <|
            qz_nnd 1 rfl <|
            qz_iald (k0 := 40) rfl rfl rfl <|
            qz_aload_n rfl <|
            qz_getR (k1 := 40) kg_12 fl_Md_139 rfl rfl <|
            qz_iload_n rfl <|
            qz_nnd 1 rfl <|
            qz_iald (k0 := 40) rfl rfl rfl <|
            qz_aload_n rfl <|
            qz_getI kg_12 fl_Md_224 rfl rfl <|
            qz_aload_n rfl <|
            qz_getI kg_12 fl_Md_247 rfl rfl <|
            qz_invvI [qz_i (h (h l0 24) l2), qz_i (h (h l0 25) l2), qz_i (h l0 34), qz_i (h l0 35)] rfl (cn_Md_sameName l0 (h (h l0 24) l2) (h (h l0 25) l2) (h l0 34) (h l0 35) h) mw_Md_sameName vw_Md_sameName ⟨_, rfl, rfl, by decide⟩ rfl rfl ln_Md_300 rfl fun r2 h3 =>
            qz_if_eq rfl ca_Md_readFunction_89
              (qz_fgt [1, 1, 1, 0] <| jb_Md_readFunction_89 G k42 jk42 l0 l1 l2 h3)
              (qz_aload_n rfl <|
                qz_iconst rfl <|
                qz_invvI [qz_i 1] rfl (cn_Md_fail l0 1 h3) mw_Md_fail vw_Md_fail ⟨_, rfl, rfl, by decide⟩ rfl rfl ln_Md_253 rfl fun r4 h5 =>
                qz_zreturn ⟨rfl, rfl⟩ rfl)))
theorem jb_Md_readFunction_42 (G : qz_G) : ∀ (n : Nat) (l0 l1 l2 : Int) (h : qz_H), qz_J yd_Md_readFunction G bk_Md_readFunction_42 42 [qz_r true 12 l0, qz_i l1, qz_i l2, qz_u] [] h 0 0 (fn_Md_readFunction_42 n l0 l1 l2 h)
  | 0, _, _, _, _ => qz_none
  | n + 1, l0, l1, l2, h => jb_Md_readFunction_42_b G (fn_Md_readFunction_42 n) (jb_Md_readFunction_42 G n) l0 l1 l2 h
set_option maxRecDepth 20000 in
theorem cn_Md_readFunction (l0 : Int) (l1 : Int) (h : qz_H) : qz_C yd_Md_readFunction [qz_r true 12 l0, qz_i l1] h (fn_Md_readFunction l0 l1 h) := by
  refine qz_con (is := bk_Md_readFunction_0) (ls := [qz_r true 12 l0, qz_i l1, qz_u, qz_u]) mw_Md_readFunction.2.2.2 ca_Md_readFunction_0 rfl rfl rfl fun G => ?_
  unfold fn_Md_readFunction bk_Md_readFunction_0; exact
    qz_aload_n rfl <|
    qz_getR (k1 := 40) kg_12 fl_Md_115 rfl rfl <|
    qz_iload_n rfl <|
    qz_iconst rfl <|
    qz_nnd 2 rfl <|
    qz_iast rfl rfl rfl fun h1 =>
    qz_aload_n rfl <|
    qz_getR (k1 := 40) kg_12 fl_Md_118 rfl rfl <|
    qz_iload_n rfl <|
    qz_iconst rfl <|
    qz_nnd 2 rfl <|
    qz_iast rfl rfl rfl fun h2 =>
    qz_aload_n rfl <|
    qz_getR (k1 := 40) kg_12 fl_Md_121 rfl rfl <|
    qz_iload_n rfl <|
    qz_iconst rfl <|
    qz_nnd 2 rfl <|
    qz_iast rfl rfl rfl fun h3 =>
    qz_aload_n rfl <|
    qz_getR (k1 := 40) kg_12 fl_Md_139 rfl rfl <|
    qz_iload_n rfl <|
    qz_iconst rfl <|
    qz_nnd 2 rfl <|
    qz_iast rfl rfl rfl fun h4 =>
    qz_aload_n rfl <|
    qz_iconst rfl <|
    qz_putI kw_12 fp_Md_297_Md_readFunction rfl rfl fun h5 =>
    qz_aload_n rfl <|
    qz_invvI [] rfl (cn_Md_isId l0 h5) mw_Md_isId vw_Md_isId ⟨_, rfl, rfl, by decide⟩ rfl rfl ln_Md_284 rfl fun r6 h7 =>
    qz_if_eq rfl ca_Md_readFunction_119
      (qz_fgt [1, 1, 0, 0] <| jb_Md_readFunction_119 G l0 l1 h7)
      (qz_iconst rfl <|
        qz_istore_n (by decide) fun x8 =>
        qz_fall rfl ca_Md_readFunction_42 <|
        qz_fgt [1, 1, 1, 0] <| jb_Md_readFunction_42 G qz_NF l0 l1 x8 h7)
def fn_Md_readModule_49 (h : qz_H) : Option qz_R :=
  qz_ck ((0 : Int) = 0 ∨ (0 : Int) = 1) (some (0, h))
def fn_Md_readModule_179 (s0 : Int) (h : qz_H) : Option qz_R :=
  qz_ck ((s0 : Int) = 0 ∨ (s0 : Int) = 1) (some (s0, h))
def fn_Md_readModule_174 (h : qz_H) : Option qz_R :=
  fn_Md_readModule_179 1 h
def fn_Md_readModule_51_b (k51 : Int → qz_H → Option qz_R) (l0 : Int) (h : qz_H) : Option qz_R :=
  if ¬ h l0 33 = 1 then
    qz_ck ((h l0 20 : Int) ≠ 0) <|
    qz_ck (0 < h l0 20 ∧ (0 : Int) ≤ h l0 15 ∧ h l0 15 < h (h l0 20) (-1)) <|
    qz_bn (qz_up h (h l0 20) (h l0 15) (h l0 23)) fun h1 =>
    qz_bc (fn_Md_pass l0 2 h1) fun r2 h3 =>
    if ¬ r2 = 0 then
      if h3 l0 33 = 0 then
        fn_Md_readModule_174 h3
      else
        qz_bc (fn_Md_fail l0 1 h3) fun r4 h5 =>
        if r4 = 0 then
          fn_Md_readModule_179 0 h5
        else
          fn_Md_readModule_174 h5
    else
      qz_ck ((0 : Int) = 0 ∨ (0 : Int) = 1) (some (0, h3))
  else
    qz_bc (fn_Md_next l0 h) fun _ h7 =>
    qz_bc (fn_Md_is l0 1718972003 4 h7) fun r8 h9 =>
    if ¬ r8 = 0 then
      if ¬ h9 l0 15 = 4 then
        qz_bc (fn_Md_next l0 h9) fun _ h11 =>
        qz_ck ((h11 l0 20 : Int) ≠ 0) <|
        qz_ck (0 < h11 l0 20 ∧ (0 : Int) ≤ h11 l0 15 ∧ h11 l0 15 < h11 (h11 l0 20) (-1)) <|
        qz_bn (qz_up h11 (h11 l0 20) (h11 l0 15) (h11 l0 23)) fun h12 =>
        qz_ck ((0 : Int) < l0) <|
        qz_bn (qz_up h12 l0 15 (qz_w ((h12 l0 15) + 1))) fun h13 =>
        qz_bc (fn_Md_readFunction l0 (qz_w ((h13 l0 15) - 1)) h13) fun r14 h15 =>
        if ¬ r14 = 0 then
          k51 l0 h15
        else
          qz_ck ((0 : Int) = 0 ∨ (0 : Int) = 1) (some (0, h15))
      else
        qz_bc (fn_Md_fail l0 2 h9) fun r16 h17 =>
        qz_ck ((r16 : Int) = 0 ∨ (r16 : Int) = 1) (some (r16, h17))
    else
      qz_bc (fn_Md_fail l0 1 h9) fun r18 h19 =>
      qz_ck ((r18 : Int) = 0 ∨ (r18 : Int) = 1) (some (r18, h19))
def fn_Md_readModule_51 : Nat → Int → qz_H → Option qz_R
  | 0, _, _ => none
  | n + 1, l0, h => fn_Md_readModule_51_b (fn_Md_readModule_51 n) l0 h
set_option maxRecDepth 20000 in
def fn_Md_readModule (l0 : Int) (h : qz_H) : Option qz_R :=
  qz_ck ((0 : Int) < l0) <|
  qz_bn (qz_up h l0 32 0) fun h1 =>
  qz_ck ((0 : Int) < l0) <|
  qz_bn (qz_up h1 l0 38 0) fun h2 =>
  qz_ck ((0 : Int) < l0) <|
  qz_bn (qz_up h2 l0 23 0) fun h3 =>
  qz_ck ((0 : Int) < l0) <|
  qz_bn (qz_up h3 l0 28 0) fun h4 =>
  qz_ck ((0 : Int) < l0) <|
  qz_bn (qz_up h4 l0 15 0) fun h5 =>
  qz_bc (fn_Md_next l0 h5) fun _ h7 =>
  qz_bc (fn_Md_pass l0 1 h7) fun r8 h9 =>
  if r8 = 0 then
    fn_Md_readModule_49 h9
  else
    qz_bc (fn_Md_passWord l0 120325194214501 6 h9) fun r10 h11 =>
    if ¬ r10 = 0 then
      fn_Md_readModule_51 qz_NF l0 h11
    else
      fn_Md_readModule_49 h11
def bk_Md_readModule_0 : List (Instr × Nat) := [(.aload_n 0, 1), (.iconst 0, 1), (.putfield 217, 3), (.aload_n 0, 1), (.iconst 0, 1), (.putfield 250, 3), (.aload_n 0, 1), (.iconst 0, 1), (.putfield 304, 3), (.aload_n 0, 1), (.iconst 0, 1), (.putfield 287, 3), (.aload_n 0, 1), (.iconst 0, 1), (.putfield 307, 3), (.aload_n 0, 1), (.invokevirtual 256, 3), (.aload_n 0, 1), (.iconst 1, 1), (.invokevirtual 310, 3), (.ifCond .eq 15, 3), (.aload_n 0, 1), (.ldc2_w 313, 3), (.bipush 6, 2), (.invokevirtual 315, 3), (.ifCond .ne 5, 3)]
def bk_Md_readModule_49 : List (Instr × Nat) := [(.iconst 0, 1), (.ireturn, 1)]
def bk_Md_readModule_51 : List (Instr × Nat) := [(.aload_n 0, 1), (.getfield 231, 3), (.iconst 1, 1), (.if_icmp .ne 80, 3), (.aload_n 0, 1), (.invokevirtual 256, 3), (.aload_n 0, 1), (.ldc2_w 318, 3), (.iconst 4, 1), (.invokevirtual 259, 3), (.ifCond .ne 9, 3), (.aload_n 0, 1), (.iconst 1, 1), (.invokevirtual 253, 3), (.ireturn, 1)]
def bk_Md_readModule_136 : List (Instr × Nat) := [(.aload_n 0, 1), (.getfield 127, 3), (.aload_n 0, 1), (.getfield 307, 3), (.aload_n 0, 1), (.getfield 304, 3), (.iastore, 1), (.aload_n 0, 1), (.iconst 2, 1), (.invokevirtual 310, 3), (.ifCond .ne 5, 3), (.iconst 0, 1), (.ireturn, 1)]
def bk_Md_readModule_159 : List (Instr × Nat) := [(.aload_n 0, 1), (.getfield 231, 3), (.ifCond .eq 11, 3), (.aload_n 0, 1), (.iconst 1, 1), (.invokevirtual 253, 3), (.ifCond .eq 7, 3)]
def bk_Md_readModule_174 : List (Instr × Nat) := [(.iconst 1, 1), (.goto 4, 3)]
def bk_Md_readModule_178 : List (Instr × Nat) := [(.iconst 0, 1)]
def bk_Md_readModule_179 : List (Instr × Nat) := [(.ireturn, 1)]
def bk_Md_readModule_80 : List (Instr × Nat) := [(.aload_n 0, 1), (.getfield 307, 3), (.iconst 4, 1), (.if_icmp .ne 9, 3), (.aload_n 0, 1), (.iconst 2, 1), (.invokevirtual 253, 3), (.ireturn, 1)]
def bk_Md_readModule_94 : List (Instr × Nat) := [(.aload_n 0, 1), (.invokevirtual 256, 3), (.aload_n 0, 1), (.getfield 127, 3), (.aload_n 0, 1), (.getfield 307, 3), (.aload_n 0, 1), (.getfield 304, 3), (.iastore, 1), (.aload_n 0, 1), (.dup, 1), (.getfield 307, 3), (.iconst 1, 1), (.iadd, 1), (.putfield 307, 3), (.aload_n 0, 1), (.aload_n 0, 1), (.getfield 307, 3), (.iconst 1, 1), (.isub, 1), (.invokevirtual 320, 3), (.ifCond .ne (-80), 3), (.iconst 0, 1), (.ireturn, 1)]
theorem ca_Md_readModule_0 : qz_ca yd_Md_readModule.2.1 0 bk_Md_readModule_0 := qz_cab_ok _ _ (by decide +kernel)
theorem ca_Md_readModule_49 : qz_ca yd_Md_readModule.2.1 49 bk_Md_readModule_49 := qz_cab_ok _ _ (by decide +kernel)
theorem ca_Md_readModule_51 : qz_ca yd_Md_readModule.2.1 51 bk_Md_readModule_51 := qz_cab_ok _ _ (by decide +kernel)
theorem ca_Md_readModule_136 : qz_ca yd_Md_readModule.2.1 136 bk_Md_readModule_136 := qz_cab_ok _ _ (by decide +kernel)
theorem ca_Md_readModule_159 : qz_ca yd_Md_readModule.2.1 159 bk_Md_readModule_159 := qz_cab_ok _ _ (by decide +kernel)
theorem ca_Md_readModule_174 : qz_ca yd_Md_readModule.2.1 174 bk_Md_readModule_174 := qz_cab_ok _ _ (by decide +kernel)
theorem ca_Md_readModule_178 : qz_ca yd_Md_readModule.2.1 178 bk_Md_readModule_178 := qz_cab_ok _ _ (by decide +kernel)
theorem ca_Md_readModule_179 : qz_ca yd_Md_readModule.2.1 179 bk_Md_readModule_179 := qz_cab_ok _ _ (by decide +kernel)
theorem ca_Md_readModule_80 : qz_ca yd_Md_readModule.2.1 80 bk_Md_readModule_80 := qz_cab_ok _ _ (by decide +kernel)
theorem ca_Md_readModule_94 : qz_ca yd_Md_readModule.2.1 94 bk_Md_readModule_94 := qz_cab_ok _ _ (by decide +kernel)
set_option maxRecDepth 20000 in
theorem jb_Md_readModule_49 (G : qz_G) (h : qz_H) : qz_J yd_Md_readModule G bk_Md_readModule_49 49 [qz_u] [] h 0 0 (fn_Md_readModule_49 h) := by
  unfold fn_Md_readModule_49 bk_Md_readModule_49; exact
    qz_iconst rfl <|
    qz_zreturn ⟨rfl, rfl⟩ rfl
set_option maxRecDepth 20000 in
theorem jb_Md_readModule_179 (G : qz_G) (s0 : Int) (h : qz_H) : qz_J yd_Md_readModule G bk_Md_readModule_179 179 [qz_u] [qz_i s0] h 0 0 (fn_Md_readModule_179 s0 h) := by
  unfold fn_Md_readModule_179 bk_Md_readModule_179; exact
    qz_zreturn ⟨rfl, rfl⟩ rfl
set_option maxRecDepth 20000 in
theorem jb_Md_readModule_174 (G : qz_G) (h : qz_H) : qz_J yd_Md_readModule G bk_Md_readModule_174 174 [qz_u] [] h 0 0 (fn_Md_readModule_174 h) := by
  unfold fn_Md_readModule_174 bk_Md_readModule_174; exact
    qz_iconst rfl <|
    qz_goto rfl ca_Md_readModule_179 <|
    qz_fgt [0] <| jb_Md_readModule_179 G 1 h
set_option maxRecDepth 20000 in
theorem jb_Md_readModule_51_b (G : qz_G) (k51 : Int → qz_H → Option qz_R) (jk51 : ∀ (l0 : Int) (h : qz_H), qz_J yd_Md_readModule G bk_Md_readModule_51 51 [qz_r true 12 l0] [] h 0 0 (k51 l0 h)) (l0 : Int) (h : qz_H) : qz_J yd_Md_readModule G bk_Md_readModule_51 51 [qz_r true 12 l0] [] h 0 0 (fn_Md_readModule_51_b k51 l0 h) := by
  unfold fn_Md_readModule_51_b bk_Md_readModule_51; exact
    qz_aload_n rfl <|
    qz_getI kg_12 fl_Md_231 rfl rfl <|
    qz_iconst rfl <|
    qz_icmp_ne rfl ca_Md_readModule_136
      (qz_aload_n rfl <|
        qz_getR (k1 := 40) kg_12 fl_Md_127 rfl rfl <|
        qz_aload_n rfl <|
        qz_getI kg_12 fl_Md_307 rfl rfl <|
        qz_aload_n rfl <|
        qz_getI kg_12 fl_Md_304 rfl rfl <|
        qz_nnd 2 rfl <|
        qz_iast rfl rfl rfl fun h1 =>
        qz_aload_n rfl <|
        qz_iconst rfl <|
        qz_invvI [qz_i 2] rfl (cn_Md_pass l0 2 h1) mw_Md_pass vw_Md_pass ⟨_, rfl, rfl, by decide⟩ rfl rfl ln_Md_310 rfl fun r2 h3 =>
        qz_if_ne rfl ca_Md_readModule_159
          (qz_aload_n rfl <|
            qz_getI kg_12 fl_Md_231 rfl rfl <|
            qz_if_eq rfl ca_Md_readModule_174
              (qz_fgt [0] <| jb_Md_readModule_174 G h3)
              (qz_aload_n rfl <|
                qz_iconst rfl <|
                qz_invvI [qz_i 1] rfl (cn_Md_fail l0 1 h3) mw_Md_fail vw_Md_fail ⟨_, rfl, rfl, by decide⟩ rfl rfl ln_Md_253 rfl fun r4 h5 =>
                qz_if_eq rfl ca_Md_readModule_178
                  (qz_iconst rfl <|
                    qz_fall rfl ca_Md_readModule_179 <|
                    qz_fgt [0] <| jb_Md_readModule_179 G 0 h5)
                  (qz_fall rfl ca_Md_readModule_174 <|
                    qz_fgt [0] <| jb_Md_readModule_174 G h5)))
          (qz_iconst rfl <|
            qz_zreturn ⟨rfl, rfl⟩ rfl))
      (qz_aload_n rfl <|
        qz_invvV [] rfl (cn_Md_next l0 h) mw_Md_next vw_Md_next ⟨_, rfl, rfl, by decide⟩ rfl rfl ln_Md_256 rfl fun _ h7 =>
        qz_aload_n rfl <|
        qz_ldc2 wc_Md_318 rfl <|
        qz_iconst rfl <|
        qz_invvI [qz_j 1718972003, qz_i 4] rfl (cn_Md_is l0 1718972003 4 h7) mw_Md_is vw_Md_is ⟨_, rfl, rfl, by decide⟩ rfl rfl ln_Md_259 rfl fun r8 h9 =>
        qz_if_ne rfl ca_Md_readModule_80
          (qz_aload_n rfl <|
            qz_getI kg_12 fl_Md_307 rfl rfl <|
            qz_iconst rfl <|
            qz_icmp_ne rfl ca_Md_readModule_94
              (qz_aload_n rfl <|
                qz_invvV [] rfl (cn_Md_next l0 h9) mw_Md_next vw_Md_next ⟨_, rfl, rfl, by decide⟩ rfl rfl ln_Md_256 rfl fun _ h11 =>
                qz_aload_n rfl <|
                qz_getR (k1 := 40) kg_12 fl_Md_127 rfl rfl <|
                qz_aload_n rfl <|
                qz_getI kg_12 fl_Md_307 rfl rfl <|
                qz_aload_n rfl <|
                qz_getI kg_12 fl_Md_304 rfl rfl <|
                qz_nnd 2 rfl <|
                qz_iast rfl rfl rfl fun h12 =>
                qz_aload_n rfl <|
                qz_dup rfl <|
                qz_getI kg_12 fl_Md_307 rfl rfl <|
                qz_iconst rfl <|
                qz_iadd <|
                qz_putI kw_12 fp_Md_307_Md_readModule rfl rfl fun h13 =>
                qz_aload_n rfl <|
                qz_aload_n rfl <|
                qz_getI kg_12 fl_Md_307 rfl rfl <|
                qz_iconst rfl <|
                qz_isub <|
                qz_invvI [qz_i (qz_w ((h13 l0 15) - 1))] rfl (cn_Md_readFunction l0 (qz_w ((h13 l0 15) - 1)) h13) mw_Md_readFunction vw_Md_readFunction ⟨_, rfl, rfl, by decide⟩ rfl rfl ln_Md_320 rfl fun r14 h15 =>
                qz_if_ne rfl ca_Md_readModule_51
                  (qz_fgt [1] <| jk51 l0 h15)
                  (qz_iconst rfl <|
                    qz_zreturn ⟨rfl, rfl⟩ rfl))
              (qz_aload_n rfl <|
                qz_iconst rfl <|
                qz_invvI [qz_i 2] rfl (cn_Md_fail l0 2 h9) mw_Md_fail vw_Md_fail ⟨_, rfl, rfl, by decide⟩ rfl rfl ln_Md_253 rfl fun r16 h17 =>
                qz_zreturn ⟨rfl, rfl⟩ rfl))
          (qz_aload_n rfl <|
            qz_iconst rfl <|
            qz_invvI [qz_i 1] rfl (cn_Md_fail l0 1 h9) mw_Md_fail vw_Md_fail ⟨_, rfl, rfl, by decide⟩ rfl rfl ln_Md_253 rfl fun r18 h19 =>
            qz_zreturn ⟨rfl, rfl⟩ rfl))
theorem jb_Md_readModule_51 (G : qz_G) : ∀ (n : Nat) (l0 : Int) (h : qz_H), qz_J yd_Md_readModule G bk_Md_readModule_51 51 [qz_r true 12 l0] [] h 0 0 (fn_Md_readModule_51 n l0 h)
  | 0, _, _ => qz_none
  | n + 1, l0, h => jb_Md_readModule_51_b G (fn_Md_readModule_51 n) (jb_Md_readModule_51 G n) l0 h
set_option maxRecDepth 20000 in
theorem cn_Md_readModule (l0 : Int) (h : qz_H) : qz_C yd_Md_readModule [qz_r true 12 l0] h (fn_Md_readModule l0 h) := by
  refine qz_con (is := bk_Md_readModule_0) (ls := [qz_r true 12 l0]) mw_Md_readModule.2.2.2 ca_Md_readModule_0 rfl rfl rfl fun G => ?_
  unfold fn_Md_readModule bk_Md_readModule_0; exact
    qz_aload_n rfl <|
    qz_iconst rfl <|
    qz_putI kw_12 fp_Md_217_Md_readModule rfl rfl fun h1 =>
    qz_aload_n rfl <|
    qz_iconst rfl <|
    qz_putI kw_12 fp_Md_250_Md_readModule rfl rfl fun h2 =>
    qz_aload_n rfl <|
    qz_iconst rfl <|
    qz_putI kw_12 fp_Md_304_Md_readModule rfl rfl fun h3 =>
    qz_aload_n rfl <|
    qz_iconst rfl <|
    qz_putI kw_12 fp_Md_287_Md_readModule rfl rfl fun h4 =>
    qz_aload_n rfl <|
    qz_iconst rfl <|
    qz_putI kw_12 fp_Md_307_Md_readModule rfl rfl fun h5 =>
    qz_aload_n rfl <|
    qz_invvV [] rfl (cn_Md_next l0 h5) mw_Md_next vw_Md_next ⟨_, rfl, rfl, by decide⟩ rfl rfl ln_Md_256 rfl fun _ h7 =>
    qz_aload_n rfl <|
    qz_iconst rfl <|
    qz_invvI [qz_i 1] rfl (cn_Md_pass l0 1 h7) mw_Md_pass vw_Md_pass ⟨_, rfl, rfl, by decide⟩ rfl rfl ln_Md_310 rfl fun r8 h9 =>
    qz_if_eq rfl ca_Md_readModule_49
      (qz_fgt [0] <| jb_Md_readModule_49 G h9)
      (qz_aload_n rfl <|
        qz_ldc2 wc_Md_313 rfl <|
        qz_bipush rfl <|
        qz_invvI [qz_j 120325194214501, qz_i 6] rfl (cn_Md_passWord l0 120325194214501 6 h9) mw_Md_passWord vw_Md_passWord ⟨_, rfl, rfl, by decide⟩ rfl rfl ln_Md_315 rfl fun r10 h11 =>
        qz_if_ne rfl ca_Md_readModule_51
          (qz_fgt [1] <| jb_Md_readModule_51 G qz_NF l0 h11)
          (qz_fall rfl ca_Md_readModule_49 <|
            qz_fgt [0] <| jb_Md_readModule_49 G h11))
def fn_Md_resolve_67 (k2 : Int → Int → qz_H → Option qz_R) (k14 : Int → Int → Int → Int → qz_H → Option qz_R) (l0 : Int) (l1 : Int) (l3 : Int) (s0 : Int) (h : qz_H) : Option qz_R :=
  qz_bn (s0 : Int) fun x1 =>
  qz_bn (qz_w (l3 + 1)) fun x2 =>
  k14 l0 l1 x1 x2 h
def fn_Md_resolve_66 (k2 : Int → Int → qz_H → Option qz_R) (k14 : Int → Int → Int → Int → qz_H → Option qz_R) (l0 : Int) (l1 : Int) (l2 : Int) (l3 : Int) (h : qz_H) : Option qz_R :=
  fn_Md_resolve_67 k2 k14 l0 l1 l3 l2 h
def fn_Md_resolve_14_b (k2 : Int → Int → qz_H → Option qz_R) (k14 : Int → Int → Int → Int → qz_H → Option qz_R) (l0 : Int) (l1 : Int) (l2 : Int) (l3 : Int) (h : qz_H) : Option qz_R :=
  if h l0 15 ≤ l3 then
    if 0 ≤ l2 then
      qz_ck ((h l0 31 : Int) ≠ 0) <|
      qz_ck ((0 : Int) ≤ l1 ∧ l1 < h (h l0 31) (-1)) <|
      qz_ck ((h l0 22 : Int) ≠ 0) <|
      qz_ck (0 < h l0 22 ∧ (0 : Int) ≤ h (h l0 31) l1 ∧ h (h l0 31) l1 < h (h l0 22) (-1)) <|
      qz_bn (qz_up h (h l0 22) (h (h l0 31) l1) l2) fun h1 =>
      qz_bn (qz_w (l1 + 1)) fun x2 =>
      k2 l0 x2 h1
    else
      qz_ck ((h l0 29 : Int) ≠ 0) <|
      qz_ck ((0 : Int) ≤ l1 ∧ l1 < h (h l0 29) (-1)) <|
      qz_ck ((0 : Int) < l0) <|
      qz_bn (qz_up h l0 34 (h (h l0 29) l1)) fun h3 =>
      qz_bc (fn_Md_fail l0 1 h3) fun r4 h5 =>
      qz_ck ((r4 : Int) = 0 ∨ (r4 : Int) = 1) (some (r4, h5))
  else
    qz_ck ((h l0 25 : Int) ≠ 0) <|
    qz_ck ((0 : Int) ≤ l3 ∧ l3 < h (h l0 25) (-1)) <|
    if h (h l0 25) l3 ≤ 0 then
      fn_Md_resolve_66 k2 k14 l0 l1 l2 l3 h
    else
      qz_ck ((h l0 24 : Int) ≠ 0) <|
      qz_ck ((0 : Int) ≤ l3 ∧ l3 < h (h l0 24) (-1)) <|
      qz_ck ((h l0 25 : Int) ≠ 0) <|
      qz_ck ((0 : Int) ≤ l3 ∧ l3 < h (h l0 25) (-1)) <|
      qz_ck ((h l0 29 : Int) ≠ 0) <|
      qz_ck ((0 : Int) ≤ l1 ∧ l1 < h (h l0 29) (-1)) <|
      qz_ck ((h l0 30 : Int) ≠ 0) <|
      qz_ck ((0 : Int) ≤ l1 ∧ l1 < h (h l0 30) (-1)) <|
      qz_bc (fn_Md_sameName l0 (h (h l0 24) l3) (h (h l0 25) l3) (h (h l0 29) l1) (h (h l0 30) l1) h) fun r6 h7 =>
      if r6 = 0 then
        fn_Md_resolve_66 k2 k14 l0 l1 l2 l3 h7
      else
        fn_Md_resolve_67 k2 k14 l0 l1 l3 l3 h7
def fn_Md_resolve_14 (k2 : Int → Int → qz_H → Option qz_R) : Nat → Int → Int → Int → Int → qz_H → Option qz_R
  | 0, _, _, _, _, _ => none
  | n + 1, l0, l1, l2, l3, h => fn_Md_resolve_14_b k2 (fn_Md_resolve_14 k2 n) l0 l1 l2 l3 h
def fn_Md_resolve_2_b (k2 : Int → Int → qz_H → Option qz_R) (l0 : Int) (l1 : Int) (h : qz_H) : Option qz_R :=
  if h l0 28 ≤ l1 then
    qz_ck ((1 : Int) = 0 ∨ (1 : Int) = 1) (some (1, h))
  else
    qz_bn ((-1) : Int) fun x1 =>
    qz_bn (0 : Int) fun x2 =>
    fn_Md_resolve_14 k2 qz_NF l0 l1 x1 x2 h
def fn_Md_resolve_2 : Nat → Int → Int → qz_H → Option qz_R
  | 0, _, _, _ => none
  | n + 1, l0, l1, h => fn_Md_resolve_2_b (fn_Md_resolve_2 n) l0 l1 h
set_option maxRecDepth 20000 in
def fn_Md_resolve (l0 : Int) (h : qz_H) : Option qz_R :=
  qz_bn (0 : Int) fun x1 =>
  fn_Md_resolve_2 qz_NF l0 x1 h
def bk_Md_resolve_0 : List (Instr × Nat) := [(.iconst 0, 1), (.istore_n 1, 1)]
def bk_Md_resolve_2 : List (Instr × Nat) := [(.iload_n 1, 1), (.aload_n 0, 1), (.getfield 287, 3), (.if_icmp .ge 106, 3), (.iconst (-1), 1), (.istore_n 2, 1), (.iconst 0, 1), (.istore_n 3, 1)]
def bk_Md_resolve_113 : List (Instr × Nat) := [(.iconst 1, 1), (.ireturn, 1)]
def bk_Md_resolve_14 : List (Instr × Nat) := [(.iload_n 3, 1), (.aload_n 0, 1), (.getfield 307, 3), (.if_icmp .ge 55, 3), (.aload_n 0, 1), (.getfield 139, 3), (.iload_n 3, 1), (.iaload, 1), (.ifCond .le 38, 3), (.aload_n 0, 1), (.aload_n 0, 1), (.getfield 136, 3), (.iload_n 3, 1), (.iaload, 1), (.aload_n 0, 1), (.getfield 139, 3), (.iload_n 3, 1), (.iaload, 1), (.aload_n 0, 1), (.getfield 148, 3), (.iload_n 1, 1), (.iaload, 1), (.aload_n 0, 1), (.getfield 151, 3), (.iload_n 1, 1), (.iaload, 1), (.invokevirtual 300, 3), (.ifCond .eq 7, 3), (.iload_n 3, 1), (.goto 4, 3)]
def bk_Md_resolve_74 : List (Instr × Nat) := [(.iload_n 2, 1), (.ifCond .ge 19, 3), (.aload_n 0, 1), (.aload_n 0, 1), (.getfield 148, 3), (.iload_n 1, 1), (.iaload, 1), (.putfield 224, 3), (.aload_n 0, 1), (.iconst 1, 1), (.invokevirtual 253, 3), (.ireturn, 1)]
def bk_Md_resolve_94 : List (Instr × Nat) := [(.aload_n 0, 1), (.getfield 133, 3), (.aload_n 0, 1), (.getfield 154, 3), (.iload_n 1, 1), (.iaload, 1), (.iload_n 2, 1), (.i2l, 1), (.lastore, 1), (.iinc 1 1, 3), (.goto (-108), 3)]
def bk_Md_resolve_66 : List (Instr × Nat) := [(.iload_n 2, 1)]
def bk_Md_resolve_67 : List (Instr × Nat) := [(.istore_n 2, 1), (.iinc 3 1, 3), (.goto (-57), 3)]
theorem ca_Md_resolve_0 : qz_ca yd_Md_resolve.2.1 0 bk_Md_resolve_0 := qz_cab_ok _ _ (by decide +kernel)
theorem ca_Md_resolve_2 : qz_ca yd_Md_resolve.2.1 2 bk_Md_resolve_2 := qz_cab_ok _ _ (by decide +kernel)
theorem ca_Md_resolve_113 : qz_ca yd_Md_resolve.2.1 113 bk_Md_resolve_113 := qz_cab_ok _ _ (by decide +kernel)
theorem ca_Md_resolve_14 : qz_ca yd_Md_resolve.2.1 14 bk_Md_resolve_14 := qz_cab_ok _ _ (by decide +kernel)
theorem ca_Md_resolve_74 : qz_ca yd_Md_resolve.2.1 74 bk_Md_resolve_74 := qz_cab_ok _ _ (by decide +kernel)
theorem ca_Md_resolve_94 : qz_ca yd_Md_resolve.2.1 94 bk_Md_resolve_94 := qz_cab_ok _ _ (by decide +kernel)
theorem ca_Md_resolve_66 : qz_ca yd_Md_resolve.2.1 66 bk_Md_resolve_66 := qz_cab_ok _ _ (by decide +kernel)
theorem ca_Md_resolve_67 : qz_ca yd_Md_resolve.2.1 67 bk_Md_resolve_67 := qz_cab_ok _ _ (by decide +kernel)
set_option maxRecDepth 20000 in
theorem jb_Md_resolve_67 (G : qz_G) (k2 : Int → Int → qz_H → Option qz_R) (k14 : Int → Int → Int → Int → qz_H → Option qz_R) (jk2 : ∀ (l0 : Int) (l1 : Int) (h : qz_H), qz_J yd_Md_resolve G bk_Md_resolve_2 2 [qz_r true 12 l0, qz_i l1, qz_u, qz_u] [] h 0 0 (k2 l0 l1 h)) (jk14 : ∀ (l0 : Int) (l1 : Int) (l2 : Int) (l3 : Int) (h : qz_H), qz_J yd_Md_resolve G bk_Md_resolve_14 14 [qz_r true 12 l0, qz_i l1, qz_i l2, qz_i l3] [] h 0 0 (k14 l0 l1 l2 l3 h)) (l0 : Int) (l1 : Int) (l3 : Int) (s0 : Int) (h : qz_H) : qz_J yd_Md_resolve G bk_Md_resolve_67 67 [qz_r true 12 l0, qz_i l1, qz_u, qz_i l3] [qz_i s0] h 0 0 (fn_Md_resolve_67 k2 k14 l0 l1 l3 s0 h) := by
  unfold fn_Md_resolve_67 bk_Md_resolve_67; exact
    qz_istore_n (by decide) fun x1 =>
    qz_iinc rfl (by decide) fun x2 =>
    qz_goto rfl ca_Md_resolve_14 <|
    qz_fgt [1, 1, 1, 1] <| jk14 l0 l1 x1 x2 h
set_option maxRecDepth 20000 in
theorem jb_Md_resolve_66 (G : qz_G) (k2 : Int → Int → qz_H → Option qz_R) (k14 : Int → Int → Int → Int → qz_H → Option qz_R) (jk2 : ∀ (l0 : Int) (l1 : Int) (h : qz_H), qz_J yd_Md_resolve G bk_Md_resolve_2 2 [qz_r true 12 l0, qz_i l1, qz_u, qz_u] [] h 0 0 (k2 l0 l1 h)) (jk14 : ∀ (l0 : Int) (l1 : Int) (l2 : Int) (l3 : Int) (h : qz_H), qz_J yd_Md_resolve G bk_Md_resolve_14 14 [qz_r true 12 l0, qz_i l1, qz_i l2, qz_i l3] [] h 0 0 (k14 l0 l1 l2 l3 h)) (l0 : Int) (l1 : Int) (l2 : Int) (l3 : Int) (h : qz_H) : qz_J yd_Md_resolve G bk_Md_resolve_66 66 [qz_r true 12 l0, qz_i l1, qz_i l2, qz_i l3] [] h 0 0 (fn_Md_resolve_66 k2 k14 l0 l1 l2 l3 h) := by
  unfold fn_Md_resolve_66 bk_Md_resolve_66; exact
    qz_iload_n rfl <|
    qz_fall rfl ca_Md_resolve_67 <|
    qz_fgt [1, 1, 0, 1] <| jb_Md_resolve_67 G k2 k14 jk2 jk14 l0 l1 l3 l2 h
set_option maxRecDepth 20000 in
theorem jb_Md_resolve_14_b (G : qz_G) (k2 : Int → Int → qz_H → Option qz_R) (jk2 : ∀ (l0 : Int) (l1 : Int) (h : qz_H), qz_J yd_Md_resolve G bk_Md_resolve_2 2 [qz_r true 12 l0, qz_i l1, qz_u, qz_u] [] h 0 0 (k2 l0 l1 h)) (k14 : Int → Int → Int → Int → qz_H → Option qz_R) (jk14 : ∀ (l0 : Int) (l1 : Int) (l2 : Int) (l3 : Int) (h : qz_H), qz_J yd_Md_resolve G bk_Md_resolve_14 14 [qz_r true 12 l0, qz_i l1, qz_i l2, qz_i l3] [] h 0 0 (k14 l0 l1 l2 l3 h)) (l0 : Int) (l1 : Int) (l2 : Int) (l3 : Int) (h : qz_H) : qz_J yd_Md_resolve G bk_Md_resolve_14 14 [qz_r true 12 l0, qz_i l1, qz_i l2, qz_i l3] [] h 0 0 (fn_Md_resolve_14_b k2 k14 l0 l1 l2 l3 h) := by
  unfold fn_Md_resolve_14_b bk_Md_resolve_14; exact
    qz_iload_n rfl <|
    qz_aload_n rfl <|
    qz_getI kg_12 fl_Md_307 rfl rfl <|
    qz_icmp_ge rfl ca_Md_resolve_74
      (qz_iload_n rfl <|
        qz_if_ge rfl ca_Md_resolve_94
          (qz_aload_n rfl <|
            qz_getR (k1 := 41) kg_12 fl_Md_133 rfl rfl <|
            qz_aload_n rfl <|
            qz_getR (k1 := 40) kg_12 fl_Md_154 rfl rfl <|
            qz_iload_n rfl <|
            qz_nnd 1 rfl <|
            qz_iald (k0 := 40) rfl rfl rfl <|
            qz_iload_n rfl <|
            qz_i2l <|
            qz_nnd 2 rfl <|
            qz_last rfl rfl rfl fun h1 =>
            qz_iinc rfl (by decide) fun x2 =>
            qz_goto rfl ca_Md_resolve_2 <|
            qz_fgt [1, 1, 0, 0] <| jk2 l0 x2 h1)
          (qz_aload_n rfl <|
            qz_aload_n rfl <|
            qz_getR (k1 := 40) kg_12 fl_Md_148 rfl rfl <|
            qz_iload_n rfl <|
            qz_nnd 1 rfl <|
            qz_iald (k0 := 40) rfl rfl rfl <|
            qz_putI kw_12 fp_Md_224_Md_resolve rfl rfl fun h3 =>
            qz_aload_n rfl <|
            qz_iconst rfl <|
            qz_invvI [qz_i 1] rfl (cn_Md_fail l0 1 h3) mw_Md_fail vw_Md_fail ⟨_, rfl, rfl, by decide⟩ rfl rfl ln_Md_253 rfl fun r4 h5 =>
            qz_zreturn ⟨rfl, rfl⟩ rfl))
      (qz_aload_n rfl <|
        qz_getR (k1 := 40) kg_12 fl_Md_139 rfl rfl <|
        qz_iload_n rfl <|
        qz_nnd 1 rfl <|
        qz_iald (k0 := 40) rfl rfl rfl <|
        qz_if_le rfl ca_Md_resolve_66
          (qz_fgt [1, 1, 1, 1] <| jb_Md_resolve_66 G k2 k14 jk2 jk14 l0 l1 l2 l3 h)
          (qz_aload_n rfl <|
            qz_aload_n rfl <|
            qz_getR (k1 := 40) kg_12 fl_Md_136 rfl rfl <|
            qz_iload_n rfl <|
            qz_nnd 1 rfl <|
            qz_iald (k0 := 40) rfl rfl rfl <|
            qz_aload_n rfl <|
            qz_getR (k1 := 40) kg_12 fl_Md_139 rfl rfl <|
            qz_iload_n rfl <|
            qz_nnd 1 rfl <|
            qz_iald (k0 := 40) rfl rfl rfl <|
            qz_aload_n rfl <|
            qz_getR (k1 := 40) kg_12 fl_Md_148 rfl rfl <|
            qz_iload_n rfl <|
            qz_nnd 1 rfl <|
            qz_iald (k0 := 40) rfl rfl rfl <|
            qz_aload_n rfl <|
            qz_getR (k1 := 40) kg_12 fl_Md_151 rfl rfl <|
            qz_iload_n rfl <|
            qz_nnd 1 rfl <|
            qz_iald (k0 := 40) rfl rfl rfl <|
            qz_invvI [qz_i (h (h l0 24) l3), qz_i (h (h l0 25) l3), qz_i (h (h l0 29) l1), qz_i (h (h l0 30) l1)] rfl (cn_Md_sameName l0 (h (h l0 24) l3) (h (h l0 25) l3) (h (h l0 29) l1) (h (h l0 30) l1) h) mw_Md_sameName vw_Md_sameName ⟨_, rfl, rfl, by decide⟩ rfl rfl ln_Md_300 rfl fun r6 h7 =>
            qz_if_eq rfl ca_Md_resolve_66
              (qz_fgt [1, 1, 1, 1] <| jb_Md_resolve_66 G k2 k14 jk2 jk14 l0 l1 l2 l3 h7)
              (qz_iload_n rfl <|
                qz_goto rfl ca_Md_resolve_67 <|
                qz_fgt [1, 1, 0, 1] <| jb_Md_resolve_67 G k2 k14 jk2 jk14 l0 l1 l3 l3 h7)))
theorem jb_Md_resolve_14 (G : qz_G) (k2 : Int → Int → qz_H → Option qz_R) (jk2 : ∀ (l0 : Int) (l1 : Int) (h : qz_H), qz_J yd_Md_resolve G bk_Md_resolve_2 2 [qz_r true 12 l0, qz_i l1, qz_u, qz_u] [] h 0 0 (k2 l0 l1 h)) : ∀ (n : Nat) (l0 l1 l2 l3 : Int) (h : qz_H), qz_J yd_Md_resolve G bk_Md_resolve_14 14 [qz_r true 12 l0, qz_i l1, qz_i l2, qz_i l3] [] h 0 0 (fn_Md_resolve_14 k2 n l0 l1 l2 l3 h)
  | 0, _, _, _, _, _ => qz_none
  | n + 1, l0, l1, l2, l3, h => jb_Md_resolve_14_b G k2 jk2 (fn_Md_resolve_14 k2 n) (jb_Md_resolve_14 G k2 jk2 n) l0 l1 l2 l3 h
set_option maxRecDepth 20000 in
theorem jb_Md_resolve_2_b (G : qz_G) (k2 : Int → Int → qz_H → Option qz_R) (jk2 : ∀ (l0 : Int) (l1 : Int) (h : qz_H), qz_J yd_Md_resolve G bk_Md_resolve_2 2 [qz_r true 12 l0, qz_i l1, qz_u, qz_u] [] h 0 0 (k2 l0 l1 h)) (l0 : Int) (l1 : Int) (h : qz_H) : qz_J yd_Md_resolve G bk_Md_resolve_2 2 [qz_r true 12 l0, qz_i l1, qz_u, qz_u] [] h 0 0 (fn_Md_resolve_2_b k2 l0 l1 h) := by
  unfold fn_Md_resolve_2_b bk_Md_resolve_2; exact
    qz_iload_n rfl <|
    qz_aload_n rfl <|
    qz_getI kg_12 fl_Md_287 rfl rfl <|
    qz_icmp_ge rfl ca_Md_resolve_113
      (qz_iconst rfl <|
        qz_zreturn ⟨rfl, rfl⟩ rfl)
      (qz_iconst rfl <|
        qz_istore_n (by decide) fun x1 =>
        qz_iconst rfl <|
        qz_istore_n (by decide) fun x2 =>
        qz_fall rfl ca_Md_resolve_14 <|
        qz_fgt [1, 1, 1, 1] <| jb_Md_resolve_14 G k2 jk2 qz_NF l0 l1 x1 x2 h)
theorem jb_Md_resolve_2 (G : qz_G) : ∀ (n : Nat) (l0 l1 : Int) (h : qz_H), qz_J yd_Md_resolve G bk_Md_resolve_2 2 [qz_r true 12 l0, qz_i l1, qz_u, qz_u] [] h 0 0 (fn_Md_resolve_2 n l0 l1 h)
  | 0, _, _, _ => qz_none
  | n + 1, l0, l1, h => jb_Md_resolve_2_b G (fn_Md_resolve_2 n) (jb_Md_resolve_2 G n) l0 l1 h
set_option maxRecDepth 20000 in
theorem cn_Md_resolve (l0 : Int) (h : qz_H) : qz_C yd_Md_resolve [qz_r true 12 l0] h (fn_Md_resolve l0 h) := by
  refine qz_con (is := bk_Md_resolve_0) (ls := [qz_r true 12 l0, qz_u, qz_u, qz_u]) mw_Md_resolve.2.2.2 ca_Md_resolve_0 rfl rfl rfl fun G => ?_
  unfold fn_Md_resolve bk_Md_resolve_0; exact
    qz_iconst rfl <|
    qz_istore_n (by decide) fun x1 =>
    qz_fall rfl ca_Md_resolve_2 <|
    qz_fgt [1, 1, 0, 0] <| jb_Md_resolve_2 G qz_NF l0 x1 h
set_option maxRecDepth 20000 in
def fn_Md_bad (l0 : Int) (h : qz_H) : Option qz_R :=
  qz_ck ((1 : Int) = 0 ∨ (1 : Int) = 1) <|
  qz_ck ((0 : Int) < l0) <|
  qz_bn (qz_up h l0 57 1) fun h1 =>
  some (0, h1)
def bk_Md_bad_0 : List (Instr × Nat) := [(.aload_n 0, 1), (.iconst 1, 1), (.putfield 395, 3), (.return_, 1)]
theorem ca_Md_bad_0 : qz_ca yd_Md_bad.2.1 0 bk_Md_bad_0 := qz_cab_ok _ _ (by decide +kernel)
set_option maxRecDepth 20000 in
theorem cn_Md_bad (l0 : Int) (h : qz_H) : qz_C yd_Md_bad [qz_r true 12 l0] h (fn_Md_bad l0 h) := by
  refine qz_con (is := bk_Md_bad_0) (ls := [qz_r true 12 l0]) mw_Md_bad.2.2.2 ca_Md_bad_0 rfl rfl rfl fun G => ?_
  unfold fn_Md_bad bk_Md_bad_0; exact
    qz_aload_n rfl <|
    qz_iconst rfl <|
    qz_putZ kw_12 fp_Md_395_Md_bad rfl rfl fun h1 =>
    qz_return ⟨rfl, rfl⟩ rfl
def fn_Md_take_93 (l3 : Int) (s0 : Int) (s1 : Int) (h : qz_H) : Option qz_R :=
  qz_ck ((s1 : Int) = 0 ∨ (s1 : Int) = 1) <|
  qz_ck ((0 : Int) < s0) <|
  qz_bn (qz_up h s0 57 s1) fun h1 =>
  some (l3, h1)
def fn_Md_take_88 (l3 : Int) (s0 : Int) (h : qz_H) : Option qz_R :=
  fn_Md_take_93 l3 s0 1 h
def fn_Md_take_92 (l3 : Int) (s0 : Int) (h : qz_H) : Option qz_R :=
  fn_Md_take_93 l3 s0 0 h
def fn_Md_take_42 (s0 : Int) (s1 : Int) (h : qz_H) : Option qz_R :=
  qz_ck ((s1 : Int) = 0 ∨ (s1 : Int) = 1) <|
  qz_ck ((0 : Int) < s0) <|
  qz_bn (qz_up h s0 57 s1) fun h1 =>
  some (0, h1)
def fn_Md_take_37 (s0 : Int) (h : qz_H) : Option qz_R :=
  fn_Md_take_42 s0 1 h
set_option maxRecDepth 20000 in
def fn_Md_take (l0 : Int) (l1 : Int) (h : qz_H) : Option qz_R :=
  qz_bn (qz_w ((h l0 51) - 1) : Int) fun x1 =>
  qz_ck ((h l0 54 : Int) ≠ 0) <|
  qz_ck ((0 : Int) ≤ x1 ∧ x1 < h (h l0 54) (-1)) <|
  if ¬ h l0 49 = h (h l0 54) x1 then
    qz_ck ((0 : Int) < l0) <|
    qz_bn (qz_up h l0 49 (qz_w ((h l0 49) - 1))) fun h2 =>
    qz_ck ((h2 l0 50 : Int) ≠ 0) <|
    qz_ck ((0 : Int) ≤ h2 l0 49 ∧ h2 l0 49 < h2 (h2 l0 50) (-1)) <|
    qz_bn (h2 (h2 l0 50) (h2 l0 49) : Int) fun x3 =>
    if ¬ h2 l0 57 = 0 then
      fn_Md_take_88 x3 l0 h2
    else
      if l1 = 0 then
        fn_Md_take_92 x3 l0 h2
      else
        if x3 = 0 then
          fn_Md_take_92 x3 l0 h2
        else
          if x3 = l1 then
            fn_Md_take_92 x3 l0 h2
          else
            fn_Md_take_88 x3 l0 h2
  else
    if ¬ h l0 57 = 0 then
      fn_Md_take_37 l0 h
    else
      qz_ck ((h l0 56 : Int) ≠ 0) <|
      qz_ck ((0 : Int) ≤ x1 ∧ x1 < h (h l0 56) (-1)) <|
      if ¬ h (h l0 56) x1 = 0 then
        fn_Md_take_42 l0 0 h
      else
        fn_Md_take_37 l0 h
def bk_Md_take_0 : List (Instr × Nat) := [(.aload_n 0, 1), (.getfield 399, 3), (.iconst 1, 1), (.isub, 1), (.istore_n 2, 1), (.aload_n 0, 1), (.getfield 402, 3), (.aload_n 0, 1), (.getfield 188, 3), (.iload_n 2, 1), (.iaload, 1), (.if_icmp .ne 30, 3), (.aload_n 0, 1), (.aload_n 0, 1), (.getfield 395, 3), (.ifCond .ne 12, 3), (.aload_n 0, 1), (.getfield 194, 3), (.iload_n 2, 1), (.baload, 1), (.ifCond .ne 7, 3)]
def bk_Md_take_47 : List (Instr × Nat) := [(.aload_n 0, 1), (.dup, 1), (.getfield 402, 3), (.iconst 1, 1), (.isub, 1), (.putfield 402, 3), (.aload_n 0, 1), (.getfield 179, 3), (.aload_n 0, 1), (.getfield 402, 3), (.iaload, 1), (.istore_n 3, 1), (.aload_n 0, 1), (.aload_n 0, 1), (.getfield 395, 3), (.ifCond .ne 16, 3), (.iload_n 1, 1), (.ifCond .eq 16, 3), (.iload_n 3, 1), (.ifCond .eq 12, 3), (.iload_n 3, 1), (.iload_n 1, 1), (.if_icmp .eq 7, 3)]
def bk_Md_take_88 : List (Instr × Nat) := [(.iconst 1, 1), (.goto 4, 3)]
def bk_Md_take_92 : List (Instr × Nat) := [(.iconst 0, 1)]
def bk_Md_take_37 : List (Instr × Nat) := [(.iconst 1, 1), (.goto 4, 3)]
def bk_Md_take_41 : List (Instr × Nat) := [(.iconst 0, 1)]
def bk_Md_take_42 : List (Instr × Nat) := [(.putfield 395, 3), (.iconst 0, 1), (.ireturn, 1)]
def bk_Md_take_93 : List (Instr × Nat) := [(.putfield 395, 3), (.iload_n 3, 1), (.ireturn, 1)]
theorem ca_Md_take_0 : qz_ca yd_Md_take.2.1 0 bk_Md_take_0 := qz_cab_ok _ _ (by decide +kernel)
theorem ca_Md_take_47 : qz_ca yd_Md_take.2.1 47 bk_Md_take_47 := qz_cab_ok _ _ (by decide +kernel)
theorem ca_Md_take_88 : qz_ca yd_Md_take.2.1 88 bk_Md_take_88 := qz_cab_ok _ _ (by decide +kernel)
theorem ca_Md_take_92 : qz_ca yd_Md_take.2.1 92 bk_Md_take_92 := qz_cab_ok _ _ (by decide +kernel)
theorem ca_Md_take_37 : qz_ca yd_Md_take.2.1 37 bk_Md_take_37 := qz_cab_ok _ _ (by decide +kernel)
theorem ca_Md_take_41 : qz_ca yd_Md_take.2.1 41 bk_Md_take_41 := qz_cab_ok _ _ (by decide +kernel)
theorem ca_Md_take_42 : qz_ca yd_Md_take.2.1 42 bk_Md_take_42 := qz_cab_ok _ _ (by decide +kernel)
theorem ca_Md_take_93 : qz_ca yd_Md_take.2.1 93 bk_Md_take_93 := qz_cab_ok _ _ (by decide +kernel)
set_option maxRecDepth 20000 in
theorem jb_Md_take_93 (G : qz_G) (l3 : Int) (s0 : Int) (s1 : Int) (h : qz_H) : qz_J yd_Md_take G bk_Md_take_93 93 [qz_u, qz_u, qz_u, qz_i l3] [qz_i s1, qz_r true 12 s0] h 0 0 (fn_Md_take_93 l3 s0 s1 h) := by
  unfold fn_Md_take_93 bk_Md_take_93; exact
    qz_putZ kw_12 fp_Md_395_Md_take rfl rfl fun h1 =>
    qz_iload_n rfl <|
    qz_ireturn ⟨rfl, rfl⟩ rfl
set_option maxRecDepth 20000 in
theorem jb_Md_take_88 (G : qz_G) (l3 : Int) (s0 : Int) (h : qz_H) : qz_J yd_Md_take G bk_Md_take_88 88 [qz_u, qz_u, qz_u, qz_i l3] [qz_r true 12 s0] h 0 0 (fn_Md_take_88 l3 s0 h) := by
  unfold fn_Md_take_88 bk_Md_take_88; exact
    qz_iconst rfl <|
    qz_goto rfl ca_Md_take_93 <|
    qz_fgt [0, 0, 0, 1] <| jb_Md_take_93 G l3 s0 1 h
set_option maxRecDepth 20000 in
theorem jb_Md_take_92 (G : qz_G) (l3 : Int) (s0 : Int) (h : qz_H) : qz_J yd_Md_take G bk_Md_take_92 92 [qz_u, qz_u, qz_u, qz_i l3] [qz_r true 12 s0] h 0 0 (fn_Md_take_92 l3 s0 h) := by
  unfold fn_Md_take_92 bk_Md_take_92; exact
    qz_iconst rfl <|
    qz_fall rfl ca_Md_take_93 <|
    qz_fgt [0, 0, 0, 1] <| jb_Md_take_93 G l3 s0 0 h
set_option maxRecDepth 20000 in
theorem jb_Md_take_42 (G : qz_G) (s0 : Int) (s1 : Int) (h : qz_H) : qz_J yd_Md_take G bk_Md_take_42 42 [qz_u, qz_u, qz_u, qz_u] [qz_i s1, qz_r true 12 s0] h 0 0 (fn_Md_take_42 s0 s1 h) := by
  unfold fn_Md_take_42 bk_Md_take_42; exact
    qz_putZ kw_12 fp_Md_395_Md_take rfl rfl fun h1 =>
    qz_iconst rfl <|
    qz_ireturn ⟨rfl, rfl⟩ rfl
set_option maxRecDepth 20000 in
theorem jb_Md_take_37 (G : qz_G) (s0 : Int) (h : qz_H) : qz_J yd_Md_take G bk_Md_take_37 37 [qz_u, qz_u, qz_u, qz_u] [qz_r true 12 s0] h 0 0 (fn_Md_take_37 s0 h) := by
  unfold fn_Md_take_37 bk_Md_take_37; exact
    qz_iconst rfl <|
    qz_goto rfl ca_Md_take_42 <|
    qz_fgt [0, 0, 0, 0] <| jb_Md_take_42 G s0 1 h
set_option maxRecDepth 20000 in
theorem cn_Md_take (l0 : Int) (l1 : Int) (h : qz_H) : qz_C yd_Md_take [qz_r true 12 l0, qz_i l1] h (fn_Md_take l0 l1 h) := by
  refine qz_con (is := bk_Md_take_0) (ls := [qz_r true 12 l0, qz_i l1, qz_u, qz_u]) mw_Md_take.2.2.2 ca_Md_take_0 rfl rfl rfl fun G => ?_
  unfold fn_Md_take bk_Md_take_0; exact
    qz_aload_n rfl <|
    qz_getI kg_12 fl_Md_399 rfl rfl <|
    qz_iconst rfl <|
    qz_isub <|
    qz_istore_n (by decide) fun x1 =>
    qz_aload_n rfl <|
    qz_getI kg_12 fl_Md_402 rfl rfl <|
    qz_aload_n rfl <|
    qz_getR (k1 := 40) kg_12 fl_Md_188 rfl rfl <|
    qz_iload_n rfl <|
    qz_nnd 1 rfl <|
    qz_iald (k0 := 40) rfl rfl rfl <|
    qz_icmp_ne rfl ca_Md_take_47
      (qz_aload_n rfl <|
        qz_dup rfl <|
        qz_getI kg_12 fl_Md_402 rfl rfl <|
        qz_iconst rfl <|
        qz_isub <|
        qz_putI kw_12 fp_Md_402_Md_take rfl rfl fun h2 =>
        qz_aload_n rfl <|
        qz_getR (k1 := 40) kg_12 fl_Md_179 rfl rfl <|
        qz_aload_n rfl <|
        qz_getI kg_12 fl_Md_402 rfl rfl <|
        qz_nnd 1 rfl <|
        qz_iald (k0 := 40) rfl rfl rfl <|
        qz_istore_n (by decide) fun x3 =>
        qz_aload_n rfl <|
        qz_aload_n rfl <|
        qz_getI kg_12 fl_Md_395 rfl rfl <|
        qz_if_ne rfl ca_Md_take_88
          (qz_fgt [0, 0, 0, 1] <| jb_Md_take_88 G x3 l0 h2)
          (qz_iload_n rfl <|
            qz_if_eq rfl ca_Md_take_92
              (qz_fgt [0, 0, 0, 1] <| jb_Md_take_92 G x3 l0 h2)
              (qz_iload_n rfl <|
                qz_if_eq rfl ca_Md_take_92
                  (qz_fgt [0, 0, 0, 1] <| jb_Md_take_92 G x3 l0 h2)
                  (qz_iload_n rfl <|
                    qz_iload_n rfl <|
                    qz_icmp_eq rfl ca_Md_take_92
                      (qz_fgt [0, 0, 0, 1] <| jb_Md_take_92 G x3 l0 h2)
                      (qz_fall rfl ca_Md_take_88 <|
                        qz_fgt [0, 0, 0, 1] <| jb_Md_take_88 G x3 l0 h2)))))
      (qz_aload_n rfl <|
        qz_aload_n rfl <|
        qz_getI kg_12 fl_Md_395 rfl rfl <|
        qz_if_ne rfl ca_Md_take_37
          (qz_fgt [0, 0, 0, 0] <| jb_Md_take_37 G l0 h)
          (qz_aload_n rfl <|
            qz_getR (k1 := 44) kg_12 fl_Md_194 rfl rfl <|
            qz_iload_n rfl <|
            qz_nnd 1 rfl <|
            qz_zald (k0 := 44) rfl rfl rfl <|
            qz_if_ne rfl ca_Md_take_41
              (qz_iconst rfl <|
                qz_fall rfl ca_Md_take_42 <|
                qz_fgt [0, 0, 0, 0] <| jb_Md_take_42 G l0 0 h)
              (qz_fall rfl ca_Md_take_37 <|
                qz_fgt [0, 0, 0, 0] <| jb_Md_take_37 G l0 h)))
set_option maxRecDepth 20000 in
def fn_Md_put (l0 : Int) (l1 : Int) (h : qz_H) : Option qz_R :=
  qz_ck ((h l0 50 : Int) ≠ 0) <|
  qz_ck (0 < h l0 50 ∧ (0 : Int) ≤ h l0 49 ∧ h l0 49 < h (h l0 50) (-1)) <|
  qz_bn (qz_up h (h l0 50) (h l0 49) l1) fun h1 =>
  qz_ck ((0 : Int) < l0) <|
  qz_bn (qz_up h1 l0 49 (qz_w ((h1 l0 49) + 1))) fun h2 =>
  some (0, h2)
def bk_Md_put_0 : List (Instr × Nat) := [(.aload_n 0, 1), (.getfield 179, 3), (.aload_n 0, 1), (.getfield 402, 3), (.iload_n 1, 1), (.iastore, 1), (.aload_n 0, 1), (.dup, 1), (.getfield 402, 3), (.iconst 1, 1), (.iadd, 1), (.putfield 402, 3), (.return_, 1)]
theorem ca_Md_put_0 : qz_ca yd_Md_put.2.1 0 bk_Md_put_0 := qz_cab_ok _ _ (by decide +kernel)
set_option maxRecDepth 20000 in
theorem cn_Md_put (l0 : Int) (l1 : Int) (h : qz_H) : qz_C yd_Md_put [qz_r true 12 l0, qz_i l1] h (fn_Md_put l0 l1 h) := by
  refine qz_con (is := bk_Md_put_0) (ls := [qz_r true 12 l0, qz_i l1]) mw_Md_put.2.2.2 ca_Md_put_0 rfl rfl rfl fun G => ?_
  unfold fn_Md_put bk_Md_put_0; exact
    qz_aload_n rfl <|
    qz_getR (k1 := 40) kg_12 fl_Md_179 rfl rfl <|
    qz_aload_n rfl <|
    qz_getI kg_12 fl_Md_402 rfl rfl <|
    qz_iload_n rfl <|
    qz_nnd 2 rfl <|
    qz_iast rfl rfl rfl fun h1 =>
    qz_aload_n rfl <|
    qz_dup rfl <|
    qz_getI kg_12 fl_Md_402 rfl rfl <|
    qz_iconst rfl <|
    qz_iadd <|
    qz_putI kw_12 fp_Md_402_Md_put rfl rfl fun h2 =>
    qz_return ⟨rfl, rfl⟩ rfl
def fn_Md_takeAndPut_15 (h : qz_H) : Option qz_R :=
  some (0, h)
set_option maxRecDepth 20000 in
def fn_Md_takeAndPut (l0 : Int) (l1 : Int) (h : qz_H) : Option qz_R :=
  if l1 ≤ 0 then
    fn_Md_takeAndPut_15 h
  else
    qz_bc (fn_Md_take l0 l1 h) fun r1 h2 =>
    qz_bn (r1 : Int) fun x3 =>
    qz_bc (fn_Md_put l0 l1 h2) fun _ h5 =>
    fn_Md_takeAndPut_15 h5
def bk_Md_takeAndPut_0 : List (Instr × Nat) := [(.iload_n 1, 1), (.ifCond .le 14, 3), (.aload_n 0, 1), (.iload_n 1, 1), (.invokevirtual 405, 3), (.istore_n 2, 1), (.aload_n 0, 1), (.iload_n 1, 1), (.invokevirtual 408, 3)]
def bk_Md_takeAndPut_15 : List (Instr × Nat) := [(.return_, 1)]
theorem ca_Md_takeAndPut_0 : qz_ca yd_Md_takeAndPut.2.1 0 bk_Md_takeAndPut_0 := qz_cab_ok _ _ (by decide +kernel)
theorem ca_Md_takeAndPut_15 : qz_ca yd_Md_takeAndPut.2.1 15 bk_Md_takeAndPut_15 := qz_cab_ok _ _ (by decide +kernel)
set_option maxRecDepth 20000 in
theorem jb_Md_takeAndPut_15 (G : qz_G) (h : qz_H) : qz_J yd_Md_takeAndPut G bk_Md_takeAndPut_15 15 [qz_u, qz_u, qz_u] [] h 0 0 (fn_Md_takeAndPut_15 h) := by
  unfold fn_Md_takeAndPut_15 bk_Md_takeAndPut_15; exact
    qz_return ⟨rfl, rfl⟩ rfl
set_option maxRecDepth 20000 in
theorem cn_Md_takeAndPut (l0 : Int) (l1 : Int) (h : qz_H) : qz_C yd_Md_takeAndPut [qz_r true 12 l0, qz_i l1] h (fn_Md_takeAndPut l0 l1 h) := by
  refine qz_con (is := bk_Md_takeAndPut_0) (ls := [qz_r true 12 l0, qz_i l1, qz_u]) mw_Md_takeAndPut.2.2.2 ca_Md_takeAndPut_0 rfl rfl rfl fun G => ?_
  unfold fn_Md_takeAndPut bk_Md_takeAndPut_0; exact
    qz_iload_n rfl <|
    qz_if_le rfl ca_Md_takeAndPut_15
      (qz_fgt [0, 0, 0] <| jb_Md_takeAndPut_15 G h)
      (qz_aload_n rfl <|
        qz_iload_n rfl <|
        qz_invvI [qz_i l1] rfl (cn_Md_take l0 l1 h) mw_Md_take vw_Md_take ⟨_, rfl, rfl, by decide⟩ rfl rfl ln_Md_405 rfl fun r1 h2 =>
        qz_istore_n (by decide) fun x3 =>
        qz_aload_n rfl <|
        qz_iload_n rfl <|
        qz_invvV [qz_i l1] rfl (cn_Md_put l0 l1 h2) mw_Md_put vw_Md_put ⟨_, rfl, rfl, by decide⟩ rfl rfl ln_Md_408 rfl fun _ h5 =>
        qz_fall rfl ca_Md_takeAndPut_15 <|
        qz_fgt [0, 0, 0] <| jb_Md_takeAndPut_15 G h5)
def fn_Md_takeResult_13 (s0 : Int) (h : qz_H) : Option qz_R :=
  qz_bn (s0 : Int) fun x1 =>
  some (0, h)
set_option maxRecDepth 20000 in
def fn_Md_takeResult (l0 : Int) (l1 : Int) (h : qz_H) : Option qz_R :=
  if l1 ≤ 0 then
    fn_Md_takeResult_13 0 h
  else
    qz_bc (fn_Md_take l0 l1 h) fun r1 h2 =>
    fn_Md_takeResult_13 r1 h2
def bk_Md_takeResult_0 : List (Instr × Nat) := [(.iload_n 1, 1), (.ifCond .le 11, 3), (.aload_n 0, 1), (.iload_n 1, 1), (.invokevirtual 405, 3), (.goto 4, 3)]
def bk_Md_takeResult_12 : List (Instr × Nat) := [(.iconst 0, 1)]
def bk_Md_takeResult_13 : List (Instr × Nat) := [(.istore_n 2, 1), (.return_, 1)]
theorem ca_Md_takeResult_0 : qz_ca yd_Md_takeResult.2.1 0 bk_Md_takeResult_0 := qz_cab_ok _ _ (by decide +kernel)
theorem ca_Md_takeResult_12 : qz_ca yd_Md_takeResult.2.1 12 bk_Md_takeResult_12 := qz_cab_ok _ _ (by decide +kernel)
theorem ca_Md_takeResult_13 : qz_ca yd_Md_takeResult.2.1 13 bk_Md_takeResult_13 := qz_cab_ok _ _ (by decide +kernel)
set_option maxRecDepth 20000 in
theorem jb_Md_takeResult_13 (G : qz_G) (s0 : Int) (h : qz_H) : qz_J yd_Md_takeResult G bk_Md_takeResult_13 13 [qz_u, qz_u, qz_u] [qz_i s0] h 0 0 (fn_Md_takeResult_13 s0 h) := by
  unfold fn_Md_takeResult_13 bk_Md_takeResult_13; exact
    qz_istore_n (by decide) fun x1 =>
    qz_return ⟨rfl, rfl⟩ rfl
set_option maxRecDepth 20000 in
theorem cn_Md_takeResult (l0 : Int) (l1 : Int) (h : qz_H) : qz_C yd_Md_takeResult [qz_r true 12 l0, qz_i l1] h (fn_Md_takeResult l0 l1 h) := by
  refine qz_con (is := bk_Md_takeResult_0) (ls := [qz_r true 12 l0, qz_i l1, qz_u]) mw_Md_takeResult.2.2.2 ca_Md_takeResult_0 rfl rfl rfl fun G => ?_
  unfold fn_Md_takeResult bk_Md_takeResult_0; exact
    qz_iload_n rfl <|
    qz_if_le rfl ca_Md_takeResult_12
      (qz_iconst rfl <|
        qz_fall rfl ca_Md_takeResult_13 <|
        qz_fgt [0, 0, 0] <| jb_Md_takeResult_13 G 0 h)
      (qz_aload_n rfl <|
        qz_iload_n rfl <|
        qz_invvI [qz_i l1] rfl (cn_Md_take l0 l1 h) mw_Md_take vw_Md_take ⟨_, rfl, rfl, by decide⟩ rfl rfl ln_Md_405 rfl fun r1 h2 =>
        qz_goto rfl ca_Md_takeResult_13 <|
        qz_fgt [0, 0, 0] <| jb_Md_takeResult_13 G r1 h2)
set_option maxRecDepth 20000 in
def fn_Md_die (l0 : Int) (h : qz_H) : Option qz_R :=
  qz_ck ((h l0 56 : Int) ≠ 0) <|
  qz_ck (0 < h l0 56 ∧ (0 : Int) ≤ qz_w ((h l0 51) - 1) ∧ qz_w ((h l0 51) - 1) < h (h l0 56) (-1)) <|
  qz_bn (qz_up h (h l0 56) (qz_w ((h l0 51) - 1)) (qz_nz 1)) fun h1 =>
  qz_ck ((h1 l0 54 : Int) ≠ 0) <|
  qz_ck ((0 : Int) ≤ qz_w ((h1 l0 51) - 1) ∧ qz_w ((h1 l0 51) - 1) < h1 (h1 l0 54) (-1)) <|
  qz_ck ((0 : Int) < l0) <|
  qz_bn (qz_up h1 l0 49 (h1 (h1 l0 54) (qz_w ((h1 l0 51) - 1)))) fun h2 =>
  some (0, h2)
def bk_Md_die_0 : List (Instr × Nat) := [(.aload_n 0, 1), (.getfield 194, 3), (.aload_n 0, 1), (.getfield 399, 3), (.iconst 1, 1), (.isub, 1), (.iconst 1, 1), (.bastore, 1), (.aload_n 0, 1), (.aload_n 0, 1), (.getfield 188, 3), (.aload_n 0, 1), (.getfield 399, 3), (.iconst 1, 1), (.isub, 1), (.iaload, 1), (.putfield 402, 3), (.return_, 1)]
theorem ca_Md_die_0 : qz_ca yd_Md_die.2.1 0 bk_Md_die_0 := qz_cab_ok _ _ (by decide +kernel)
set_option maxRecDepth 20000 in
theorem cn_Md_die (l0 : Int) (h : qz_H) : qz_C yd_Md_die [qz_r true 12 l0] h (fn_Md_die l0 h) := by
  refine qz_con (is := bk_Md_die_0) (ls := [qz_r true 12 l0]) mw_Md_die.2.2.2 ca_Md_die_0 rfl rfl rfl fun G => ?_
  unfold fn_Md_die bk_Md_die_0; exact
    qz_aload_n rfl <|
    qz_getR (k1 := 44) kg_12 fl_Md_194 rfl rfl <|
    qz_aload_n rfl <|
    qz_getI kg_12 fl_Md_399 rfl rfl <|
    qz_iconst rfl <|
    qz_isub <|
    qz_iconst rfl <|
    qz_nnd 2 rfl <|
    qz_zast rfl rfl rfl fun h1 =>
    qz_aload_n rfl <|
    qz_aload_n rfl <|
    qz_getR (k1 := 40) kg_12 fl_Md_188 rfl rfl <|
    qz_aload_n rfl <|
    qz_getI kg_12 fl_Md_399 rfl rfl <|
    qz_iconst rfl <|
    qz_isub <|
    qz_nnd 1 rfl <|
    qz_iald (k0 := 40) rfl rfl rfl <|
    qz_putI kw_12 fp_Md_402_Md_die rfl rfl fun h2 =>
    qz_return ⟨rfl, rfl⟩ rfl
set_option maxRecDepth 20000 in
def fn_Md_frame (l0 : Int) (l1 : Int) (l2 : Int) (l3 : Int) (h : qz_H) : Option qz_R :=
  qz_ck ((h l0 52 : Int) ≠ 0) <|
  qz_ck (0 < h l0 52 ∧ (0 : Int) ≤ h l0 51 ∧ h l0 51 < h (h l0 52) (-1)) <|
  qz_bn (qz_up h (h l0 52) (h l0 51) l2) fun h1 =>
  qz_ck ((h1 l0 53 : Int) ≠ 0) <|
  qz_ck (0 < h1 l0 53 ∧ (0 : Int) ≤ h1 l0 51 ∧ h1 l0 51 < h1 (h1 l0 53) (-1)) <|
  qz_bn (qz_up h1 (h1 l0 53) (h1 l0 51) l3) fun h2 =>
  qz_ck ((h2 l0 54 : Int) ≠ 0) <|
  qz_ck (0 < h2 l0 54 ∧ (0 : Int) ≤ h2 l0 51 ∧ h2 l0 51 < h2 (h2 l0 54) (-1)) <|
  qz_bn (qz_up h2 (h2 l0 54) (h2 l0 51) (h2 l0 49)) fun h3 =>
  qz_ck ((h3 l0 55 : Int) ≠ 0) <|
  qz_ck (0 < h3 l0 55 ∧ (0 : Int) ≤ h3 l0 51 ∧ h3 l0 51 < h3 (h3 l0 55) (-1)) <|
  qz_bn (qz_up h3 (h3 l0 55) (h3 l0 51) l1) fun h4 =>
  qz_ck ((h4 l0 56 : Int) ≠ 0) <|
  qz_ck (0 < h4 l0 56 ∧ (0 : Int) ≤ h4 l0 51 ∧ h4 l0 51 < h4 (h4 l0 56) (-1)) <|
  qz_bn (qz_up h4 (h4 l0 56) (h4 l0 51) (qz_nz 0)) fun h5 =>
  qz_ck ((0 : Int) < l0) <|
  qz_bn (qz_up h5 l0 51 (qz_w ((h5 l0 51) + 1))) fun h6 =>
  some (0, h6)
def bk_Md_frame_0 : List (Instr × Nat) := [(.aload_n 0, 1), (.getfield 182, 3), (.aload_n 0, 1), (.getfield 399, 3), (.iload_n 2, 1), (.iastore, 1), (.aload_n 0, 1), (.getfield 185, 3), (.aload_n 0, 1), (.getfield 399, 3), (.iload_n 3, 1), (.iastore, 1), (.aload_n 0, 1), (.getfield 188, 3), (.aload_n 0, 1), (.getfield 399, 3), (.aload_n 0, 1), (.getfield 402, 3), (.iastore, 1), (.aload_n 0, 1), (.getfield 191, 3), (.aload_n 0, 1), (.getfield 399, 3), (.iload_n 1, 1), (.iastore, 1), (.aload_n 0, 1), (.getfield 194, 3), (.aload_n 0, 1), (.getfield 399, 3), (.iconst 0, 1), (.bastore, 1), (.aload_n 0, 1), (.dup, 1), (.getfield 399, 3), (.iconst 1, 1), (.iadd, 1), (.putfield 399, 3), (.return_, 1)]
theorem ca_Md_frame_0 : qz_ca yd_Md_frame.2.1 0 bk_Md_frame_0 := qz_cab_ok _ _ (by decide +kernel)
set_option maxRecDepth 20000 in
theorem cn_Md_frame (l0 : Int) (l1 : Int) (l2 : Int) (l3 : Int) (h : qz_H) : qz_C yd_Md_frame [qz_r true 12 l0, qz_i l1, qz_i l2, qz_i l3] h (fn_Md_frame l0 l1 l2 l3 h) := by
  refine qz_con (is := bk_Md_frame_0) (ls := [qz_r true 12 l0, qz_i l1, qz_i l2, qz_i l3]) mw_Md_frame.2.2.2 ca_Md_frame_0 rfl rfl rfl fun G => ?_
  unfold fn_Md_frame bk_Md_frame_0; exact
    qz_aload_n rfl <|
    qz_getR (k1 := 40) kg_12 fl_Md_182 rfl rfl <|
    qz_aload_n rfl <|
    qz_getI kg_12 fl_Md_399 rfl rfl <|
    qz_iload_n rfl <|
    qz_nnd 2 rfl <|
    qz_iast rfl rfl rfl fun h1 =>
    qz_aload_n rfl <|
    qz_getR (k1 := 40) kg_12 fl_Md_185 rfl rfl <|
    qz_aload_n rfl <|
    qz_getI kg_12 fl_Md_399 rfl rfl <|
    qz_iload_n rfl <|
    qz_nnd 2 rfl <|
    qz_iast rfl rfl rfl fun h2 =>
    qz_aload_n rfl <|
    qz_getR (k1 := 40) kg_12 fl_Md_188 rfl rfl <|
    qz_aload_n rfl <|
    qz_getI kg_12 fl_Md_399 rfl rfl <|
    qz_aload_n rfl <|
    qz_getI kg_12 fl_Md_402 rfl rfl <|
    qz_nnd 2 rfl <|
    qz_iast rfl rfl rfl fun h3 =>
    qz_aload_n rfl <|
    qz_getR (k1 := 40) kg_12 fl_Md_191 rfl rfl <|
    qz_aload_n rfl <|
    qz_getI kg_12 fl_Md_399 rfl rfl <|
    qz_iload_n rfl <|
    qz_nnd 2 rfl <|
    qz_iast rfl rfl rfl fun h4 =>
    qz_aload_n rfl <|
    qz_getR (k1 := 44) kg_12 fl_Md_194 rfl rfl <|
    qz_aload_n rfl <|
    qz_getI kg_12 fl_Md_399 rfl rfl <|
    qz_iconst rfl <|
    qz_nnd 2 rfl <|
    qz_zast rfl rfl rfl fun h5 =>
    qz_aload_n rfl <|
    qz_dup rfl <|
    qz_getI kg_12 fl_Md_399 rfl rfl <|
    qz_iconst rfl <|
    qz_iadd <|
    qz_putI kw_12 fp_Md_399_Md_frame rfl rfl fun h6 =>
    qz_return ⟨rfl, rfl⟩ rfl
def fn_Md_endFrame_43 (l0 : Int) (l1 : Int) (s0 : Int) (s1 : Int) (h : qz_H) : Option qz_R :=
  qz_ck ((s1 : Int) = 0 ∨ (s1 : Int) = 1) <|
  qz_ck ((0 : Int) < s0) <|
  qz_bn (qz_up h s0 57 s1) fun h1 =>
  qz_ck ((h1 l0 54 : Int) ≠ 0) <|
  qz_ck ((0 : Int) ≤ l1 ∧ l1 < h1 (h1 l0 54) (-1)) <|
  qz_ck ((0 : Int) < l0) <|
  qz_bn (qz_up h1 l0 49 (h1 (h1 l0 54) l1)) fun h2 =>
  some (0, h2)
def fn_Md_endFrame_38 (l0 : Int) (l1 : Int) (s0 : Int) (h : qz_H) : Option qz_R :=
  fn_Md_endFrame_43 l0 l1 s0 1 h
set_option maxRecDepth 20000 in
def fn_Md_endFrame (l0 : Int) (h : qz_H) : Option qz_R :=
  qz_bn (qz_w ((h l0 51) - 1) : Int) fun x1 =>
  qz_ck ((h l0 53 : Int) ≠ 0) <|
  qz_ck ((0 : Int) ≤ x1 ∧ x1 < h (h l0 53) (-1)) <|
  qz_bc (fn_Md_takeResult l0 (h (h l0 53) x1) h) fun _ h3 =>
  if ¬ h3 l0 57 = 0 then
    fn_Md_endFrame_38 l0 x1 l0 h3
  else
    qz_ck ((h3 l0 54 : Int) ≠ 0) <|
    qz_ck ((0 : Int) ≤ x1 ∧ x1 < h3 (h3 l0 54) (-1)) <|
    if h3 l0 49 = h3 (h3 l0 54) x1 then
      fn_Md_endFrame_43 l0 x1 l0 0 h3
    else
      fn_Md_endFrame_38 l0 x1 l0 h3
def bk_Md_endFrame_0 : List (Instr × Nat) := [(.aload_n 0, 1), (.getfield 399, 3), (.iconst 1, 1), (.isub, 1), (.istore_n 1, 1), (.aload_n 0, 1), (.aload_n 0, 1), (.getfield 185, 3), (.iload_n 1, 1), (.iaload, 1), (.invokevirtual 412, 3), (.aload_n 0, 1), (.aload_n 0, 1), (.getfield 395, 3), (.ifCond .ne 16, 3), (.aload_n 0, 1), (.getfield 402, 3), (.aload_n 0, 1), (.getfield 188, 3), (.iload_n 1, 1), (.iaload, 1), (.if_icmp .eq 7, 3)]
def bk_Md_endFrame_38 : List (Instr × Nat) := [(.iconst 1, 1), (.goto 4, 3)]
def bk_Md_endFrame_42 : List (Instr × Nat) := [(.iconst 0, 1)]
def bk_Md_endFrame_43 : List (Instr × Nat) := [(.putfield 395, 3), (.aload_n 0, 1), (.aload_n 0, 1), (.getfield 188, 3), (.iload_n 1, 1), (.iaload, 1), (.putfield 402, 3), (.return_, 1)]
theorem ca_Md_endFrame_0 : qz_ca yd_Md_endFrame.2.1 0 bk_Md_endFrame_0 := qz_cab_ok _ _ (by decide +kernel)
theorem ca_Md_endFrame_38 : qz_ca yd_Md_endFrame.2.1 38 bk_Md_endFrame_38 := qz_cab_ok _ _ (by decide +kernel)
theorem ca_Md_endFrame_42 : qz_ca yd_Md_endFrame.2.1 42 bk_Md_endFrame_42 := qz_cab_ok _ _ (by decide +kernel)
theorem ca_Md_endFrame_43 : qz_ca yd_Md_endFrame.2.1 43 bk_Md_endFrame_43 := qz_cab_ok _ _ (by decide +kernel)
set_option maxRecDepth 20000 in
theorem jb_Md_endFrame_43 (G : qz_G) (l0 : Int) (l1 : Int) (s0 : Int) (s1 : Int) (h : qz_H) : qz_J yd_Md_endFrame G bk_Md_endFrame_43 43 [qz_r true 12 l0, qz_i l1] [qz_i s1, qz_r true 12 s0] h 0 0 (fn_Md_endFrame_43 l0 l1 s0 s1 h) := by
  unfold fn_Md_endFrame_43 bk_Md_endFrame_43; exact
    qz_putZ kw_12 fp_Md_395_Md_endFrame rfl rfl fun h1 =>
    qz_aload_n rfl <|
    qz_aload_n rfl <|
    qz_getR (k1 := 40) kg_12 fl_Md_188 rfl rfl <|
    qz_iload_n rfl <|
    qz_nnd 1 rfl <|
    qz_iald (k0 := 40) rfl rfl rfl <|
    qz_putI kw_12 fp_Md_402_Md_endFrame rfl rfl fun h2 =>
    qz_return ⟨rfl, rfl⟩ rfl
set_option maxRecDepth 20000 in
theorem jb_Md_endFrame_38 (G : qz_G) (l0 : Int) (l1 : Int) (s0 : Int) (h : qz_H) : qz_J yd_Md_endFrame G bk_Md_endFrame_38 38 [qz_r true 12 l0, qz_i l1] [qz_r true 12 s0] h 0 0 (fn_Md_endFrame_38 l0 l1 s0 h) := by
  unfold fn_Md_endFrame_38 bk_Md_endFrame_38; exact
    qz_iconst rfl <|
    qz_goto rfl ca_Md_endFrame_43 <|
    qz_fgt [1, 1] <| jb_Md_endFrame_43 G l0 l1 s0 1 h
set_option maxRecDepth 20000 in
theorem cn_Md_endFrame (l0 : Int) (h : qz_H) : qz_C yd_Md_endFrame [qz_r true 12 l0] h (fn_Md_endFrame l0 h) := by
  refine qz_con (is := bk_Md_endFrame_0) (ls := [qz_r true 12 l0, qz_u]) mw_Md_endFrame.2.2.2 ca_Md_endFrame_0 rfl rfl rfl fun G => ?_
  unfold fn_Md_endFrame bk_Md_endFrame_0; exact
    qz_aload_n rfl <|
    qz_getI kg_12 fl_Md_399 rfl rfl <|
    qz_iconst rfl <|
    qz_isub <|
    qz_istore_n (by decide) fun x1 =>
    qz_aload_n rfl <|
    qz_aload_n rfl <|
    qz_getR (k1 := 40) kg_12 fl_Md_185 rfl rfl <|
    qz_iload_n rfl <|
    qz_nnd 1 rfl <|
    qz_iald (k0 := 40) rfl rfl rfl <|
    qz_invvV [qz_i (h (h l0 53) x1)] rfl (cn_Md_takeResult l0 (h (h l0 53) x1) h) mw_Md_takeResult vw_Md_takeResult ⟨_, rfl, rfl, by decide⟩ rfl rfl ln_Md_412 rfl fun _ h3 =>
    qz_aload_n rfl <|
    qz_aload_n rfl <|
    qz_getI kg_12 fl_Md_395 rfl rfl <|
    qz_if_ne rfl ca_Md_endFrame_38
      (qz_fgt [1, 1] <| jb_Md_endFrame_38 G l0 x1 l0 h3)
      (qz_aload_n rfl <|
        qz_getI kg_12 fl_Md_402 rfl rfl <|
        qz_aload_n rfl <|
        qz_getR (k1 := 40) kg_12 fl_Md_188 rfl rfl <|
        qz_iload_n rfl <|
        qz_nnd 1 rfl <|
        qz_iald (k0 := 40) rfl rfl rfl <|
        qz_icmp_eq rfl ca_Md_endFrame_42
          (qz_iconst rfl <|
            qz_fall rfl ca_Md_endFrame_43 <|
            qz_fgt [1, 1] <| jb_Md_endFrame_43 G l0 x1 l0 0 h3)
          (qz_fall rfl ca_Md_endFrame_38 <|
            qz_fgt [1, 1] <| jb_Md_endFrame_38 G l0 x1 l0 h3))
def fn_Md_control_127 (h : qz_H) : Option qz_R :=
  some (0, h)
def fn_Md_control_95 (l0 : Int) (l3 : Int) (s0 : Int) (s1 : Int) (h : qz_H) : Option qz_R :=
  qz_ck ((s1 : Int) = 0 ∨ (s1 : Int) = 1) <|
  qz_ck ((0 : Int) < s0) <|
  qz_bn (qz_up h s0 57 s1) fun h1 =>
  qz_ck ((0 : Int) < l0) <|
  qz_bn (qz_up h1 l0 51 (qz_w ((h1 l0 51) - 1))) fun h2 =>
  qz_ck ((h2 l0 53 : Int) ≠ 0) <|
  qz_ck ((0 : Int) ≤ l3 ∧ l3 < h2 (h2 l0 53) (-1)) <|
  if h2 (h2 l0 53) l3 ≤ 0 then
    fn_Md_control_127 h2
  else
    qz_ck ((h2 l0 53 : Int) ≠ 0) <|
    qz_ck ((0 : Int) ≤ l3 ∧ l3 < h2 (h2 l0 53) (-1)) <|
    qz_bc (fn_Md_put l0 (h2 (h2 l0 53) l3) h2) fun _ h4 =>
    fn_Md_control_127 h4
def fn_Md_control_90 (l0 : Int) (l3 : Int) (s0 : Int) (h : qz_H) : Option qz_R :=
  fn_Md_control_95 l0 l3 s0 1 h
def fn_Md_control_94 (l0 : Int) (l3 : Int) (s0 : Int) (h : qz_H) : Option qz_R :=
  fn_Md_control_95 l0 l3 s0 0 h
def fn_Md_control_27 (l2 : Int) (s0 : Int) (s1 : Int) (s2 : Int) (h : qz_H) : Option qz_R :=
  qz_bc (fn_Md_frame s0 s1 s2 l2 h) fun _ h2 =>
  some (0, h2)
def fn_Md_control_10 (l0 : Int) (l1 : Int) (l2 : Int) (h : qz_H) : Option qz_R :=
  if 4 < l1 then
    qz_bc (fn_Md_endFrame l0 h) fun _ h2 =>
    qz_bn (qz_w ((h2 l0 51) - 1) : Int) fun x3 =>
    if ¬ l1 = 5 then
      if ¬ h2 l0 57 = 0 then
        fn_Md_control_90 l0 x3 l0 h2
      else
        qz_ck ((h2 l0 55 : Int) ≠ 0) <|
        qz_ck ((0 : Int) ≤ x3 ∧ x3 < h2 (h2 l0 55) (-1)) <|
        if ¬ h2 (h2 l0 55) x3 = 4 then
          fn_Md_control_94 l0 x3 l0 h2
        else
          qz_ck ((h2 l0 53 : Int) ≠ 0) <|
          qz_ck ((0 : Int) ≤ x3 ∧ x3 < h2 (h2 l0 53) (-1)) <|
          if h2 (h2 l0 53) x3 ≤ 0 then
            fn_Md_control_94 l0 x3 l0 h2
          else
            fn_Md_control_90 l0 x3 l0 h2
    else
      qz_ck ((h2 l0 56 : Int) ≠ 0) <|
      qz_ck (0 < h2 l0 56 ∧ (0 : Int) ≤ x3 ∧ x3 < h2 (h2 l0 56) (-1)) <|
      qz_bn (qz_up h2 (h2 l0 56) x3 (qz_nz 0)) fun h4 =>
      qz_ck ((h4 l0 55 : Int) ≠ 0) <|
      qz_ck (0 < h4 l0 55 ∧ (0 : Int) ≤ x3 ∧ x3 < h4 (h4 l0 55) (-1)) <|
      qz_bn (qz_up h4 (h4 l0 55) x3 5) fun h5 =>
      some (0, h5)
  else
    if ¬ l1 = 3 then
      fn_Md_control_27 l2 l0 l1 l2 h
    else
      fn_Md_control_27 l2 l0 l1 0 h
set_option maxRecDepth 20000 in
def fn_Md_control (l0 : Int) (l1 : Int) (l2 : Int) (h : qz_H) : Option qz_R :=
  if ¬ l1 = 4 then
    fn_Md_control_10 l0 l1 l2 h
  else
    qz_bc (fn_Md_takeResult l0 1 h) fun _ h2 =>
    fn_Md_control_10 l0 l1 l2 h2
def bk_Md_control_0 : List (Instr × Nat) := [(.iload_n 1, 1), (.iconst 4, 1), (.if_icmp .ne 8, 3), (.aload_n 0, 1), (.iconst 1, 1), (.invokevirtual 412, 3)]
def bk_Md_control_10 : List (Instr × Nat) := [(.iload_n 1, 1), (.iconst 4, 1), (.if_icmp .gt 20, 3), (.aload_n 0, 1), (.iload_n 1, 1), (.iload_n 1, 1), (.iconst 3, 1), (.if_icmp .ne 7, 3), (.iconst 0, 1), (.goto 4, 3)]
def bk_Md_control_32 : List (Instr × Nat) := [(.aload_n 0, 1), (.invokevirtual 419, 3), (.aload_n 0, 1), (.getfield 399, 3), (.iconst 1, 1), (.isub, 1), (.istore_n 3, 1), (.iload_n 1, 1), (.iconst 5, 1), (.if_icmp .ne 18, 3), (.aload_n 0, 1), (.getfield 194, 3), (.iload_n 3, 1), (.iconst 0, 1), (.bastore, 1), (.aload_n 0, 1), (.getfield 191, 3), (.iload_n 3, 1), (.iconst 5, 1), (.iastore, 1), (.return_, 1)]
def bk_Md_control_63 : List (Instr × Nat) := [(.aload_n 0, 1), (.aload_n 0, 1), (.getfield 395, 3), (.ifCond .ne 22, 3), (.aload_n 0, 1), (.getfield 191, 3), (.iload_n 3, 1), (.iaload, 1), (.iconst 4, 1), (.if_icmp .ne 16, 3), (.aload_n 0, 1), (.getfield 185, 3), (.iload_n 3, 1), (.iaload, 1), (.ifCond .le 7, 3)]
def bk_Md_control_90 : List (Instr × Nat) := [(.iconst 1, 1), (.goto 4, 3)]
def bk_Md_control_94 : List (Instr × Nat) := [(.iconst 0, 1)]
def bk_Md_control_26 : List (Instr × Nat) := [(.iload_n 2, 1)]
def bk_Md_control_27 : List (Instr × Nat) := [(.iload_n 2, 1), (.invokevirtual 415, 3), (.return_, 1)]
def bk_Md_control_95 : List (Instr × Nat) := [(.putfield 395, 3), (.aload_n 0, 1), (.dup, 1), (.getfield 399, 3), (.iconst 1, 1), (.isub, 1), (.putfield 399, 3), (.aload_n 0, 1), (.getfield 185, 3), (.iload_n 3, 1), (.iaload, 1), (.ifCond .le 13, 3), (.aload_n 0, 1), (.aload_n 0, 1), (.getfield 185, 3), (.iload_n 3, 1), (.iaload, 1), (.invokevirtual 408, 3)]
def bk_Md_control_127 : List (Instr × Nat) := [(.return_, 1)]
theorem ca_Md_control_0 : qz_ca yd_Md_control.2.1 0 bk_Md_control_0 := qz_cab_ok _ _ (by decide +kernel)
theorem ca_Md_control_10 : qz_ca yd_Md_control.2.1 10 bk_Md_control_10 := qz_cab_ok _ _ (by decide +kernel)
theorem ca_Md_control_32 : qz_ca yd_Md_control.2.1 32 bk_Md_control_32 := qz_cab_ok _ _ (by decide +kernel)
theorem ca_Md_control_63 : qz_ca yd_Md_control.2.1 63 bk_Md_control_63 := qz_cab_ok _ _ (by decide +kernel)
theorem ca_Md_control_90 : qz_ca yd_Md_control.2.1 90 bk_Md_control_90 := qz_cab_ok _ _ (by decide +kernel)
theorem ca_Md_control_94 : qz_ca yd_Md_control.2.1 94 bk_Md_control_94 := qz_cab_ok _ _ (by decide +kernel)
theorem ca_Md_control_26 : qz_ca yd_Md_control.2.1 26 bk_Md_control_26 := qz_cab_ok _ _ (by decide +kernel)
theorem ca_Md_control_27 : qz_ca yd_Md_control.2.1 27 bk_Md_control_27 := qz_cab_ok _ _ (by decide +kernel)
theorem ca_Md_control_95 : qz_ca yd_Md_control.2.1 95 bk_Md_control_95 := qz_cab_ok _ _ (by decide +kernel)
theorem ca_Md_control_127 : qz_ca yd_Md_control.2.1 127 bk_Md_control_127 := qz_cab_ok _ _ (by decide +kernel)
set_option maxRecDepth 20000 in
theorem jb_Md_control_127 (G : qz_G) (h : qz_H) : qz_J yd_Md_control G bk_Md_control_127 127 [qz_u, qz_u, qz_u, qz_u] [] h 0 0 (fn_Md_control_127 h) := by
  unfold fn_Md_control_127 bk_Md_control_127; exact
    qz_return ⟨rfl, rfl⟩ rfl
set_option maxRecDepth 20000 in
theorem jb_Md_control_95 (G : qz_G) (l0 : Int) (l3 : Int) (s0 : Int) (s1 : Int) (h : qz_H) : qz_J yd_Md_control G bk_Md_control_95 95 [qz_r true 12 l0, qz_u, qz_u, qz_i l3] [qz_i s1, qz_r true 12 s0] h 0 0 (fn_Md_control_95 l0 l3 s0 s1 h) := by
  unfold fn_Md_control_95 bk_Md_control_95; exact
    qz_putZ kw_12 fp_Md_395_Md_control rfl rfl fun h1 =>
    qz_aload_n rfl <|
    qz_dup rfl <|
    qz_getI kg_12 fl_Md_399 rfl rfl <|
    qz_iconst rfl <|
    qz_isub <|
    qz_putI kw_12 fp_Md_399_Md_control rfl rfl fun h2 =>
    qz_aload_n rfl <|
    qz_getR (k1 := 40) kg_12 fl_Md_185 rfl rfl <|
    qz_iload_n rfl <|
    qz_nnd 1 rfl <|
    qz_iald (k0 := 40) rfl rfl rfl <|
    qz_if_le rfl ca_Md_control_127
      (qz_fgt [0, 0, 0, 0] <| jb_Md_control_127 G h2)
      (qz_aload_n rfl <|
        qz_aload_n rfl <|
        qz_getR (k1 := 40) kg_12 fl_Md_185 rfl rfl <|
        qz_iload_n rfl <|
        qz_nnd 1 rfl <|
        qz_iald (k0 := 40) rfl rfl rfl <|
        qz_invvV [qz_i (h2 (h2 l0 53) l3)] rfl (cn_Md_put l0 (h2 (h2 l0 53) l3) h2) mw_Md_put vw_Md_put ⟨_, rfl, rfl, by decide⟩ rfl rfl ln_Md_408 rfl fun _ h4 =>
        qz_fall rfl ca_Md_control_127 <|
        qz_fgt [0, 0, 0, 0] <| jb_Md_control_127 G h4)
set_option maxRecDepth 20000 in
theorem jb_Md_control_90 (G : qz_G) (l0 : Int) (l3 : Int) (s0 : Int) (h : qz_H) : qz_J yd_Md_control G bk_Md_control_90 90 [qz_r true 12 l0, qz_u, qz_u, qz_i l3] [qz_r true 12 s0] h 0 0 (fn_Md_control_90 l0 l3 s0 h) := by
  unfold fn_Md_control_90 bk_Md_control_90; exact
    qz_iconst rfl <|
    qz_goto rfl ca_Md_control_95 <|
    qz_fgt [1, 0, 0, 1] <| jb_Md_control_95 G l0 l3 s0 1 h
set_option maxRecDepth 20000 in
theorem jb_Md_control_94 (G : qz_G) (l0 : Int) (l3 : Int) (s0 : Int) (h : qz_H) : qz_J yd_Md_control G bk_Md_control_94 94 [qz_r true 12 l0, qz_u, qz_u, qz_i l3] [qz_r true 12 s0] h 0 0 (fn_Md_control_94 l0 l3 s0 h) := by
  unfold fn_Md_control_94 bk_Md_control_94; exact
    qz_iconst rfl <|
    qz_fall rfl ca_Md_control_95 <|
    qz_fgt [1, 0, 0, 1] <| jb_Md_control_95 G l0 l3 s0 0 h
set_option maxRecDepth 20000 in
theorem jb_Md_control_27 (G : qz_G) (l2 : Int) (s0 : Int) (s1 : Int) (s2 : Int) (h : qz_H) : qz_J yd_Md_control G bk_Md_control_27 27 [qz_u, qz_u, qz_i l2, qz_u] [qz_i s2, qz_i s1, qz_r true 12 s0] h 0 0 (fn_Md_control_27 l2 s0 s1 s2 h) := by
  unfold fn_Md_control_27 bk_Md_control_27; exact
    qz_iload_n rfl <|
    qz_invvV [qz_i s1, qz_i s2, qz_i l2] rfl (cn_Md_frame s0 s1 s2 l2 h) mw_Md_frame vw_Md_frame ⟨_, rfl, rfl, by decide⟩ rfl rfl ln_Md_415 rfl fun _ h2 =>
    qz_return ⟨rfl, rfl⟩ rfl
set_option maxRecDepth 20000 in
theorem jb_Md_control_10 (G : qz_G) (l0 : Int) (l1 : Int) (l2 : Int) (h : qz_H) : qz_J yd_Md_control G bk_Md_control_10 10 [qz_r true 12 l0, qz_i l1, qz_i l2, qz_u] [] h 0 0 (fn_Md_control_10 l0 l1 l2 h) := by
  unfold fn_Md_control_10 bk_Md_control_10; exact
    qz_iload_n rfl <|
    qz_iconst rfl <|
    qz_icmp_gt rfl ca_Md_control_32
      (qz_aload_n rfl <|
        qz_invvV [] rfl (cn_Md_endFrame l0 h) mw_Md_endFrame vw_Md_endFrame ⟨_, rfl, rfl, by decide⟩ rfl rfl ln_Md_419 rfl fun _ h2 =>
        qz_aload_n rfl <|
        qz_getI kg_12 fl_Md_399 rfl rfl <|
        qz_iconst rfl <|
        qz_isub <|
        qz_istore_n (by decide) fun x3 =>
        qz_iload_n rfl <|
        qz_iconst rfl <|
        qz_icmp_ne rfl ca_Md_control_63
          (qz_aload_n rfl <|
            qz_aload_n rfl <|
            qz_getI kg_12 fl_Md_395 rfl rfl <|
            qz_if_ne rfl ca_Md_control_90
              (qz_fgt [1, 0, 0, 1] <| jb_Md_control_90 G l0 x3 l0 h2)
              (qz_aload_n rfl <|
                qz_getR (k1 := 40) kg_12 fl_Md_191 rfl rfl <|
                qz_iload_n rfl <|
                qz_nnd 1 rfl <|
                qz_iald (k0 := 40) rfl rfl rfl <|
                qz_iconst rfl <|
                qz_icmp_ne rfl ca_Md_control_94
                  (qz_fgt [1, 0, 0, 1] <| jb_Md_control_94 G l0 x3 l0 h2)
                  (qz_aload_n rfl <|
                    qz_getR (k1 := 40) kg_12 fl_Md_185 rfl rfl <|
                    qz_iload_n rfl <|
                    qz_nnd 1 rfl <|
                    qz_iald (k0 := 40) rfl rfl rfl <|
                    qz_if_le rfl ca_Md_control_94
                      (qz_fgt [1, 0, 0, 1] <| jb_Md_control_94 G l0 x3 l0 h2)
                      (qz_fall rfl ca_Md_control_90 <|
                        qz_fgt [1, 0, 0, 1] <| jb_Md_control_90 G l0 x3 l0 h2))))
          (qz_aload_n rfl <|
            qz_getR (k1 := 44) kg_12 fl_Md_194 rfl rfl <|
            qz_iload_n rfl <|
            qz_iconst rfl <|
            qz_nnd 2 rfl <|
            qz_zast rfl rfl rfl fun h4 =>
            qz_aload_n rfl <|
            qz_getR (k1 := 40) kg_12 fl_Md_191 rfl rfl <|
            qz_iload_n rfl <|
            qz_iconst rfl <|
            qz_nnd 2 rfl <|
            qz_iast rfl rfl rfl fun h5 =>
            qz_return ⟨rfl, rfl⟩ rfl))
      (qz_aload_n rfl <|
        qz_iload_n rfl <|
        qz_iload_n rfl <|
        qz_iconst rfl <|
        qz_icmp_ne rfl ca_Md_control_26
          (qz_iload_n rfl <|
            qz_fall rfl ca_Md_control_27 <|
            qz_fgt [0, 0, 1, 0] <| jb_Md_control_27 G l2 l0 l1 l2 h)
          (qz_iconst rfl <|
            qz_goto rfl ca_Md_control_27 <|
            qz_fgt [0, 0, 1, 0] <| jb_Md_control_27 G l2 l0 l1 0 h))
set_option maxRecDepth 20000 in
theorem cn_Md_control (l0 : Int) (l1 : Int) (l2 : Int) (h : qz_H) : qz_C yd_Md_control [qz_r true 12 l0, qz_i l1, qz_i l2] h (fn_Md_control l0 l1 l2 h) := by
  refine qz_con (is := bk_Md_control_0) (ls := [qz_r true 12 l0, qz_i l1, qz_i l2, qz_u]) mw_Md_control.2.2.2 ca_Md_control_0 rfl rfl rfl fun G => ?_
  unfold fn_Md_control bk_Md_control_0; exact
    qz_iload_n rfl <|
    qz_iconst rfl <|
    qz_icmp_ne rfl ca_Md_control_10
      (qz_fgt [1, 1, 1, 0] <| jb_Md_control_10 G l0 l1 l2 h)
      (qz_aload_n rfl <|
        qz_iconst rfl <|
        qz_invvV [qz_i 1] rfl (cn_Md_takeResult l0 1 h) mw_Md_takeResult vw_Md_takeResult ⟨_, rfl, rfl, by decide⟩ rfl rfl ln_Md_412 rfl fun _ h2 =>
        qz_fall rfl ca_Md_control_10 <|
        qz_fgt [1, 1, 1, 0] <| jb_Md_control_10 G l0 l1 l2 h2)
