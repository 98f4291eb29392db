def fn_Md_readType_40 (l1 : Int) (h : qz_H) : Option qz_R :=
  some (l1, h)
def fn_Md_readType_31 (l0 : Int) (s0 : Int) (h : qz_H) : Option qz_R :=
  qz_bn (s0 : Int) fun x1 =>
  if x1 ≤ 0 then
    fn_Md_readType_40 x1 h
  else
    qz_bc (fn_Md_next l0 h) fun _ h3 =>
    fn_Md_readType_40 x1 h3
set_option maxRecDepth 20000 in
def fn_Md_readType (l0 : Int) (h : qz_H) : Option qz_R :=
  qz_bc (fn_Md_is l0 6894386 3 h) fun r1 h2 =>
  if r1 = 0 then
    qz_bc (fn_Md_is l0 6895156 3 h2) fun r3 h4 =>
    if r3 = 0 then
      fn_Md_readType_31 l0 0 h4
    else
      fn_Md_readType_31 l0 2 h4
  else
    fn_Md_readType_31 l0 1 h2
def bk_Md_readType_0 : List (Instr × Nat) := [(.aload_n 0, 1), (.ldc2_w 338, 3), (.iconst 3, 1), (.invokevirtual 259, 3), (.ifCond .eq 7, 3), (.iconst 1, 1), (.goto 19, 3)]
def bk_Md_readType_15 : List (Instr × Nat) := [(.aload_n 0, 1), (.ldc2_w 340, 3), (.iconst 3, 1), (.invokevirtual 259, 3), (.ifCond .eq 7, 3), (.iconst 2, 1), (.goto 4, 3)]
def bk_Md_readType_30 : List (Instr × Nat) := [(.iconst 0, 1)]
def bk_Md_readType_31 : List (Instr × Nat) := [(.istore_n 1, 1), (.iload_n 1, 1), (.ifCond .le 7, 3), (.aload_n 0, 1), (.invokevirtual 256, 3)]
def bk_Md_readType_40 : List (Instr × Nat) := [(.iload_n 1, 1), (.ireturn, 1)]
theorem ca_Md_readType_0 : qz_ca yd_Md_readType.2.1 0 bk_Md_readType_0 := qz_cab_ok _ _ (by decide +kernel)
theorem ca_Md_readType_15 : qz_ca yd_Md_readType.2.1 15 bk_Md_readType_15 := qz_cab_ok _ _ (by decide +kernel)
theorem ca_Md_readType_30 : qz_ca yd_Md_readType.2.1 30 bk_Md_readType_30 := qz_cab_ok _ _ (by decide +kernel)
theorem ca_Md_readType_31 : qz_ca yd_Md_readType.2.1 31 bk_Md_readType_31 := qz_cab_ok _ _ (by decide +kernel)
theorem ca_Md_readType_40 : qz_ca yd_Md_readType.2.1 40 bk_Md_readType_40 := qz_cab_ok _ _ (by decide +kernel)
set_option maxRecDepth 20000 in
theorem jb_Md_readType_40 (G : qz_G) (l1 : Int) (h : qz_H) : qz_J yd_Md_readType G bk_Md_readType_40 40 [qz_u, qz_i l1] [] h 0 0 (fn_Md_readType_40 l1 h) := by
  unfold fn_Md_readType_40 bk_Md_readType_40; exact
    qz_iload_n rfl <|
    qz_ireturn ⟨rfl, rfl⟩ rfl
set_option maxRecDepth 20000 in
theorem jb_Md_readType_31 (G : qz_G) (l0 : Int) (s0 : Int) (h : qz_H) : qz_J yd_Md_readType G bk_Md_readType_31 31 [qz_r true 12 l0, qz_u] [qz_i s0] h 0 0 (fn_Md_readType_31 l0 s0 h) := by
  unfold fn_Md_readType_31 bk_Md_readType_31; exact
    qz_istore_n (by decide) fun x1 =>
    qz_iload_n rfl <|
    qz_if_le rfl ca_Md_readType_40
      (qz_fgt [0, 1] <| jb_Md_readType_40 G x1 h)
      (qz_aload_n rfl <|
        qz_invvV [] rfl (cn_Md_next l0 h) mw_Md_next vw_Md_next ⟨_, rfl, rfl, by decide⟩ rfl rfl ln_Md_256 rfl fun _ h3 =>
        qz_fall rfl ca_Md_readType_40 <|
        qz_fgt [0, 1] <| jb_Md_readType_40 G x1 h3)
set_option maxRecDepth 20000 in
theorem cn_Md_readType (l0 : Int) (h : qz_H) : qz_C yd_Md_readType [qz_r true 12 l0] h (fn_Md_readType l0 h) := by
  refine qz_con (is := bk_Md_readType_0) (ls := [qz_r true 12 l0, qz_u]) mw_Md_readType.2.2.2 ca_Md_readType_0 rfl rfl rfl fun G => ?_
  unfold fn_Md_readType bk_Md_readType_0; exact
    qz_aload_n rfl <|
    qz_ldc2 wc_Md_338 rfl <|
    qz_iconst rfl <|
    qz_invvI [qz_j 6894386, qz_i 3] rfl (cn_Md_is l0 6894386 3 h) mw_Md_is vw_Md_is ⟨_, rfl, rfl, by decide⟩ rfl rfl ln_Md_259 rfl fun r1 h2 =>
    qz_if_eq rfl ca_Md_readType_15
      (qz_aload_n rfl <|
        qz_ldc2 wc_Md_340 rfl <|
        qz_iconst rfl <|
        qz_invvI [qz_j 6895156, qz_i 3] rfl (cn_Md_is l0 6895156 3 h2) mw_Md_is vw_Md_is ⟨_, rfl, rfl, by decide⟩ rfl rfl ln_Md_259 rfl fun r3 h4 =>
        qz_if_eq rfl ca_Md_readType_30
          (qz_iconst rfl <|
            qz_fall rfl ca_Md_readType_31 <|
            qz_fgt [1, 0] <| jb_Md_readType_31 G l0 0 h4)
          (qz_iconst rfl <|
            qz_goto rfl ca_Md_readType_31 <|
            qz_fgt [1, 0] <| jb_Md_readType_31 G l0 2 h4))
      (qz_iconst rfl <|
        qz_goto rfl ca_Md_readType_31 <|
        qz_fgt [1, 0] <| jb_Md_readType_31 G l0 1 h2)
def fn_Md_readImmediate_38 (s0 : Int) (s1 : Int) (h : qz_H) : Option qz_R :=
  qz_bc (fn_Md_constant s0 s1 h) fun r1 h2 =>
  qz_ck ((r1 : Int) = 0 ∨ (r1 : Int) = 1) (some (r1, h2))
def fn_Md_readImmediate_26 (l0 : Int) (l1 : Int) (h : qz_H) : Option qz_R :=
  if ¬ l1 = 66 then
    fn_Md_readImmediate_38 l0 0 h
  else
    fn_Md_readImmediate_38 l0 1 h
def fn_Md_readImmediate_96 (s0 : Int) (h : qz_H) : Option qz_R :=
  qz_ck ((s0 : Int) = 0 ∨ (s0 : Int) = 1) (some (s0, h))
def fn_Md_readImmediate_91 (h : qz_H) : Option qz_R :=
  fn_Md_readImmediate_96 1 h
def fn_Md_readImmediate_77 (l0 : Int) (l1 : Int) (l2 : Int) (s0 : Int) (h : qz_H) : Option qz_R :=
  qz_bn (s0 : Int) fun x1 =>
  if x1 = 0 then
    fn_Md_readImmediate_91 h
  else
    qz_bc (fn_Md_index l0 l1 l2 h) fun r2 h3 =>
    if r2 = 0 then
      fn_Md_readImmediate_96 0 h3
    else
      fn_Md_readImmediate_91 h3
def fn_Md_readImmediate_72 (l0 : Int) (l1 : Int) (l2 : Int) (h : qz_H) : Option qz_R :=
  fn_Md_readImmediate_77 l0 l1 l2 1 h
def fn_Md_readImmediate_76 (l0 : Int) (l1 : Int) (l2 : Int) (h : qz_H) : Option qz_R :=
  fn_Md_readImmediate_77 l0 l1 l2 0 h
set_option maxRecDepth 20000 in
def fn_Md_readImmediate (l0 : Int) (l1 : Int) (l2 : Int) (h : qz_H) : Option qz_R :=
  qz_ck ((0 : Int) < l0) <|
  qz_bn (qz_up h l0 47 0) fun h1 =>
  qz_ck ((0 : Int) < l0) <|
  qz_bn (qz_up h1 l0 48 (-1)) fun h2 =>
  qz_bc (fn_Md_next l0 h2) fun _ h4 =>
  if l1 = 65 then
    fn_Md_readImmediate_26 l0 l1 h4
  else
    if ¬ l1 = 66 then
      if l1 = 12 then
        fn_Md_readImmediate_72 l0 l1 l2 h4
      else
        if l1 = 13 then
          fn_Md_readImmediate_72 l0 l1 l2 h4
        else
          if l1 = 16 then
            fn_Md_readImmediate_72 l0 l1 l2 h4
          else
            if l1 < 32 then
              fn_Md_readImmediate_76 l0 l1 l2 h4
            else
              if 34 < l1 then
                fn_Md_readImmediate_76 l0 l1 l2 h4
              else
                fn_Md_readImmediate_72 l0 l1 l2 h4
    else
      fn_Md_readImmediate_26 l0 l1 h4
def bk_Md_readImmediate_0 : List (Instr × Nat) := [(.aload_n 0, 1), (.lconst 0, 1), (.putfield 263, 3), (.aload_n 0, 1), (.iconst (-1), 1), (.putfield 281, 3), (.aload_n 0, 1), (.invokevirtual 256, 3), (.iload_n 1, 1), (.bipush 65, 2), (.if_icmp .eq 9, 3), (.iload_n 1, 1), (.bipush 66, 2), (.if_icmp .ne 19, 3)]
def bk_Md_readImmediate_26 : List (Instr × Nat) := [(.aload_n 0, 1), (.iload_n 1, 1), (.bipush 66, 2), (.if_icmp .ne 7, 3), (.iconst 1, 1), (.goto 4, 3)]
def bk_Md_readImmediate_42 : List (Instr × Nat) := [(.iload_n 1, 1), (.bipush 12, 2), (.if_icmp .eq 27, 3), (.iload_n 1, 1), (.bipush 13, 2), (.if_icmp .eq 21, 3), (.iload_n 1, 1), (.bipush 16, 2), (.if_icmp .eq 15, 3), (.iload_n 1, 1), (.bipush 32, 2), (.if_icmp .lt 13, 3), (.iload_n 1, 1), (.bipush 34, 2), (.if_icmp .gt 7, 3)]
def bk_Md_readImmediate_72 : List (Instr × Nat) := [(.iconst 1, 1), (.goto 4, 3)]
def bk_Md_readImmediate_76 : List (Instr × Nat) := [(.iconst 0, 1)]
def bk_Md_readImmediate_37 : List (Instr × Nat) := [(.iconst 0, 1)]
def bk_Md_readImmediate_38 : List (Instr × Nat) := [(.invokevirtual 346, 3), (.ireturn, 1)]
def bk_Md_readImmediate_77 : List (Instr × Nat) := [(.istore_n 3, 1), (.iload_n 3, 1), (.ifCond .eq 12, 3), (.aload_n 0, 1), (.iload_n 1, 1), (.iload_n 2, 1), (.invokevirtual 350, 3), (.ifCond .eq 7, 3)]
def bk_Md_readImmediate_91 : List (Instr × Nat) := [(.iconst 1, 1), (.goto 4, 3)]
def bk_Md_readImmediate_95 : List (Instr × Nat) := [(.iconst 0, 1)]
def bk_Md_readImmediate_96 : List (Instr × Nat) := [(.ireturn, 1)]
theorem ca_Md_readImmediate_0 : qz_ca yd_Md_readImmediate.2.1 0 bk_Md_readImmediate_0 := qz_cab_ok _ _ (by decide +kernel)
theorem ca_Md_readImmediate_26 : qz_ca yd_Md_readImmediate.2.1 26 bk_Md_readImmediate_26 := qz_cab_ok _ _ (by decide +kernel)
theorem ca_Md_readImmediate_42 : qz_ca yd_Md_readImmediate.2.1 42 bk_Md_readImmediate_42 := qz_cab_ok _ _ (by decide +kernel)
theorem ca_Md_readImmediate_72 : qz_ca yd_Md_readImmediate.2.1 72 bk_Md_readImmediate_72 := qz_cab_ok _ _ (by decide +kernel)
theorem ca_Md_readImmediate_76 : qz_ca yd_Md_readImmediate.2.1 76 bk_Md_readImmediate_76 := qz_cab_ok _ _ (by decide +kernel)
theorem ca_Md_readImmediate_37 : qz_ca yd_Md_readImmediate.2.1 37 bk_Md_readImmediate_37 := qz_cab_ok _ _ (by decide +kernel)
theorem ca_Md_readImmediate_38 : qz_ca yd_Md_readImmediate.2.1 38 bk_Md_readImmediate_38 := qz_cab_ok _ _ (by decide +kernel)
theorem ca_Md_readImmediate_77 : qz_ca yd_Md_readImmediate.2.1 77 bk_Md_readImmediate_77 := qz_cab_ok _ _ (by decide +kernel)
theorem ca_Md_readImmediate_91 : qz_ca yd_Md_readImmediate.2.1 91 bk_Md_readImmediate_91 := qz_cab_ok _ _ (by decide +kernel)
theorem ca_Md_readImmediate_95 : qz_ca yd_Md_readImmediate.2.1 95 bk_Md_readImmediate_95 := qz_cab_ok _ _ (by decide +kernel)
theorem ca_Md_readImmediate_96 : qz_ca yd_Md_readImmediate.2.1 96 bk_Md_readImmediate_96 := qz_cab_ok _ _ (by decide +kernel)
set_option maxRecDepth 20000 in
theorem jb_Md_readImmediate_38 (G : qz_G) (s0 : Int) (s1 : Int) (h : qz_H) : qz_J yd_Md_readImmediate G bk_Md_readImmediate_38 38 [qz_u, qz_u, qz_u, qz_u] [qz_i s1, qz_r true 12 s0] h 0 0 (fn_Md_readImmediate_38 s0 s1 h) := by
  unfold fn_Md_readImmediate_38 bk_Md_readImmediate_38; exact
    qz_invvI [qz_i s1] rfl (cn_Md_constant s0 s1 h) mw_Md_constant vw_Md_constant ⟨_, rfl, rfl, by decide⟩ rfl rfl ln_Md_346 rfl fun r1 h2 =>
    qz_zreturn ⟨rfl, rfl⟩ rfl
set_option maxRecDepth 20000 in
theorem jb_Md_readImmediate_26 (G : qz_G) (l0 : Int) (l1 : Int) (h : qz_H) : qz_J yd_Md_readImmediate G bk_Md_readImmediate_26 26 [qz_r true 12 l0, qz_i l1, qz_u, qz_u] [] h 0 0 (fn_Md_readImmediate_26 l0 l1 h) := by
  unfold fn_Md_readImmediate_26 bk_Md_readImmediate_26; exact
    qz_aload_n rfl <|
    qz_iload_n rfl <|
    qz_bipush rfl <|
    qz_icmp_ne rfl ca_Md_readImmediate_37
      (qz_iconst rfl <|
        qz_fall rfl ca_Md_readImmediate_38 <|
        qz_fgt [0, 0, 0, 0] <| jb_Md_readImmediate_38 G l0 0 h)
      (qz_iconst rfl <|
        qz_goto rfl ca_Md_readImmediate_38 <|
        qz_fgt [0, 0, 0, 0] <| jb_Md_readImmediate_38 G l0 1 h)
set_option maxRecDepth 20000 in
theorem jb_Md_readImmediate_96 (G : qz_G) (s0 : Int) (h : qz_H) : qz_J yd_Md_readImmediate G bk_Md_readImmediate_96 96 [qz_u, qz_u, qz_u, qz_u] [qz_i s0] h 0 0 (fn_Md_readImmediate_96 s0 h) := by
  unfold fn_Md_readImmediate_96 bk_Md_readImmediate_96; exact
    qz_zreturn ⟨rfl, rfl⟩ rfl
set_option maxRecDepth 20000 in
theorem jb_Md_readImmediate_91 (G : qz_G) (h : qz_H) : qz_J yd_Md_readImmediate G bk_Md_readImmediate_91 91 [qz_u, qz_u, qz_u, qz_u] [] h 0 0 (fn_Md_readImmediate_91 h) := by
  unfold fn_Md_readImmediate_91 bk_Md_readImmediate_91; exact
    qz_iconst rfl <|
    qz_goto rfl ca_Md_readImmediate_96 <|
    qz_fgt [0, 0, 0, 0] <| jb_Md_readImmediate_96 G 1 h
set_option maxRecDepth 20000 in
theorem jb_Md_readImmediate_77 (G : qz_G) (l0 : Int) (l1 : Int) (l2 : Int) (s0 : Int) (h : qz_H) : qz_J yd_Md_readImmediate G bk_Md_readImmediate_77 77 [qz_r true 12 l0, qz_i l1, qz_i l2, qz_u] [qz_i s0] h 0 0 (fn_Md_readImmediate_77 l0 l1 l2 s0 h) := by
  unfold fn_Md_readImmediate_77 bk_Md_readImmediate_77; exact
    qz_istore_n (by decide) fun x1 =>
    qz_iload_n rfl <|
    qz_if_eq rfl ca_Md_readImmediate_91
      (qz_fgt [0, 0, 0, 0] <| jb_Md_readImmediate_91 G h)
      (qz_aload_n rfl <|
        qz_iload_n rfl <|
        qz_iload_n rfl <|
        qz_invvI [qz_i l1, qz_i l2] rfl (cn_Md_index l0 l1 l2 h) mw_Md_index vw_Md_index ⟨_, rfl, rfl, by decide⟩ rfl rfl ln_Md_350 rfl fun r2 h3 =>
        qz_if_eq rfl ca_Md_readImmediate_95
          (qz_iconst rfl <|
            qz_fall rfl ca_Md_readImmediate_96 <|
            qz_fgt [0, 0, 0, 0] <| jb_Md_readImmediate_96 G 0 h3)
          (qz_fall rfl ca_Md_readImmediate_91 <|
            qz_fgt [0, 0, 0, 0] <| jb_Md_readImmediate_91 G h3))
set_option maxRecDepth 20000 in
theorem jb_Md_readImmediate_72 (G : qz_G) (l0 : Int) (l1 : Int) (l2 : Int) (h : qz_H) : qz_J yd_Md_readImmediate G bk_Md_readImmediate_72 72 [qz_r true 12 l0, qz_i l1, qz_i l2, qz_u] [] h 0 0 (fn_Md_readImmediate_72 l0 l1 l2 h) := by
  unfold fn_Md_readImmediate_72 bk_Md_readImmediate_72; exact
    qz_iconst rfl <|
    qz_goto rfl ca_Md_readImmediate_77 <|
    qz_fgt [1, 1, 1, 0] <| jb_Md_readImmediate_77 G l0 l1 l2 1 h
set_option maxRecDepth 20000 in
theorem jb_Md_readImmediate_76 (G : qz_G) (l0 : Int) (l1 : Int) (l2 : Int) (h : qz_H) : qz_J yd_Md_readImmediate G bk_Md_readImmediate_76 76 [qz_r true 12 l0, qz_i l1, qz_i l2, qz_u] [] h 0 0 (fn_Md_readImmediate_76 l0 l1 l2 h) := by
  unfold fn_Md_readImmediate_76 bk_Md_readImmediate_76; exact
    qz_iconst rfl <|
    qz_fall rfl ca_Md_readImmediate_77 <|
    qz_fgt [1, 1, 1, 0] <| jb_Md_readImmediate_77 G l0 l1 l2 0 h
set_option maxRecDepth 20000 in
theorem cn_Md_readImmediate (l0 : Int) (l1 : Int) (l2 : Int) (h : qz_H) : qz_C yd_Md_readImmediate [qz_r true 12 l0, qz_i l1, qz_i l2] h (fn_Md_readImmediate l0 l1 l2 h) := by
  refine qz_con (is := bk_Md_readImmediate_0) (ls := [qz_r true 12 l0, qz_i l1, qz_i l2, qz_u]) mw_Md_readImmediate.2.2.2 ca_Md_readImmediate_0 rfl rfl rfl fun G => ?_
  unfold fn_Md_readImmediate bk_Md_readImmediate_0; exact
    qz_aload_n rfl <|
    qz_lconst rfl <|
    qz_putJ kw_12 fp_Md_263_Md_readImmediate rfl rfl fun h1 =>
    qz_aload_n rfl <|
    qz_iconst rfl <|
    qz_putI kw_12 fp_Md_281_Md_readImmediate rfl rfl fun h2 =>
    qz_aload_n rfl <|
    qz_invvV [] rfl (cn_Md_next l0 h2) mw_Md_next vw_Md_next ⟨_, rfl, rfl, by decide⟩ rfl rfl ln_Md_256 rfl fun _ h4 =>
    qz_iload_n rfl <|
    qz_bipush rfl <|
    qz_icmp_eq rfl ca_Md_readImmediate_26
      (qz_fgt [1, 1, 0, 0] <| jb_Md_readImmediate_26 G l0 l1 h4)
      (qz_iload_n rfl <|
        qz_bipush rfl <|
        qz_icmp_ne rfl ca_Md_readImmediate_42
          (qz_iload_n rfl <|
            qz_bipush rfl <|
            qz_icmp_eq rfl ca_Md_readImmediate_72
              (qz_fgt [1, 1, 1, 0] <| jb_Md_readImmediate_72 G l0 l1 l2 h4)
              (qz_iload_n rfl <|
                qz_bipush rfl <|
                qz_icmp_eq rfl ca_Md_readImmediate_72
                  (qz_fgt [1, 1, 1, 0] <| jb_Md_readImmediate_72 G l0 l1 l2 h4)
                  (qz_iload_n rfl <|
                    qz_bipush rfl <|
                    qz_icmp_eq rfl ca_Md_readImmediate_72
                      (qz_fgt [1, 1, 1, 0] <| jb_Md_readImmediate_72 G l0 l1 l2 h4)
                      (qz_iload_n rfl <|
                        qz_bipush rfl <|
                        qz_icmp_lt rfl ca_Md_readImmediate_76
                          (qz_fgt [1, 1, 1, 0] <| jb_Md_readImmediate_76 G l0 l1 l2 h4)
                          (qz_iload_n rfl <|
                            qz_bipush rfl <|
                            qz_icmp_gt rfl ca_Md_readImmediate_76
                              (qz_fgt [1, 1, 1, 0] <| jb_Md_readImmediate_76 G l0 l1 l2 h4)
                              (qz_fall rfl ca_Md_readImmediate_72 <|
                                qz_fgt [1, 1, 1, 0] <| jb_Md_readImmediate_72 G l0 l1 l2 h4))))))
          (qz_fall rfl ca_Md_readImmediate_26 <|
            qz_fgt [1, 1, 0, 0] <| jb_Md_readImmediate_26 G l0 l1 h4))
def fn_Md_fold_21 (l0 : Int) (h : qz_H) : Option qz_R :=
  qz_bc (fn_Md_fail l0 1 h) fun r1 h2 =>
  qz_ck ((r1 : Int) = 0 ∨ (r1 : Int) = 1) (some (r1, h2))
set_option maxRecDepth 20000 in
def fn_Md_fold (l0 : Int) (l1 : Int) (h : qz_H) : Option qz_R :=
  qz_bc (fn_Md_instructionWord l0 h) fun r1 h2 =>
  qz_bn (r1 : Int) fun x3 =>
  if x3 < 0 then
    fn_Md_fold_21 l0 h2
  else
    qz_ck ((h2 l0 2 : Int) ≠ 0) <|
    qz_ck ((0 : Int) ≤ x3 ∧ x3 < h2 (h2 l0 2) (-1)) <|
    qz_bc (fn_Md_isPlain (h2 (h2 l0 2) x3) h2) fun r4 h5 =>
    if ¬ r4 = 0 then
      qz_bn (h5 l0 39 : Int) fun x6 =>
      qz_ck ((h5 l0 2 : Int) ≠ 0) <|
      qz_ck ((0 : Int) ≤ x3 ∧ x3 < h5 (h5 l0 2) (-1)) <|
      qz_bc (fn_Md_readImmediate l0 (h5 (h5 l0 2) x3) l1 h5) fun r7 h8 =>
      if ¬ r7 = 0 then
        qz_ck ((h8 l0 41 : Int) ≠ 0) <|
        qz_ck (0 < h8 l0 41 ∧ (0 : Int) ≤ x6 ∧ x6 < h8 (h8 l0 41) (-1)) <|
        qz_bn (qz_up h8 (h8 l0 41) x6 (qz_nz 1)) fun h9 =>
        qz_ck ((h9 l0 2 : Int) ≠ 0) <|
        qz_ck ((0 : Int) ≤ x3 ∧ x3 < h9 (h9 l0 2) (-1)) <|
        qz_ck ((h9 l0 40 : Int) ≠ 0) <|
        qz_ck (0 < h9 l0 40 ∧ (0 : Int) ≤ x6 ∧ x6 < h9 (h9 l0 40) (-1)) <|
        qz_bn (qz_up h9 (h9 l0 40) x6 (h9 (h9 l0 2) x3)) fun h10 =>
        qz_ck ((h10 l0 45 : Int) ≠ 0) <|
        qz_ck (0 < h10 l0 45 ∧ (0 : Int) ≤ x6 ∧ x6 < h10 (h10 l0 45) (-1)) <|
        qz_bn (qz_up h10 (h10 l0 45) x6 (h10 l0 47)) fun h11 =>
        qz_ck ((h11 l0 46 : Int) ≠ 0) <|
        qz_ck (0 < h11 l0 46 ∧ (0 : Int) ≤ x6 ∧ x6 < h11 (h11 l0 46) (-1)) <|
        qz_bn (qz_up h11 (h11 l0 46) x6 (h11 l0 48)) fun h12 =>
        qz_ck ((h12 l0 44 : Int) ≠ 0) <|
        qz_ck (0 < h12 l0 44 ∧ (0 : Int) ≤ x6 ∧ x6 < h12 (h12 l0 44) (-1)) <|
        qz_bn (qz_up h12 (h12 l0 44) x6 0) fun h13 =>
        qz_ck ((0 : Int) < l0) <|
        qz_bn (qz_up h13 l0 39 (qz_w ((h13 l0 39) + 1))) fun h14 =>
        qz_ck ((1 : Int) = 0 ∨ (1 : Int) = 1) (some (1, h14))
      else
        qz_ck ((0 : Int) = 0 ∨ (0 : Int) = 1) (some (0, h8))
    else
      fn_Md_fold_21 l0 h5
def bk_Md_fold_0 : List (Instr × Nat) := [(.aload_n 0, 1), (.invokevirtual 354, 3), (.istore_n 2, 1), (.iload_n 2, 1), (.ifCond .lt 15, 3), (.aload_n 0, 1), (.getfield 86, 3), (.iload_n 2, 1), (.iaload, 1), (.invokestatic 357, 3), (.ifCond .ne 9, 3)]
def bk_Md_fold_21 : List (Instr × Nat) := [(.aload_n 0, 1), (.iconst 1, 1), (.invokevirtual 253, 3), (.ireturn, 1)]
def bk_Md_fold_27 : List (Instr × Nat) := [(.aload_n 0, 1), (.getfield 297, 3), (.istore_n 3, 1), (.aload_n 0, 1), (.aload_n 0, 1), (.getfield 86, 3), (.iload_n 2, 1), (.iaload, 1), (.iload_n 1, 1), (.invokevirtual 360, 3), (.ifCond .ne 5, 3), (.iconst 0, 1), (.ireturn, 1)]
def bk_Md_fold_48 : List (Instr × Nat) := [(.aload_n 0, 1), (.getfield 160, 3), (.iload_n 3, 1), (.iconst 1, 1), (.bastore, 1), (.aload_n 0, 1), (.getfield 157, 3), (.iload_n 3, 1), (.aload_n 0, 1), (.getfield 86, 3), (.iload_n 2, 1), (.iaload, 1), (.iastore, 1), (.aload_n 0, 1), (.getfield 173, 3), (.iload_n 3, 1), (.aload_n 0, 1), (.getfield 263, 3), (.lastore, 1), (.aload_n 0, 1), (.getfield 176, 3), (.iload_n 3, 1), (.aload_n 0, 1), (.getfield 281, 3), (.iastore, 1), (.aload_n 0, 1), (.getfield 170, 3), (.iload_n 3, 1), (.iconst 0, 1), (.iastore, 1), (.aload_n 0, 1), (.dup, 1), (.getfield 297, 3), (.iconst 1, 1), (.iadd, 1), (.putfield 297, 3), (.iconst 1, 1), (.ireturn, 1)]
theorem ca_Md_fold_0 : qz_ca yd_Md_fold.2.1 0 bk_Md_fold_0 := qz_cab_ok _ _ (by decide +kernel)
theorem ca_Md_fold_21 : qz_ca yd_Md_fold.2.1 21 bk_Md_fold_21 := qz_cab_ok _ _ (by decide +kernel)
theorem ca_Md_fold_27 : qz_ca yd_Md_fold.2.1 27 bk_Md_fold_27 := qz_cab_ok _ _ (by decide +kernel)
theorem ca_Md_fold_48 : qz_ca yd_Md_fold.2.1 48 bk_Md_fold_48 := qz_cab_ok _ _ (by decide +kernel)
set_option maxRecDepth 20000 in
theorem jb_Md_fold_21 (G : qz_G) (l0 : Int) (h : qz_H) : qz_J yd_Md_fold G bk_Md_fold_21 21 [qz_r true 12 l0, qz_u, qz_u, qz_u] [] h 0 0 (fn_Md_fold_21 l0 h) := by
  unfold fn_Md_fold_21 bk_Md_fold_21; exact
    qz_aload_n rfl <|
    qz_iconst rfl <|
    qz_invvI [qz_i 1] rfl (cn_Md_fail l0 1 h) mw_Md_fail vw_Md_fail ⟨_, rfl, rfl, by decide⟩ rfl rfl ln_Md_253 rfl fun r1 h2 =>
    qz_zreturn ⟨rfl, rfl⟩ rfl
set_option maxRecDepth 20000 in
theorem cn_Md_fold (l0 : Int) (l1 : Int) (h : qz_H) : qz_C yd_Md_fold [qz_r true 12 l0, qz_i l1] h (fn_Md_fold l0 l1 h) := by
  refine qz_con (is := bk_Md_fold_0) (ls := [qz_r true 12 l0, qz_i l1, qz_u, qz_u]) mw_Md_fold.2.2.2 ca_Md_fold_0 rfl rfl rfl fun G => ?_
  unfold fn_Md_fold bk_Md_fold_0; exact
    qz_aload_n rfl <|
    qz_invvI [] rfl (cn_Md_instructionWord l0 h) mw_Md_instructionWord vw_Md_instructionWord ⟨_, rfl, rfl, by decide⟩ rfl rfl ln_Md_354 rfl fun r1 h2 =>
    qz_istore_n (by decide) fun x3 =>
    qz_iload_n rfl <|
    qz_if_lt rfl ca_Md_fold_21
      (qz_fgt [1, 0, 0, 0] <| jb_Md_fold_21 G l0 h2)
      (qz_aload_n rfl <|
        qz_getR (k1 := 40) kg_12 fl_Md_86 rfl rfl <|
        qz_iload_n rfl <|
        qz_nnd 1 rfl <|
        qz_iald (k0 := 40) rfl rfl rfl <|
        qz_invsI [qz_i (h2 (h2 l0 2) x3)] rfl (cn_Md_isPlain (h2 (h2 l0 2) x3) h2) mw_Md_isPlain vs_Md_isPlain rfl rfl ln_Md_357 rfl fun r4 h5 =>
        qz_if_ne rfl ca_Md_fold_27
          (qz_aload_n rfl <|
            qz_getI kg_12 fl_Md_297 rfl rfl <|
            qz_istore_n (by decide) fun x6 =>
            qz_aload_n rfl <|
            qz_aload_n rfl <|
            qz_getR (k1 := 40) kg_12 fl_Md_86 rfl rfl <|
            qz_iload_n rfl <|
            qz_nnd 1 rfl <|
            qz_iald (k0 := 40) rfl rfl rfl <|
            qz_iload_n rfl <|
            qz_invvI [qz_i (h5 (h5 l0 2) x3), qz_i l1] rfl (cn_Md_readImmediate l0 (h5 (h5 l0 2) x3) l1 h5) mw_Md_readImmediate vw_Md_readImmediate ⟨_, rfl, rfl, by decide⟩ rfl rfl ln_Md_360 rfl fun r7 h8 =>
            qz_if_ne rfl ca_Md_fold_48
              (qz_aload_n rfl <|
                qz_getR (k1 := 44) kg_12 fl_Md_160 rfl rfl <|
                qz_iload_n rfl <|
                qz_iconst rfl <|
                qz_nnd 2 rfl <|
                qz_zast rfl rfl rfl fun h9 =>
                qz_aload_n rfl <|
                qz_getR (k1 := 40) kg_12 fl_Md_157 rfl rfl <|
                qz_iload_n rfl <|
                qz_aload_n rfl <|
                qz_getR (k1 := 40) kg_12 fl_Md_86 rfl rfl <|
                qz_iload_n rfl <|
                qz_nnd 1 rfl <|
                qz_iald (k0 := 40) rfl rfl rfl <|
                qz_nnd 2 rfl <|
                qz_iast rfl rfl rfl fun h10 =>
                qz_aload_n rfl <|
                qz_getR (k1 := 41) kg_12 fl_Md_173 rfl rfl <|
                qz_iload_n rfl <|
                qz_aload_n rfl <|
                qz_getJ kg_12 fl_Md_263 rfl rfl <|
                qz_nnd 2 rfl <|
                qz_last rfl rfl rfl fun h11 =>
                qz_aload_n rfl <|
                qz_getR (k1 := 40) kg_12 fl_Md_176 rfl rfl <|
                qz_iload_n rfl <|
                qz_aload_n rfl <|
                qz_getI kg_12 fl_Md_281 rfl rfl <|
                qz_nnd 2 rfl <|
                qz_iast rfl rfl rfl fun h12 =>
                qz_aload_n rfl <|
                qz_getR (k1 := 40) kg_12 fl_Md_170 rfl rfl <|
                qz_iload_n rfl <|
                qz_iconst rfl <|
                qz_nnd 2 rfl <|
                qz_iast rfl rfl rfl fun h13 =>
                qz_aload_n rfl <|
                qz_dup rfl <|
                qz_getI kg_12 fl_Md_297 rfl rfl <|
                qz_iconst rfl <|
                qz_iadd <|
                qz_putI kw_12 fp_Md_297_Md_fold rfl rfl fun h14 =>
                qz_iconst rfl <|
                qz_zreturn ⟨rfl, rfl⟩ rfl)
              (qz_iconst rfl <|
                qz_zreturn ⟨rfl, rfl⟩ rfl))
          (qz_fall rfl ca_Md_fold_21 <|
            qz_fgt [1, 0, 0, 0] <| jb_Md_fold_21 G l0 h5))
set_option maxRecDepth 20000 in
def fn_Md_open (l0 : Int) (h : qz_H) : Option qz_R :=
  if qz_w ((h l0 39) + 3) ≤ 12 then
    qz_bc (fn_Md_next l0 h) fun _ h2 =>
    qz_ck ((1 : Int) = 0 ∨ (1 : Int) = 1) (some (1, h2))
  else
    qz_bc (fn_Md_fail l0 2 h) fun r3 h4 =>
    qz_ck ((r3 : Int) = 0 ∨ (r3 : Int) = 1) (some (r3, h4))
def bk_Md_open_0 : List (Instr × Nat) := [(.aload_n 0, 1), (.getfield 297, 3), (.iconst 3, 1), (.iadd, 1), (.bipush 12, 2), (.if_icmp .le 9, 3), (.aload_n 0, 1), (.iconst 2, 1), (.invokevirtual 253, 3), (.ireturn, 1)]
def bk_Md_open_17 : List (Instr × Nat) := [(.aload_n 0, 1), (.invokevirtual 256, 3), (.iconst 1, 1), (.ireturn, 1)]
theorem ca_Md_open_0 : qz_ca yd_Md_open.2.1 0 bk_Md_open_0 := qz_cab_ok _ _ (by decide +kernel)
theorem ca_Md_open_17 : qz_ca yd_Md_open.2.1 17 bk_Md_open_17 := qz_cab_ok _ _ (by decide +kernel)
set_option maxRecDepth 20000 in
theorem cn_Md_open (l0 : Int) (h : qz_H) : qz_C yd_Md_open [qz_r true 12 l0] h (fn_Md_open l0 h) := by
  refine qz_con (is := bk_Md_open_0) (ls := [qz_r true 12 l0]) mw_Md_open.2.2.2 ca_Md_open_0 rfl rfl rfl fun G => ?_
  unfold fn_Md_open bk_Md_open_0; exact
    qz_aload_n rfl <|
    qz_getI kg_12 fl_Md_297 rfl rfl <|
    qz_iconst rfl <|
    qz_iadd <|
    qz_bipush rfl <|
    qz_icmp_le rfl ca_Md_open_17
      (qz_aload_n rfl <|
        qz_invvV [] rfl (cn_Md_next l0 h) mw_Md_next vw_Md_next ⟨_, rfl, rfl, by decide⟩ rfl rfl ln_Md_256 rfl fun _ h2 =>
        qz_iconst rfl <|
        qz_zreturn ⟨rfl, rfl⟩ rfl)
      (qz_aload_n rfl <|
        qz_iconst rfl <|
        qz_invvI [qz_i 2] rfl (cn_Md_fail l0 2 h) mw_Md_fail vw_Md_fail ⟨_, rfl, rfl, by decide⟩ rfl rfl ln_Md_253 rfl fun r3 h4 =>
        qz_zreturn ⟨rfl, rfl⟩ rfl)
def fn_Md_hasRoom_22 (s0 : Int) (h : qz_H) : Option qz_R :=
  qz_ck ((s0 : Int) = 0 ∨ (s0 : Int) = 1) (some (s0, h))
def fn_Md_hasRoom_17 (h : qz_H) : Option qz_R :=
  fn_Md_hasRoom_22 1 h
set_option maxRecDepth 20000 in
def fn_Md_hasRoom (l0 : Int) (h : qz_H) : Option qz_R :=
  if h l0 23 < 64 then
    fn_Md_hasRoom_17 h
  else
    qz_bc (fn_Md_fail l0 2 h) fun r1 h2 =>
    if r1 = 0 then
      fn_Md_hasRoom_22 0 h2
    else
      fn_Md_hasRoom_17 h2
def bk_Md_hasRoom_0 : List (Instr × Nat) := [(.aload_n 0, 1), (.getfield 304, 3), (.bipush 64, 2), (.if_icmp .lt 11, 3), (.aload_n 0, 1), (.iconst 2, 1), (.invokevirtual 253, 3), (.ifCond .eq 7, 3)]
def bk_Md_hasRoom_17 : List (Instr × Nat) := [(.iconst 1, 1), (.goto 4, 3)]
def bk_Md_hasRoom_21 : List (Instr × Nat) := [(.iconst 0, 1)]
def bk_Md_hasRoom_22 : List (Instr × Nat) := [(.ireturn, 1)]
theorem ca_Md_hasRoom_0 : qz_ca yd_Md_hasRoom.2.1 0 bk_Md_hasRoom_0 := qz_cab_ok _ _ (by decide +kernel)
theorem ca_Md_hasRoom_17 : qz_ca yd_Md_hasRoom.2.1 17 bk_Md_hasRoom_17 := qz_cab_ok _ _ (by decide +kernel)
theorem ca_Md_hasRoom_21 : qz_ca yd_Md_hasRoom.2.1 21 bk_Md_hasRoom_21 := qz_cab_ok _ _ (by decide +kernel)
theorem ca_Md_hasRoom_22 : qz_ca yd_Md_hasRoom.2.1 22 bk_Md_hasRoom_22 := qz_cab_ok _ _ (by decide +kernel)
set_option maxRecDepth 20000 in
theorem jb_Md_hasRoom_22 (G : qz_G) (s0 : Int) (h : qz_H) : qz_J yd_Md_hasRoom G bk_Md_hasRoom_22 22 [qz_u] [qz_i s0] h 0 0 (fn_Md_hasRoom_22 s0 h) := by
  unfold fn_Md_hasRoom_22 bk_Md_hasRoom_22; exact
    qz_zreturn ⟨rfl, rfl⟩ rfl
set_option maxRecDepth 20000 in
theorem jb_Md_hasRoom_17 (G : qz_G) (h : qz_H) : qz_J yd_Md_hasRoom G bk_Md_hasRoom_17 17 [qz_u] [] h 0 0 (fn_Md_hasRoom_17 h) := by
  unfold fn_Md_hasRoom_17 bk_Md_hasRoom_17; exact
    qz_iconst rfl <|
    qz_goto rfl ca_Md_hasRoom_22 <|
    qz_fgt [0] <| jb_Md_hasRoom_22 G 1 h
set_option maxRecDepth 20000 in
theorem cn_Md_hasRoom (l0 : Int) (h : qz_H) : qz_C yd_Md_hasRoom [qz_r true 12 l0] h (fn_Md_hasRoom l0 h) := by
  refine qz_con (is := bk_Md_hasRoom_0) (ls := [qz_r true 12 l0]) mw_Md_hasRoom.2.2.2 ca_Md_hasRoom_0 rfl rfl rfl fun G => ?_
  unfold fn_Md_hasRoom bk_Md_hasRoom_0; exact
    qz_aload_n rfl <|
    qz_getI kg_12 fl_Md_304 rfl rfl <|
    qz_bipush rfl <|
    qz_icmp_lt rfl ca_Md_hasRoom_17
      (qz_fgt [0] <| jb_Md_hasRoom_17 G h)
      (qz_aload_n rfl <|
        qz_iconst rfl <|
        qz_invvI [qz_i 2] rfl (cn_Md_fail l0 2 h) mw_Md_fail vw_Md_fail ⟨_, rfl, rfl, by decide⟩ rfl rfl ln_Md_253 rfl fun r1 h2 =>
        qz_if_eq rfl ca_Md_hasRoom_21
          (qz_iconst rfl <|
            qz_fall rfl ca_Md_hasRoom_22 <|
            qz_fgt [0] <| jb_Md_hasRoom_22 G 0 h2)
          (qz_fall rfl ca_Md_hasRoom_17 <|
            qz_fgt [0] <| jb_Md_hasRoom_17 G h2))
set_option maxRecDepth 20000 in
def fn_Md_emit (l0 : Int) (l1 : Int) (l2 : Int) (h : qz_H) : Option qz_R :=
  qz_ck ((h l0 21 : Int) ≠ 0) <|
  qz_ck (0 < h l0 21 ∧ (0 : Int) ≤ h l0 23 ∧ h l0 23 < h (h l0 21) (-1)) <|
  qz_bn (qz_up h (h l0 21) (h l0 23) l1) fun h1 =>
  qz_ck ((h1 l0 22 : Int) ≠ 0) <|
  qz_ck (0 < h1 l0 22 ∧ (0 : Int) ≤ h1 l0 23 ∧ h1 l0 23 < h1 (h1 l0 22) (-1)) <|
  qz_bn (qz_up h1 (h1 l0 22) (h1 l0 23) l2) fun h2 =>
  qz_ck ((0 : Int) < l0) <|
  qz_bn (qz_up h2 l0 23 (qz_w ((h2 l0 23) + 1))) fun h3 =>
  some (qz_w ((h3 l0 23) - 1), h3)
def bk_Md_emit_0 : List (Instr × Nat) := [(.aload_n 0, 1), (.getfield 130, 3), (.aload_n 0, 1), (.getfield 304, 3), (.iload_n 1, 1), (.iastore, 1), (.aload_n 0, 1), (.getfield 133, 3), (.aload_n 0, 1), (.getfield 304, 3), (.lload_n 2, 1), (.lastore, 1), (.aload_n 0, 1), (.dup, 1), (.getfield 304, 3), (.iconst 1, 1), (.iadd, 1), (.putfield 304, 3), (.aload_n 0, 1), (.getfield 304, 3), (.iconst 1, 1), (.isub, 1), (.ireturn, 1)]
theorem ca_Md_emit_0 : qz_ca yd_Md_emit.2.1 0 bk_Md_emit_0 := qz_cab_ok _ _ (by decide +kernel)
set_option maxRecDepth 20000 in
theorem cn_Md_emit (l0 : Int) (l1 : Int) (l2 : Int) (h : qz_H) : qz_C yd_Md_emit [qz_r true 12 l0, qz_i l1, qz_j l2] h (fn_Md_emit l0 l1 l2 h) := by
  refine qz_con (is := bk_Md_emit_0) (ls := [qz_r true 12 l0, qz_i l1, qz_j l2, qz_u]) mw_Md_emit.2.2.2 ca_Md_emit_0 rfl rfl rfl fun G => ?_
  unfold fn_Md_emit bk_Md_emit_0; exact
    qz_aload_n rfl <|
    qz_getR (k1 := 40) kg_12 fl_Md_130 rfl rfl <|
    qz_aload_n rfl <|
    qz_getI kg_12 fl_Md_304 rfl rfl <|
    qz_iload_n rfl <|
    qz_nnd 2 rfl <|
    qz_iast rfl rfl rfl fun h1 =>
    qz_aload_n rfl <|
    qz_getR (k1 := 41) kg_12 fl_Md_133 rfl rfl <|
    qz_aload_n rfl <|
    qz_getI kg_12 fl_Md_304 rfl rfl <|
    qz_lload_n rfl <|
    qz_nnd 2 rfl <|
    qz_last rfl rfl rfl fun h2 =>
    qz_aload_n rfl <|
    qz_dup rfl <|
    qz_getI kg_12 fl_Md_304 rfl rfl <|
    qz_iconst rfl <|
    qz_iadd <|
    qz_putI kw_12 fp_Md_304_Md_emit rfl rfl fun h3 =>
    qz_aload_n rfl <|
    qz_getI kg_12 fl_Md_304 rfl rfl <|
    qz_iconst rfl <|
    qz_isub <|
    qz_ireturn ⟨rfl, rfl⟩ rfl
def fn_Md_noteCall_11 (h : qz_H) : Option qz_R :=
  some (0, h)
set_option maxRecDepth 20000 in
def fn_Md_noteCall (l0 : Int) (l1 : Int) (l2 : Int) (h : qz_H) : Option qz_R :=
  if l1 < 0 then
    fn_Md_noteCall_11 h
  else
    qz_ck ((h l0 31 : Int) ≠ 0) <|
    qz_ck (0 < h l0 31 ∧ (0 : Int) ≤ l1 ∧ l1 < h (h l0 31) (-1)) <|
    qz_bn (qz_up h (h l0 31) l1 l2) fun h1 =>
    fn_Md_noteCall_11 h1
def bk_Md_noteCall_0 : List (Instr × Nat) := [(.iload_n 1, 1), (.ifCond .lt 10, 3), (.aload_n 0, 1), (.getfield 154, 3), (.iload_n 1, 1), (.iload_n 2, 1), (.iastore, 1)]
def bk_Md_noteCall_11 : List (Instr × Nat) := [(.return_, 1)]
theorem ca_Md_noteCall_0 : qz_ca yd_Md_noteCall.2.1 0 bk_Md_noteCall_0 := qz_cab_ok _ _ (by decide +kernel)
theorem ca_Md_noteCall_11 : qz_ca yd_Md_noteCall.2.1 11 bk_Md_noteCall_11 := qz_cab_ok _ _ (by decide +kernel)
set_option maxRecDepth 20000 in
theorem jb_Md_noteCall_11 (G : qz_G) (h : qz_H) : qz_J yd_Md_noteCall G bk_Md_noteCall_11 11 [qz_u, qz_u, qz_u] [] h 0 0 (fn_Md_noteCall_11 h) := by
  unfold fn_Md_noteCall_11 bk_Md_noteCall_11; exact
    qz_return ⟨rfl, rfl⟩ rfl
set_option maxRecDepth 20000 in
theorem cn_Md_noteCall (l0 : Int) (l1 : Int) (l2 : Int) (h : qz_H) : qz_C yd_Md_noteCall [qz_r true 12 l0, qz_i l1, qz_i l2] h (fn_Md_noteCall l0 l1 l2 h) := by
  refine qz_con (is := bk_Md_noteCall_0) (ls := [qz_r true 12 l0, qz_i l1, qz_i l2]) mw_Md_noteCall.2.2.2 ca_Md_noteCall_0 rfl rfl rfl fun G => ?_
  unfold fn_Md_noteCall bk_Md_noteCall_0; exact
    qz_iload_n rfl <|
    qz_if_lt rfl ca_Md_noteCall_11
      (qz_fgt [0, 0, 0] <| jb_Md_noteCall_11 G h)
      (qz_aload_n rfl <|
        qz_getR (k1 := 40) kg_12 fl_Md_154 rfl rfl <|
        qz_iload_n rfl <|
        qz_iload_n rfl <|
        qz_nnd 2 rfl <|
        qz_iast rfl rfl rfl fun h1 =>
        qz_fall rfl ca_Md_noteCall_11 <|
        qz_fgt [0, 0, 0] <| jb_Md_noteCall_11 G h1)
def fn_Md_inFold_28 (s0 : Int) (h : qz_H) : Option qz_R :=
  qz_ck ((s0 : Int) = 0 ∨ (s0 : Int) = 1) (some (s0, h))
def fn_Md_inFold_27 (h : qz_H) : Option qz_R :=
  fn_Md_inFold_28 0 h
set_option maxRecDepth 20000 in
def fn_Md_inFold (l0 : Int) (l1 : Int) (h : qz_H) : Option qz_R :=
  if ¬ h l0 33 = 1 then
    if h l0 33 = 2 then
      qz_bc (fn_Md_hasRoom l0 h) fun r1 h2 =>
      if ¬ r1 = 0 then
        qz_ck ((0 : Int) < l0) <|
        qz_bn (qz_up h2 l0 39 (qz_w ((h2 l0 39) - 1))) fun h3 =>
        qz_ck ((h3 l0 46 : Int) ≠ 0) <|
        qz_ck ((0 : Int) ≤ h3 l0 39 ∧ h3 l0 39 < h3 (h3 l0 46) (-1)) <|
        qz_ck ((h3 l0 40 : Int) ≠ 0) <|
        qz_ck ((0 : Int) ≤ h3 l0 39 ∧ h3 l0 39 < h3 (h3 l0 40) (-1)) <|
        qz_ck ((h3 l0 45 : Int) ≠ 0) <|
        qz_ck ((0 : Int) ≤ h3 l0 39 ∧ h3 l0 39 < h3 (h3 l0 45) (-1)) <|
        qz_bc (fn_Md_emit l0 (h3 (h3 l0 40) (h3 l0 39)) (h3 (h3 l0 45) (h3 l0 39)) h3) fun r4 h5 =>
        qz_bc (fn_Md_noteCall l0 (h3 (h3 l0 46) (h3 l0 39)) r4 h5) fun _ h7 =>
        qz_bc (fn_Md_next l0 h7) fun _ h9 =>
        qz_ck ((1 : Int) = 0 ∨ (1 : Int) = 1) (some (1, h9))
      else
        qz_ck ((0 : Int) = 0 ∨ (0 : Int) = 1) (some (0, h2))
    else
      qz_bc (fn_Md_fail l0 1 h) fun r10 h11 =>
      qz_ck ((r10 : Int) = 0 ∨ (r10 : Int) = 1) (some (r10, h11))
  else
    qz_bc (fn_Md_open l0 h) fun r12 h13 =>
    if r12 = 0 then
      fn_Md_inFold_27 h13
    else
      qz_bc (fn_Md_fold l0 l1 h13) fun r14 h15 =>
      if r14 = 0 then
        fn_Md_inFold_27 h15
      else
        fn_Md_inFold_28 1 h15
def bk_Md_inFold_0 : List (Instr × Nat) := [(.aload_n 0, 1), (.getfield 231, 3), (.iconst 1, 1), (.if_icmp .ne 24, 3), (.aload_n 0, 1), (.invokevirtual 363, 3), (.ifCond .eq 15, 3), (.aload_n 0, 1), (.iload_n 1, 1), (.invokevirtual 366, 3), (.ifCond .eq 7, 3), (.iconst 1, 1), (.goto 4, 3)]
def bk_Md_inFold_29 : List (Instr × Nat) := [(.aload_n 0, 1), (.getfield 231, 3), (.iconst 2, 1), (.if_icmp .eq 9, 3), (.aload_n 0, 1), (.iconst 1, 1), (.invokevirtual 253, 3), (.ireturn, 1)]
def bk_Md_inFold_43 : List (Instr × Nat) := [(.aload_n 0, 1), (.invokevirtual 369, 3), (.ifCond .ne 5, 3), (.iconst 0, 1), (.ireturn, 1)]
def bk_Md_inFold_52 : List (Instr × Nat) := [(.aload_n 0, 1), (.dup, 1), (.getfield 297, 3), (.iconst 1, 1), (.isub, 1), (.putfield 297, 3), (.aload_n 0, 1), (.aload_n 0, 1), (.getfield 176, 3), (.aload_n 0, 1), (.getfield 297, 3), (.iaload, 1), (.aload_n 0, 1), (.aload_n 0, 1), (.getfield 157, 3), (.aload_n 0, 1), (.getfield 297, 3), (.iaload, 1), (.aload_n 0, 1), (.getfield 173, 3), (.aload_n 0, 1), (.getfield 297, 3), (.laload, 1), (.invokevirtual 372, 3), (.invokevirtual 376, 3), (.aload_n 0, 1), (.invokevirtual 256, 3), (.iconst 1, 1), (.ireturn, 1)]
def bk_Md_inFold_27 : List (Instr × Nat) := [(.iconst 0, 1)]
def bk_Md_inFold_28 : List (Instr × Nat) := [(.ireturn, 1)]
theorem ca_Md_inFold_0 : qz_ca yd_Md_inFold.2.1 0 bk_Md_inFold_0 := qz_cab_ok _ _ (by decide +kernel)
theorem ca_Md_inFold_29 : qz_ca yd_Md_inFold.2.1 29 bk_Md_inFold_29 := qz_cab_ok _ _ (by decide +kernel)
theorem ca_Md_inFold_43 : qz_ca yd_Md_inFold.2.1 43 bk_Md_inFold_43 := qz_cab_ok _ _ (by decide +kernel)
theorem ca_Md_inFold_52 : qz_ca yd_Md_inFold.2.1 52 bk_Md_inFold_52 := qz_cab_ok _ _ (by decide +kernel)
theorem ca_Md_inFold_27 : qz_ca yd_Md_inFold.2.1 27 bk_Md_inFold_27 := qz_cab_ok _ _ (by decide +kernel)
theorem ca_Md_inFold_28 : qz_ca yd_Md_inFold.2.1 28 bk_Md_inFold_28 := qz_cab_ok _ _ (by decide +kernel)
set_option maxRecDepth 20000 in
theorem jb_Md_inFold_28 (G : qz_G) (s0 : Int) (h : qz_H) : qz_J yd_Md_inFold G bk_Md_inFold_28 28 [qz_u, qz_u] [qz_i s0] h 0 0 (fn_Md_inFold_28 s0 h) := by
  unfold fn_Md_inFold_28 bk_Md_inFold_28; exact
    qz_zreturn ⟨rfl, rfl⟩ rfl
set_option maxRecDepth 20000 in
theorem jb_Md_inFold_27 (G : qz_G) (h : qz_H) : qz_J yd_Md_inFold G bk_Md_inFold_27 27 [qz_u, qz_u] [] h 0 0 (fn_Md_inFold_27 h) := by
  unfold fn_Md_inFold_27 bk_Md_inFold_27; exact
    qz_iconst rfl <|
    qz_fall rfl ca_Md_inFold_28 <|
    qz_fgt [0, 0] <| jb_Md_inFold_28 G 0 h
set_option maxRecDepth 20000 in
theorem cn_Md_inFold (l0 : Int) (l1 : Int) (h : qz_H) : qz_C yd_Md_inFold [qz_r true 12 l0, qz_i l1] h (fn_Md_inFold l0 l1 h) := by
  refine qz_con (is := bk_Md_inFold_0) (ls := [qz_r true 12 l0, qz_i l1]) mw_Md_inFold.2.2.2 ca_Md_inFold_0 rfl rfl rfl fun G => ?_
  unfold fn_Md_inFold bk_Md_inFold_0; exact
    qz_aload_n rfl <|
    qz_getI kg_12 fl_Md_231 rfl rfl <|
    qz_iconst rfl <|
    qz_icmp_ne rfl ca_Md_inFold_29
      (qz_aload_n rfl <|
        qz_getI kg_12 fl_Md_231 rfl rfl <|
        qz_iconst rfl <|
        qz_icmp_eq rfl ca_Md_inFold_43
          (qz_aload_n rfl <|
            qz_invvI [] rfl (cn_Md_hasRoom l0 h) mw_Md_hasRoom vw_Md_hasRoom ⟨_, rfl, rfl, by decide⟩ rfl rfl ln_Md_369 rfl fun r1 h2 =>
            qz_if_ne rfl ca_Md_inFold_52
              (qz_aload_n rfl <|
                qz_dup rfl <|
                qz_getI kg_12 fl_Md_297 rfl rfl <|
                qz_iconst rfl <|
                qz_isub <|
                qz_putI kw_12 fp_Md_297_Md_inFold rfl rfl fun h3 =>
                qz_aload_n rfl <|
                qz_aload_n rfl <|
                qz_getR (k1 := 40) kg_12 fl_Md_176 rfl rfl <|
                qz_aload_n rfl <|
                qz_getI kg_12 fl_Md_297 rfl rfl <|
                qz_nnd 1 rfl <|
                qz_iald (k0 := 40) rfl rfl rfl <|
                qz_aload_n rfl <|
                qz_aload_n rfl <|
                qz_getR (k1 := 40) kg_12 fl_Md_157 rfl rfl <|
                qz_aload_n rfl <|
                qz_getI kg_12 fl_Md_297 rfl rfl <|
                qz_nnd 1 rfl <|
                qz_iald (k0 := 40) rfl rfl rfl <|
                qz_aload_n rfl <|
                qz_getR (k1 := 41) kg_12 fl_Md_173 rfl rfl <|
                qz_aload_n rfl <|
                qz_getI kg_12 fl_Md_297 rfl rfl <|
                qz_nnd 1 rfl <|
                qz_lald (k0 := 41) rfl rfl rfl <|
                qz_invvI [qz_i (h3 (h3 l0 40) (h3 l0 39)), qz_j (h3 (h3 l0 45) (h3 l0 39))] rfl (cn_Md_emit l0 (h3 (h3 l0 40) (h3 l0 39)) (h3 (h3 l0 45) (h3 l0 39)) h3) mw_Md_emit vw_Md_emit ⟨_, rfl, rfl, by decide⟩ rfl rfl ln_Md_372 rfl fun r4 h5 =>
                qz_invvV [qz_i (h3 (h3 l0 46) (h3 l0 39)), qz_i r4] rfl (cn_Md_noteCall l0 (h3 (h3 l0 46) (h3 l0 39)) r4 h5) mw_Md_noteCall vw_Md_noteCall ⟨_, rfl, rfl, by decide⟩ rfl rfl ln_Md_376 rfl fun _ h7 =>
                qz_aload_n rfl <|
                qz_invvV [] rfl (cn_Md_next l0 h7) mw_Md_next vw_Md_next ⟨_, rfl, rfl, by decide⟩ rfl rfl ln_Md_256 rfl fun _ h9 =>
                qz_iconst rfl <|
                qz_zreturn ⟨rfl, rfl⟩ rfl)
              (qz_iconst rfl <|
                qz_zreturn ⟨rfl, rfl⟩ rfl))
          (qz_aload_n rfl <|
            qz_iconst rfl <|
            qz_invvI [qz_i 1] rfl (cn_Md_fail l0 1 h) mw_Md_fail vw_Md_fail ⟨_, rfl, rfl, by decide⟩ rfl rfl ln_Md_253 rfl fun r10 h11 =>
            qz_zreturn ⟨rfl, rfl⟩ rfl))
      (qz_aload_n rfl <|
        qz_invvI [] rfl (cn_Md_open l0 h) mw_Md_open vw_Md_open ⟨_, rfl, rfl, by decide⟩ rfl rfl ln_Md_363 rfl fun r12 h13 =>
        qz_if_eq rfl ca_Md_inFold_27
          (qz_fgt [0, 0] <| jb_Md_inFold_27 G h13)
          (qz_aload_n rfl <|
            qz_iload_n rfl <|
            qz_invvI [qz_i l1] rfl (cn_Md_fold l0 l1 h13) mw_Md_fold vw_Md_fold ⟨_, rfl, rfl, by decide⟩ rfl rfl ln_Md_366 rfl fun r14 h15 =>
            qz_if_eq rfl ca_Md_inFold_27
              (qz_fgt [0, 0] <| jb_Md_inFold_27 G h15)
              (qz_iconst rfl <|
                qz_goto rfl ca_Md_inFold_28 <|
                qz_fgt [0, 0] <| jb_Md_inFold_28 G 1 h15)))
def fn_Md_beginBlock_18 (l0 : Int) (h : qz_H) : Option qz_R :=
  qz_bc (fn_Md_fail l0 2 h) fun r1 h2 =>
  qz_ck ((r1 : Int) = 0 ∨ (r1 : Int) = 1) (some (r1, h2))
def fn_Md_beginBlock_200 (s0 : Int) (h : qz_H) : Option qz_R :=
  qz_ck ((s0 : Int) = 0 ∨ (s0 : Int) = 1) (some (s0, h))
def fn_Md_beginBlock_195 (h : qz_H) : Option qz_R :=
  fn_Md_beginBlock_200 1 h
def fn_Md_beginBlock_187 (l0 : Int) (h : qz_H) : Option qz_R :=
  qz_bc (fn_Md_fail l0 1 h) fun r1 h2 =>
  if r1 = 0 then
    fn_Md_beginBlock_200 0 h2
  else
    fn_Md_beginBlock_195 h2
def fn_Md_beginBlock_116 (l0 : Int) (l2 : Int) (l3 : Int) (h : qz_H) : Option qz_R :=
  if h l0 33 = 1 then
    qz_bc (fn_Md_open l0 h) fun r1 h2 =>
    if ¬ r1 = 0 then
      qz_bc (fn_Md_is l0 125780054338676 6 h2) fun r3 h4 =>
      if ¬ r3 = 0 then
        qz_bc (fn_Md_next l0 h4) fun _ h6 =>
        qz_bc (fn_Md_readType l0 h6) fun r7 h8 =>
        qz_ck ((h6 l0 22 : Int) ≠ 0) <|
        qz_ck (0 < h6 l0 22 ∧ (0 : Int) ≤ l3 ∧ l3 < h8 (h6 l0 22) (-1)) <|
        qz_bn (qz_up h8 (h6 l0 22) l3 r7) fun h9 =>
        qz_ck ((h9 l0 22 : Int) ≠ 0) <|
        qz_ck ((0 : Int) ≤ l3 ∧ l3 < h9 (h9 l0 22) (-1)) <|
        if qz_cmp (h9 (h9 l0 22) l3) 0 = 0 then
          fn_Md_beginBlock_187 l0 h9
        else
          qz_bc (fn_Md_pass l0 2 h9) fun r10 h11 =>
          if ¬ r10 = 0 then
            fn_Md_beginBlock_195 h11
          else
            fn_Md_beginBlock_187 l0 h11
      else
        qz_bc (fn_Md_fold l0 l2 h4) fun r12 h13 =>
        qz_ck ((r12 : Int) = 0 ∨ (r12 : Int) = 1) (some (r12, h13))
    else
      qz_ck ((0 : Int) = 0 ∨ (0 : Int) = 1) (some (0, h2))
  else
    qz_ck ((1 : Int) = 0 ∨ (1 : Int) = 1) (some (1, h))
set_option maxRecDepth 20000 in
def fn_Md_beginBlock (l0 : Int) (l1 : Int) (l2 : Int) (h : qz_H) : Option qz_R :=
  qz_bc (fn_Md_hasRoom l0 h) fun r1 h2 =>
  if r1 = 0 then
    fn_Md_beginBlock_18 l0 h2
  else
    if qz_w ((h2 l0 39) + 3) ≤ 12 then
      qz_bc (fn_Md_emit l0 l1 0 h2) fun r3 h4 =>
      qz_bn (r3 : Int) fun x5 =>
      qz_bn (h4 l0 39 : Int) fun x6 =>
      qz_ck ((h4 l0 41 : Int) ≠ 0) <|
      qz_ck (0 < h4 l0 41 ∧ (0 : Int) ≤ x6 ∧ x6 < h4 (h4 l0 41) (-1)) <|
      qz_bn (qz_up h4 (h4 l0 41) x6 (qz_nz 0)) fun h7 =>
      qz_ck ((h7 l0 42 : Int) ≠ 0) <|
      qz_ck (0 < h7 l0 42 ∧ (0 : Int) ≤ x6 ∧ x6 < h7 (h7 l0 42) (-1)) <|
      qz_bn (qz_up h7 (h7 l0 42) x6 (qz_nz 0)) fun h8 =>
      qz_ck ((h8 l0 40 : Int) ≠ 0) <|
      qz_ck (0 < h8 l0 40 ∧ (0 : Int) ≤ x6 ∧ x6 < h8 (h8 l0 40) (-1)) <|
      qz_bn (qz_up h8 (h8 l0 40) x6 l1) fun h9 =>
      qz_ck ((h9 l0 44 : Int) ≠ 0) <|
      qz_ck (0 < h9 l0 44 ∧ (0 : Int) ≤ x6 ∧ x6 < h9 (h9 l0 44) (-1)) <|
      qz_bn (qz_up h9 (h9 l0 44) x6 0) fun h10 =>
      qz_ck ((0 : Int) < l0) <|
      qz_bn (qz_up h10 l0 39 (qz_w ((h10 l0 39) + 1))) fun h11 =>
      qz_bc (fn_Md_next l0 h11) fun _ h13 =>
      qz_bc (fn_Md_isId l0 h13) fun r14 h15 =>
      if r14 = 0 then
        fn_Md_beginBlock_116 l0 l2 x5 h15
      else
        qz_ck ((h15 l0 43 : Int) ≠ 0) <|
        qz_ck (0 < h15 l0 43 ∧ (0 : Int) ≤ x6 ∧ x6 < h15 (h15 l0 43) (-1)) <|
        qz_bn (qz_up h15 (h15 l0 43) x6 (h15 l0 34)) fun h16 =>
        qz_ck ((h16 l0 44 : Int) ≠ 0) <|
        qz_ck (0 < h16 l0 44 ∧ (0 : Int) ≤ x6 ∧ x6 < h16 (h16 l0 44) (-1)) <|
        qz_bn (qz_up h16 (h16 l0 44) x6 (h16 l0 35)) fun h17 =>
        qz_bc (fn_Md_next l0 h17) fun _ h19 =>
        fn_Md_beginBlock_116 l0 l2 x5 h19
    else
      fn_Md_beginBlock_18 l0 h2
def bk_Md_beginBlock_0 : List (Instr × Nat) := [(.aload_n 0, 1), (.invokevirtual 369, 3), (.ifCond .eq 14, 3), (.aload_n 0, 1), (.getfield 297, 3), (.iconst 3, 1), (.iadd, 1), (.bipush 12, 2), (.if_icmp .le 9, 3)]
def bk_Md_beginBlock_18 : List (Instr × Nat) := [(.aload_n 0, 1), (.iconst 2, 1), (.invokevirtual 253, 3), (.ireturn, 1)]
def bk_Md_beginBlock_24 : List (Instr × Nat) := [(.aload_n 0, 1), (.iload_n 1, 1), (.lconst 0, 1), (.invokevirtual 372, 3), (.istore_n 3, 1), (.aload_n 0, 1), (.getfield 297, 3), (.istore 4, 2), (.aload_n 0, 1), (.getfield 160, 3), (.iload 4, 2), (.iconst 0, 1), (.bastore, 1), (.aload_n 0, 1), (.getfield 164, 3), (.iload 4, 2), (.iconst 0, 1), (.bastore, 1), (.aload_n 0, 1), (.getfield 157, 3), (.iload 4, 2), (.iload_n 1, 1), (.iastore, 1), (.aload_n 0, 1), (.getfield 170, 3), (.iload 4, 2), (.iconst 0, 1), (.iastore, 1), (.aload_n 0, 1), (.dup, 1), (.getfield 297, 3), (.iconst 1, 1), (.iadd, 1), (.putfield 297, 3), (.aload_n 0, 1), (.invokevirtual 256, 3), (.aload_n 0, 1), (.invokevirtual 284, 3), (.ifCond .eq 29, 3), (.aload_n 0, 1), (.getfield 167, 3), (.iload 4, 2), (.aload_n 0, 1), (.getfield 224, 3), (.iastore, 1), (.aload_n 0, 1), (.getfield 170, 3), (.iload 4, 2), (.aload_n 0, 1), (.getfield 247, 3), (.iastore, 1), (.aload_n 0, 1), (.invokevirtual 256, 3)]
def bk_Md_beginBlock_116 : List (Instr × Nat) := [(.aload_n 0, 1), (.getfield 231, 3), (.iconst 1, 1), (.if_icmp .eq 5, 3), (.iconst 1, 1), (.ireturn, 1)]
def bk_Md_beginBlock_126 : List (Instr × Nat) := [(.aload_n 0, 1), (.invokevirtual 363, 3), (.ifCond .ne 5, 3), (.iconst 0, 1), (.ireturn, 1)]
def bk_Md_beginBlock_135 : List (Instr × Nat) := [(.aload_n 0, 1), (.ldc2_w 328, 3), (.bipush 6, 2), (.invokevirtual 259, 3), (.ifCond .ne 9, 3), (.aload_n 0, 1), (.iload_n 2, 1), (.invokevirtual 366, 3), (.ireturn, 1)]
def bk_Md_beginBlock_153 : List (Instr × Nat) := [(.aload_n 0, 1), (.invokevirtual 256, 3), (.aload_n 0, 1), (.getfield 133, 3), (.iload_n 3, 1), (.aload_n 0, 1), (.invokevirtual 330, 3), (.i2l, 1), (.lastore, 1), (.aload_n 0, 1), (.getfield 133, 3), (.iload_n 3, 1), (.laload, 1), (.lconst 0, 1), (.lcmp, 1), (.ifCond .eq 11, 3), (.aload_n 0, 1), (.iconst 2, 1), (.invokevirtual 310, 3), (.ifCond .ne 11, 3)]
def bk_Md_beginBlock_187 : List (Instr × Nat) := [(.aload_n 0, 1), (.iconst 1, 1), (.invokevirtual 253, 3), (.ifCond .eq 7, 3)]
def bk_Md_beginBlock_195 : List (Instr × Nat) := [(.iconst 1, 1), (.goto 4, 3)]
def bk_Md_beginBlock_199 : List (Instr × Nat) := [(.iconst 0, 1)]
def bk_Md_beginBlock_200 : List (Instr × Nat) := [(.ireturn, 1)]
theorem ca_Md_beginBlock_0 : qz_ca yd_Md_beginBlock.2.1 0 bk_Md_beginBlock_0 := qz_cab_ok _ _ (by decide +kernel)
theorem ca_Md_beginBlock_18 : qz_ca yd_Md_beginBlock.2.1 18 bk_Md_beginBlock_18 := qz_cab_ok _ _ (by decide +kernel)
theorem ca_Md_beginBlock_24 : qz_ca yd_Md_beginBlock.2.1 24 bk_Md_beginBlock_24 := qz_cab_ok _ _ (by decide +kernel)
theorem ca_Md_beginBlock_116 : qz_ca yd_Md_beginBlock.2.1 116 bk_Md_beginBlock_116 := qz_cab_ok _ _ (by decide +kernel)
theorem ca_Md_beginBlock_126 : qz_ca yd_Md_beginBlock.2.1 126 bk_Md_beginBlock_126 := qz_cab_ok _ _ (by decide +kernel)
theorem ca_Md_beginBlock_135 : qz_ca yd_Md_beginBlock.2.1 135 bk_Md_beginBlock_135 := qz_cab_ok _ _ (by decide +kernel)
theorem ca_Md_beginBlock_153 : qz_ca yd_Md_beginBlock.2.1 153 bk_Md_beginBlock_153 := qz_cab_ok _ _ (by decide +kernel)
theorem ca_Md_beginBlock_187 : qz_ca yd_Md_beginBlock.2.1 187 bk_Md_beginBlock_187 := qz_cab_ok _ _ (by decide +kernel)
theorem ca_Md_beginBlock_195 : qz_ca yd_Md_beginBlock.2.1 195 bk_Md_beginBlock_195 := qz_cab_ok _ _ (by decide +kernel)
theorem ca_Md_beginBlock_199 : qz_ca yd_Md_beginBlock.2.1 199 bk_Md_beginBlock_199 := qz_cab_ok _ _ (by decide +kernel)
theorem ca_Md_beginBlock_200 : qz_ca yd_Md_beginBlock.2.1 200 bk_Md_beginBlock_200 := qz_cab_ok _ _ (by decide +kernel)
set_option maxRecDepth 20000 in
theorem jb_Md_beginBlock_18 (G : qz_G) (l0 : Int) (h : qz_H) : qz_J yd_Md_beginBlock G bk_Md_beginBlock_18 18 [qz_r true 12 l0, qz_u, qz_u, qz_u, qz_u] [] h 0 0 (fn_Md_beginBlock_18 l0 h) := by
  unfold fn_Md_beginBlock_18 bk_Md_beginBlock_18; exact
    qz_aload_n rfl <|
    qz_iconst rfl <|
    qz_invvI [qz_i 2] rfl (cn_Md_fail l0 2 h) mw_Md_fail vw_Md_fail ⟨_, rfl, rfl, by decide⟩ rfl rfl ln_Md_253 rfl fun r1 h2 =>
    qz_zreturn ⟨rfl, rfl⟩ rfl
set_option maxRecDepth 20000 in
theorem jb_Md_beginBlock_200 (G : qz_G) (s0 : Int) (h : qz_H) : qz_J yd_Md_beginBlock G bk_Md_beginBlock_200 200 [qz_u, qz_u, qz_u, qz_u, qz_u] [qz_i s0] h 0 0 (fn_Md_beginBlock_200 s0 h) := by
  unfold fn_Md_beginBlock_200 bk_Md_beginBlock_200; exact
    qz_zreturn ⟨rfl, rfl⟩ rfl
set_option maxRecDepth 20000 in
theorem jb_Md_beginBlock_195 (G : qz_G) (h : qz_H) : qz_J yd_Md_beginBlock G bk_Md_beginBlock_195 195 [qz_u, qz_u, qz_u, qz_u, qz_u] [] h 0 0 (fn_Md_beginBlock_195 h) := by
  unfold fn_Md_beginBlock_195 bk_Md_beginBlock_195; exact
    qz_iconst rfl <|
    qz_goto rfl ca_Md_beginBlock_200 <|
    qz_fgt [0, 0, 0, 0, 0] <| jb_Md_beginBlock_200 G 1 h
set_option maxRecDepth 20000 in
theorem jb_Md_beginBlock_187 (G : qz_G) (l0 : Int) (h : qz_H) : qz_J yd_Md_beginBlock G bk_Md_beginBlock_187 187 [qz_r true 12 l0, qz_u, qz_u, qz_u, qz_u] [] h 0 0 (fn_Md_beginBlock_187 l0 h) := by
  unfold fn_Md_beginBlock_187 bk_Md_beginBlock_187; exact
    qz_aload_n rfl <|
    qz_iconst rfl <|
    qz_invvI [qz_i 1] rfl (cn_Md_fail l0 1 h) mw_Md_fail vw_Md_fail ⟨_, rfl, rfl, by decide⟩ rfl rfl ln_Md_253 rfl fun r1 h2 =>
    qz_if_eq rfl ca_Md_beginBlock_199
      (qz_iconst rfl <|
        qz_fall rfl ca_Md_beginBlock_200 <|
        qz_fgt [0, 0, 0, 0, 0] <| jb_Md_beginBlock_200 G 0 h2)
      (qz_fall rfl ca_Md_beginBlock_195 <|
        qz_fgt [0, 0, 0, 0, 0] <| jb_Md_beginBlock_195 G h2)
set_option maxRecDepth 20000 in
theorem jb_Md_beginBlock_116 (G : qz_G) (l0 : Int) (l2 : Int) (l3 : Int) (h : qz_H) : qz_J yd_Md_beginBlock G bk_Md_beginBlock_116 116 [qz_r true 12 l0, qz_u, qz_i l2, qz_i l3, qz_u] [] h 0 0 (fn_Md_beginBlock_116 l0 l2 l3 h) := by
  unfold fn_Md_beginBlock_116 bk_Md_beginBlock_116; exact
    qz_aload_n rfl <|
    qz_getI kg_12 fl_Md_231 rfl rfl <|
    qz_iconst rfl <|
    qz_icmp_eq rfl ca_Md_beginBlock_126
      (qz_aload_n rfl <|
        qz_invvI [] rfl (cn_Md_open l0 h) mw_Md_open vw_Md_open ⟨_, rfl, rfl, by decide⟩ rfl rfl ln_Md_363 rfl fun r1 h2 =>
        qz_if_ne rfl ca_Md_beginBlock_135
          (qz_aload_n rfl <|
            qz_ldc2 wc_Md_328 rfl <|
            qz_bipush rfl <|
            qz_invvI [qz_j 125780054338676, qz_i 6] rfl (cn_Md_is l0 125780054338676 6 h2) mw_Md_is vw_Md_is ⟨_, rfl, rfl, by decide⟩ rfl rfl ln_Md_259 rfl fun r3 h4 =>
            qz_if_ne rfl ca_Md_beginBlock_153
              (qz_aload_n rfl <|
                qz_invvV [] rfl (cn_Md_next l0 h4) mw_Md_next vw_Md_next ⟨_, rfl, rfl, by decide⟩ rfl rfl ln_Md_256 rfl fun _ h6 =>
                qz_aload_n rfl <|
                qz_getR (k1 := 41) kg_12 fl_Md_133 rfl rfl <|
                qz_iload_n rfl <|
                qz_aload_n rfl <|
                qz_invvI [] rfl (cn_Md_readType l0 h6) mw_Md_readType vw_Md_readType ⟨_, rfl, rfl, by decide⟩ rfl rfl ln_Md_330 rfl fun r7 h8 =>
                qz_i2l <|
                qz_nnd 2 rfl <|
                qz_last rfl rfl rfl fun h9 =>
                qz_aload_n rfl <|
                qz_getR (k1 := 41) kg_12 fl_Md_133 rfl rfl <|
                qz_iload_n rfl <|
                qz_nnd 1 rfl <|
                qz_lald (k0 := 41) rfl rfl rfl <|
                qz_lconst rfl <|
                qz_lcmp <|
                qz_if_eq rfl ca_Md_beginBlock_187
                  (qz_fgt [1, 0, 0, 0, 0] <| jb_Md_beginBlock_187 G l0 h9)
                  (qz_aload_n rfl <|
                    qz_iconst rfl <|
                    qz_invvI [qz_i 2] rfl (cn_Md_pass l0 2 h9) mw_Md_pass vw_Md_pass ⟨_, rfl, rfl, by decide⟩ rfl rfl ln_Md_310 rfl fun r10 h11 =>
                    qz_if_ne rfl ca_Md_beginBlock_195
                      (qz_fgt [0, 0, 0, 0, 0] <| jb_Md_beginBlock_195 G h11)
                      (qz_fall rfl ca_Md_beginBlock_187 <|
                        qz_fgt [1, 0, 0, 0, 0] <| jb_Md_beginBlock_187 G l0 h11)))
              (qz_aload_n rfl <|
                qz_iload_n rfl <|
                qz_invvI [qz_i l2] rfl (cn_Md_fold l0 l2 h4) mw_Md_fold vw_Md_fold ⟨_, rfl, rfl, by decide⟩ rfl rfl ln_Md_366 rfl fun r12 h13 =>
                qz_zreturn ⟨rfl, rfl⟩ rfl))
          (qz_iconst rfl <|
            qz_zreturn ⟨rfl, rfl⟩ rfl))
      (qz_iconst rfl <|
        qz_zreturn ⟨rfl, rfl⟩ rfl)
set_option maxRecDepth 20000 in
theorem cn_Md_beginBlock (l0 : Int) (l1 : Int) (l2 : Int) (h : qz_H) : qz_C yd_Md_beginBlock [qz_r true 12 l0, qz_i l1, qz_i l2] h (fn_Md_beginBlock l0 l1 l2 h) := by
  refine qz_con (is := bk_Md_beginBlock_0) (ls := [qz_r true 12 l0, qz_i l1, qz_i l2, qz_u, qz_u]) mw_Md_beginBlock.2.2.2 ca_Md_beginBlock_0 rfl rfl rfl fun G => ?_
  unfold fn_Md_beginBlock bk_Md_beginBlock_0; exact
    qz_aload_n rfl <|
    qz_invvI [] rfl (cn_Md_hasRoom l0 h) mw_Md_hasRoom vw_Md_hasRoom ⟨_, rfl, rfl, by decide⟩ rfl rfl ln_Md_369 rfl fun r1 h2 =>
    qz_if_eq rfl ca_Md_beginBlock_18
      (qz_fgt [1, 0, 0, 0, 0] <| jb_Md_beginBlock_18 G l0 h2)
      (qz_aload_n rfl <|
        qz_getI kg_12 fl_Md_297 rfl rfl <|
        qz_iconst rfl <|
        qz_iadd <|
        qz_bipush rfl <|
        qz_icmp_le rfl ca_Md_beginBlock_24
          (qz_aload_n rfl <|
            qz_iload_n rfl <|
            qz_lconst rfl <|
            qz_invvI [qz_i l1, qz_j 0] rfl (cn_Md_emit l0 l1 0 h2) mw_Md_emit vw_Md_emit ⟨_, rfl, rfl, by decide⟩ rfl rfl ln_Md_372 rfl fun r3 h4 =>
            qz_istore_n (by decide) fun x5 =>
            qz_aload_n rfl <|
            qz_getI kg_12 fl_Md_297 rfl rfl <|
            qz_istore (by decide) fun x6 =>
            qz_aload_n rfl <|
            qz_getR (k1 := 44) kg_12 fl_Md_160 rfl rfl <|
            qz_iload rfl <|
            qz_iconst rfl <|
            qz_nnd 2 rfl <|
            qz_zast rfl rfl rfl fun h7 =>
            qz_aload_n rfl <|
            qz_getR (k1 := 44) kg_12 fl_Md_164 rfl rfl <|
            qz_iload rfl <|
            qz_iconst rfl <|
            qz_nnd 2 rfl <|
            qz_zast rfl rfl rfl fun h8 =>
            qz_aload_n rfl <|
            qz_getR (k1 := 40) kg_12 fl_Md_157 rfl rfl <|
            qz_iload rfl <|
            qz_iload_n rfl <|
            qz_nnd 2 rfl <|
            qz_iast rfl rfl rfl fun h9 =>
            qz_aload_n rfl <|
            qz_getR (k1 := 40) kg_12 fl_Md_170 rfl rfl <|
            qz_iload rfl <|
            qz_iconst rfl <|
            qz_nnd 2 rfl <|
            qz_iast rfl rfl rfl fun h10 =>
            qz_aload_n rfl <|
            qz_dup rfl <|
            qz_getI kg_12 fl_Md_297 rfl rfl <|
            qz_iconst rfl <|
            qz_iadd <|
            qz_putI kw_12 fp_Md_297_Md_beginBlock rfl rfl fun h11 =>
            qz_aload_n rfl <|
            qz_invvV [] rfl (cn_Md_next l0 h11) mw_Md_next vw_Md_next ⟨_, rfl, rfl, by decide⟩ rfl rfl ln_Md_256 rfl fun _ h13 =>
            qz_aload_n rfl <|
            qz_invvI [] rfl (cn_Md_isId l0 h13) mw_Md_isId vw_Md_isId ⟨_, rfl, rfl, by decide⟩ rfl rfl ln_Md_284 rfl fun r14 h15 =>
            qz_if_eq rfl ca_Md_beginBlock_116
              (qz_fgt [1, 0, 1, 1, 0] <| jb_Md_beginBlock_116 G l0 l2 x5 h15)
              (qz_aload_n rfl <|
                qz_getR (k1 := 40) kg_12 fl_Md_167 rfl rfl <|
                qz_iload rfl <|
                qz_aload_n rfl <|
                qz_getI kg_12 fl_Md_224 rfl rfl <|
                qz_nnd 2 rfl <|
                qz_iast rfl rfl rfl fun h16 =>
                qz_aload_n rfl <|
                qz_getR (k1 := 40) kg_12 fl_Md_170 rfl rfl <|
                qz_iload rfl <|
                qz_aload_n rfl <|
                qz_getI kg_12 fl_Md_247 rfl rfl <|
                qz_nnd 2 rfl <|
                qz_iast rfl rfl rfl fun h17 =>
                qz_aload_n rfl <|
                qz_invvV [] rfl (cn_Md_next l0 h17) mw_Md_next vw_Md_next ⟨_, rfl, rfl, by decide⟩ rfl rfl ln_Md_256 rfl fun _ h19 =>
                qz_fall rfl ca_Md_beginBlock_116 <|
                qz_fgt [1, 0, 1, 1, 0] <| jb_Md_beginBlock_116 G l0 l2 x5 h19))
          (qz_fall rfl ca_Md_beginBlock_18 <|
            qz_fgt [1, 0, 0, 0, 0] <| jb_Md_beginBlock_18 G l0 h2))
def fn_Md_blockName_45 (l0 : Int) (h : qz_H) : Option qz_R :=
  qz_bc (fn_Md_fail l0 1 h) fun r1 h2 =>
  qz_ck ((r1 : Int) = 0 ∨ (r1 : Int) = 1) (some (r1, h2))
set_option maxRecDepth 20000 in
def fn_Md_blockName (l0 : Int) (l1 : Int) (h : qz_H) : Option qz_R :=
  qz_bc (fn_Md_isId l0 h) fun r1 h2 =>
  if ¬ r1 = 0 then
    qz_ck ((h2 l0 44 : Int) ≠ 0) <|
    qz_ck ((0 : Int) ≤ l1 ∧ l1 < h2 (h2 l0 44) (-1)) <|
    if h2 (h2 l0 44) l1 = 0 then
      fn_Md_blockName_45 l0 h2
    else
      qz_ck ((h2 l0 43 : Int) ≠ 0) <|
      qz_ck ((0 : Int) ≤ l1 ∧ l1 < h2 (h2 l0 43) (-1)) <|
      qz_ck ((h2 l0 44 : Int) ≠ 0) <|
      qz_ck ((0 : Int) ≤ l1 ∧ l1 < h2 (h2 l0 44) (-1)) <|
      qz_bc (fn_Md_sameName l0 (h2 (h2 l0 43) l1) (h2 (h2 l0 44) l1) (h2 l0 34) (h2 l0 35) h2) fun r3 h4 =>
      if ¬ r3 = 0 then
        qz_bc (fn_Md_next l0 h4) fun _ h6 =>
        qz_ck ((1 : Int) = 0 ∨ (1 : Int) = 1) (some (1, h6))
      else
        fn_Md_blockName_45 l0 h4
  else
    qz_ck ((1 : Int) = 0 ∨ (1 : Int) = 1) (some (1, h2))
def bk_Md_blockName_0 : List (Instr × Nat) := [(.aload_n 0, 1), (.invokevirtual 284, 3), (.ifCond .ne 5, 3), (.iconst 1, 1), (.ireturn, 1)]
def bk_Md_blockName_9 : List (Instr × Nat) := [(.aload_n 0, 1), (.getfield 170, 3), (.iload_n 1, 1), (.iaload, 1), (.ifCond .eq 30, 3), (.aload_n 0, 1), (.aload_n 0, 1), (.getfield 167, 3), (.iload_n 1, 1), (.iaload, 1), (.aload_n 0, 1), (.getfield 170, 3), (.iload_n 1, 1), (.iaload, 1), (.aload_n 0, 1), (.getfield 224, 3), (.aload_n 0, 1), (.getfield 247, 3), (.invokevirtual 300, 3), (.ifCond .ne 9, 3)]
def bk_Md_blockName_45 : List (Instr × Nat) := [(.aload_n 0, 1), (.iconst 1, 1), (.invokevirtual 253, 3), (.ireturn, 1)]
def bk_Md_blockName_51 : List (Instr × Nat) := [(.aload_n 0, 1), (.invokevirtual 256, 3), (.iconst 1, 1), (.ireturn, 1)]
theorem ca_Md_blockName_0 : qz_ca yd_Md_blockName.2.1 0 bk_Md_blockName_0 := qz_cab_ok _ _ (by decide +kernel)
theorem ca_Md_blockName_9 : qz_ca yd_Md_blockName.2.1 9 bk_Md_blockName_9 := qz_cab_ok _ _ (by decide +kernel)
theorem ca_Md_blockName_45 : qz_ca yd_Md_blockName.2.1 45 bk_Md_blockName_45 := qz_cab_ok _ _ (by decide +kernel)
theorem ca_Md_blockName_51 : qz_ca yd_Md_blockName.2.1 51 bk_Md_blockName_51 := qz_cab_ok _ _ (by decide +kernel)
set_option maxRecDepth 20000 in
theorem jb_Md_blockName_45 (G : qz_G) (l0 : Int) (h : qz_H) : qz_J yd_Md_blockName G bk_Md_blockName_45 45 [qz_r true 12 l0, qz_u] [] h 0 0 (fn_Md_blockName_45 l0 h) := by
  unfold fn_Md_blockName_45 bk_Md_blockName_45; exact
    qz_aload_n rfl <|
    qz_iconst rfl <|
    qz_invvI [qz_i 1] rfl (cn_Md_fail l0 1 h) mw_Md_fail vw_Md_fail ⟨_, rfl, rfl, by decide⟩ rfl rfl ln_Md_253 rfl fun r1 h2 =>
    qz_zreturn ⟨rfl, rfl⟩ rfl
set_option maxRecDepth 20000 in
theorem cn_Md_blockName (l0 : Int) (l1 : Int) (h : qz_H) : qz_C yd_Md_blockName [qz_r true 12 l0, qz_i l1] h (fn_Md_blockName l0 l1 h) := by
  refine qz_con (is := bk_Md_blockName_0) (ls := [qz_r true 12 l0, qz_i l1]) mw_Md_blockName.2.2.2 ca_Md_blockName_0 rfl rfl rfl fun G => ?_
  unfold fn_Md_blockName bk_Md_blockName_0; exact
    qz_aload_n rfl <|
    qz_invvI [] rfl (cn_Md_isId l0 h) mw_Md_isId vw_Md_isId ⟨_, rfl, rfl, by decide⟩ rfl rfl ln_Md_284 rfl fun r1 h2 =>
    qz_if_ne rfl ca_Md_blockName_9
      (qz_aload_n rfl <|
        qz_getR (k1 := 40) kg_12 fl_Md_170 rfl rfl <|
        qz_iload_n rfl <|
        qz_nnd 1 rfl <|
        qz_iald (k0 := 40) rfl rfl rfl <|
        qz_if_eq rfl ca_Md_blockName_45
          (qz_fgt [1, 0] <| jb_Md_blockName_45 G l0 h2)
          (qz_aload_n rfl <|
            qz_aload_n rfl <|
            qz_getR (k1 := 40) kg_12 fl_Md_167 rfl rfl <|
            qz_iload_n rfl <|
            qz_nnd 1 rfl <|
            qz_iald (k0 := 40) rfl rfl rfl <|
            qz_aload_n rfl <|
            qz_getR (k1 := 40) kg_12 fl_Md_170 rfl rfl <|
            qz_iload_n rfl <|
            qz_nnd 1 rfl <|
            qz_iald (k0 := 40) rfl rfl rfl <|
            qz_aload_n rfl <|
            qz_getI kg_12 fl_Md_224 rfl rfl <|
            qz_aload_n rfl <|
            qz_getI kg_12 fl_Md_247 rfl rfl <|
            qz_invvI [qz_i (h2 (h2 l0 43) l1), qz_i (h2 (h2 l0 44) l1), qz_i (h2 l0 34), qz_i (h2 l0 35)] rfl (cn_Md_sameName l0 (h2 (h2 l0 43) l1) (h2 (h2 l0 44) l1) (h2 l0 34) (h2 l0 35) h2) mw_Md_sameName vw_Md_sameName ⟨_, rfl, rfl, by decide⟩ rfl rfl ln_Md_300 rfl fun r3 h4 =>
            qz_if_ne rfl ca_Md_blockName_51
              (qz_aload_n rfl <|
                qz_invvV [] rfl (cn_Md_next l0 h4) mw_Md_next vw_Md_next ⟨_, rfl, rfl, by decide⟩ rfl rfl ln_Md_256 rfl fun _ h6 =>
                qz_iconst rfl <|
                qz_zreturn ⟨rfl, rfl⟩ rfl)
              (qz_fall rfl ca_Md_blockName_45 <|
                qz_fgt [1, 0] <| jb_Md_blockName_45 G l0 h4)))
      (qz_iconst rfl <|
        qz_zreturn ⟨rfl, rfl⟩ rfl)
def fn_Md_turnBlock_104 (l0 : Int) (l2 : Int) (s0 : Int) (s1 : Int) (h : qz_H) : Option qz_R :=
  qz_ck ((0 : Int) < s0) <|
  qz_bn (qz_up h s0 39 s1) fun h1 =>
  qz_bc (fn_Md_blockName l0 l2 h1) fun r2 h3 =>
  qz_ck ((r2 : Int) = 0 ∨ (r2 : Int) = 1) (some (r2, h3))
def fn_Md_turnBlock_50 (l0 : Int) (l1 : Int) (l2 : Int) (s0 : Int) (h : qz_H) : Option qz_R :=
  qz_bn (s0 : Int) fun x1 =>
  if ¬ x1 = 0 then
    qz_bc (fn_Md_hasRoom l0 h) fun r2 h3 =>
    if ¬ r2 = 0 then
      qz_bc (fn_Md_emit l0 l1 0 h3) fun r4 h5 =>
      qz_bn (r4 : Int) fun x6 =>
      qz_bc (fn_Md_next l0 h5) fun _ h8 =>
      qz_ck ((h8 l0 42 : Int) ≠ 0) <|
      qz_ck (0 < h8 l0 42 ∧ (0 : Int) ≤ l2 ∧ l2 < h8 (h8 l0 42) (-1)) <|
      qz_bn (qz_up h8 (h8 l0 42) l2 (qz_nz 1)) fun h9 =>
      if ¬ l1 = 11 then
        fn_Md_turnBlock_104 l0 l2 l0 (h9 l0 39) h9
      else
        fn_Md_turnBlock_104 l0 l2 l0 l2 h9
    else
      qz_ck ((0 : Int) = 0 ∨ (0 : Int) = 1) (some (0, h3))
  else
    qz_bc (fn_Md_fail l0 1 h) fun r10 h11 =>
    qz_ck ((r10 : Int) = 0 ∨ (r10 : Int) = 1) (some (r10, h11))
def fn_Md_turnBlock_49 (l0 : Int) (l1 : Int) (l2 : Int) (h : qz_H) : Option qz_R :=
  fn_Md_turnBlock_50 l0 l1 l2 0 h
def fn_Md_turnBlock_45 (l0 : Int) (l1 : Int) (l2 : Int) (h : qz_H) : Option qz_R :=
  fn_Md_turnBlock_50 l0 l1 l2 1 h
set_option maxRecDepth 20000 in
def fn_Md_turnBlock (l0 : Int) (l1 : Int) (h : qz_H) : Option qz_R :=
  qz_bn (qz_w ((h l0 39) - 1) : Int) fun x1 =>
  if x1 < 0 then
    fn_Md_turnBlock_49 l0 l1 x1 h
  else
    qz_ck ((h l0 41 : Int) ≠ 0) <|
    qz_ck ((0 : Int) ≤ x1 ∧ x1 < h (h l0 41) (-1)) <|
    if ¬ h (h l0 41) x1 = 0 then
      fn_Md_turnBlock_49 l0 l1 x1 h
    else
      if l1 = 11 then
        fn_Md_turnBlock_45 l0 l1 x1 h
      else
        qz_ck ((h l0 40 : Int) ≠ 0) <|
        qz_ck ((0 : Int) ≤ x1 ∧ x1 < h (h l0 40) (-1)) <|
        if ¬ h (h l0 40) x1 = 4 then
          fn_Md_turnBlock_49 l0 l1 x1 h
        else
          qz_ck ((h l0 42 : Int) ≠ 0) <|
          qz_ck ((0 : Int) ≤ x1 ∧ x1 < h (h l0 42) (-1)) <|
          if ¬ h (h l0 42) x1 = 0 then
            fn_Md_turnBlock_49 l0 l1 x1 h
          else
            fn_Md_turnBlock_45 l0 l1 x1 h
def bk_Md_turnBlock_0 : List (Instr × Nat) := [(.aload_n 0, 1), (.getfield 297, 3), (.iconst 1, 1), (.isub, 1), (.istore_n 2, 1), (.iload_n 2, 1), (.ifCond .lt 41, 3), (.aload_n 0, 1), (.getfield 160, 3), (.iload_n 2, 1), (.baload, 1), (.ifCond .ne 32, 3), (.iload_n 1, 1), (.bipush 11, 2), (.if_icmp .eq 22, 3), (.aload_n 0, 1), (.getfield 157, 3), (.iload_n 2, 1), (.iaload, 1), (.iconst 4, 1), (.if_icmp .ne 16, 3), (.aload_n 0, 1), (.getfield 164, 3), (.iload_n 2, 1), (.baload, 1), (.ifCond .ne 7, 3)]
def bk_Md_turnBlock_49 : List (Instr × Nat) := [(.iconst 0, 1)]
def bk_Md_turnBlock_45 : List (Instr × Nat) := [(.iconst 1, 1), (.goto 4, 3)]
def bk_Md_turnBlock_50 : List (Instr × Nat) := [(.istore_n 3, 1), (.iload_n 3, 1), (.ifCond .ne 9, 3), (.aload_n 0, 1), (.iconst 1, 1), (.invokevirtual 253, 3), (.ireturn, 1)]
def bk_Md_turnBlock_61 : List (Instr × Nat) := [(.aload_n 0, 1), (.invokevirtual 369, 3), (.ifCond .ne 5, 3), (.iconst 0, 1), (.ireturn, 1)]
def bk_Md_turnBlock_70 : List (Instr × Nat) := [(.aload_n 0, 1), (.iload_n 1, 1), (.lconst 0, 1), (.invokevirtual 372, 3), (.istore 4, 2), (.aload_n 0, 1), (.invokevirtual 256, 3), (.aload_n 0, 1), (.getfield 164, 3), (.iload_n 2, 1), (.iconst 1, 1), (.bastore, 1), (.aload_n 0, 1), (.iload_n 1, 1), (.bipush 11, 2), (.if_icmp .ne 7, 3), (.iload_n 2, 1), (.goto 7, 3)]
def bk_Md_turnBlock_100 : List (Instr × Nat) := [(.aload_n 0, 1), (.getfield 297, 3)]
def bk_Md_turnBlock_104 : List (Instr × Nat) := [(.putfield 297, 3), (.aload_n 0, 1), (.iload_n 2, 1), (.invokevirtual 380, 3), (.ireturn, 1)]
theorem ca_Md_turnBlock_0 : qz_ca yd_Md_turnBlock.2.1 0 bk_Md_turnBlock_0 := qz_cab_ok _ _ (by decide +kernel)
theorem ca_Md_turnBlock_49 : qz_ca yd_Md_turnBlock.2.1 49 bk_Md_turnBlock_49 := qz_cab_ok _ _ (by decide +kernel)
theorem ca_Md_turnBlock_45 : qz_ca yd_Md_turnBlock.2.1 45 bk_Md_turnBlock_45 := qz_cab_ok _ _ (by decide +kernel)
theorem ca_Md_turnBlock_50 : qz_ca yd_Md_turnBlock.2.1 50 bk_Md_turnBlock_50 := qz_cab_ok _ _ (by decide +kernel)
theorem ca_Md_turnBlock_61 : qz_ca yd_Md_turnBlock.2.1 61 bk_Md_turnBlock_61 := qz_cab_ok _ _ (by decide +kernel)
theorem ca_Md_turnBlock_70 : qz_ca yd_Md_turnBlock.2.1 70 bk_Md_turnBlock_70 := qz_cab_ok _ _ (by decide +kernel)
theorem ca_Md_turnBlock_100 : qz_ca yd_Md_turnBlock.2.1 100 bk_Md_turnBlock_100 := qz_cab_ok _ _ (by decide +kernel)
theorem ca_Md_turnBlock_104 : qz_ca yd_Md_turnBlock.2.1 104 bk_Md_turnBlock_104 := qz_cab_ok _ _ (by decide +kernel)
set_option maxRecDepth 20000 in
theorem jb_Md_turnBlock_104 (G : qz_G) (l0 : Int) (l2 : Int) (s0 : Int) (s1 : Int) (h : qz_H) : qz_J yd_Md_turnBlock G bk_Md_turnBlock_104 104 [qz_r true 12 l0, qz_u, qz_i l2, qz_u, qz_u] [qz_i s1, qz_r true 12 s0] h 0 0 (fn_Md_turnBlock_104 l0 l2 s0 s1 h) := by
  unfold fn_Md_turnBlock_104 bk_Md_turnBlock_104; exact
    qz_putI kw_12 fp_Md_297_Md_turnBlock rfl rfl fun h1 =>
    qz_aload_n rfl <|
    qz_iload_n rfl <|
    qz_invvI [qz_i l2] rfl (cn_Md_blockName l0 l2 h1) mw_Md_blockName vw_Md_blockName ⟨_, rfl, rfl, by decide⟩ rfl rfl ln_Md_380 rfl fun r2 h3 =>
    qz_zreturn ⟨rfl, rfl⟩ rfl
set_option maxRecDepth 20000 in
theorem jb_Md_turnBlock_50 (G : qz_G) (l0 : Int) (l1 : Int) (l2 : Int) (s0 : Int) (h : qz_H) : qz_J yd_Md_turnBlock G bk_Md_turnBlock_50 50 [qz_r true 12 l0, qz_i l1, qz_i l2, qz_u, qz_u] [qz_i s0] h 0 0 (fn_Md_turnBlock_50 l0 l1 l2 s0 h) := by
  unfold fn_Md_turnBlock_50 bk_Md_turnBlock_50; exact
    qz_istore_n (by decide) fun x1 =>
    qz_iload_n rfl <|
    qz_if_ne rfl ca_Md_turnBlock_61
      (qz_aload_n rfl <|
        qz_invvI [] rfl (cn_Md_hasRoom l0 h) mw_Md_hasRoom vw_Md_hasRoom ⟨_, rfl, rfl, by decide⟩ rfl rfl ln_Md_369 rfl fun r2 h3 =>
        qz_if_ne rfl ca_Md_turnBlock_70
          (qz_aload_n rfl <|
            qz_iload_n rfl <|
            qz_lconst rfl <|
            qz_invvI [qz_i l1, qz_j 0] rfl (cn_Md_emit l0 l1 0 h3) mw_Md_emit vw_Md_emit ⟨_, rfl, rfl, by decide⟩ rfl rfl ln_Md_372 rfl fun r4 h5 =>
            qz_istore (by decide) fun x6 =>
            qz_aload_n rfl <|
            qz_invvV [] rfl (cn_Md_next l0 h5) mw_Md_next vw_Md_next ⟨_, rfl, rfl, by decide⟩ rfl rfl ln_Md_256 rfl fun _ h8 =>
            qz_aload_n rfl <|
            qz_getR (k1 := 44) kg_12 fl_Md_164 rfl rfl <|
            qz_iload_n rfl <|
            qz_iconst rfl <|
            qz_nnd 2 rfl <|
            qz_zast rfl rfl rfl fun h9 =>
            qz_aload_n rfl <|
            qz_iload_n rfl <|
            qz_bipush rfl <|
            qz_icmp_ne rfl ca_Md_turnBlock_100
              (qz_aload_n rfl <|
                qz_getI kg_12 fl_Md_297 rfl rfl <|
                qz_fall rfl ca_Md_turnBlock_104 <|
                qz_fgt [1, 0, 1, 0, 0] <| jb_Md_turnBlock_104 G l0 l2 l0 (h9 l0 39) h9)
              (qz_iload_n rfl <|
                qz_goto rfl ca_Md_turnBlock_104 <|
                qz_fgt [1, 0, 1, 0, 0] <| jb_Md_turnBlock_104 G l0 l2 l0 l2 h9))
          (qz_iconst rfl <|
            qz_zreturn ⟨rfl, rfl⟩ rfl))
      (qz_aload_n rfl <|
        qz_iconst rfl <|
        qz_invvI [qz_i 1] rfl (cn_Md_fail l0 1 h) mw_Md_fail vw_Md_fail ⟨_, rfl, rfl, by decide⟩ rfl rfl ln_Md_253 rfl fun r10 h11 =>
        qz_zreturn ⟨rfl, rfl⟩ rfl)
set_option maxRecDepth 20000 in
theorem jb_Md_turnBlock_49 (G : qz_G) (l0 : Int) (l1 : Int) (l2 : Int) (h : qz_H) : qz_J yd_Md_turnBlock G bk_Md_turnBlock_49 49 [qz_r true 12 l0, qz_i l1, qz_i l2, qz_u, qz_u] [] h 0 0 (fn_Md_turnBlock_49 l0 l1 l2 h) := by
  unfold fn_Md_turnBlock_49 bk_Md_turnBlock_49; exact
    qz_iconst rfl <|
    qz_fall rfl ca_Md_turnBlock_50 <|
    qz_fgt [1, 1, 1, 0, 0] <| jb_Md_turnBlock_50 G l0 l1 l2 0 h
set_option maxRecDepth 20000 in
theorem jb_Md_turnBlock_45 (G : qz_G) (l0 : Int) (l1 : Int) (l2 : Int) (h : qz_H) : qz_J yd_Md_turnBlock G bk_Md_turnBlock_45 45 [qz_r true 12 l0, qz_i l1, qz_i l2, qz_u, qz_u] [] h 0 0 (fn_Md_turnBlock_45 l0 l1 l2 h) := by
  unfold fn_Md_turnBlock_45 bk_Md_turnBlock_45; exact
    qz_iconst rfl <|
    qz_goto rfl ca_Md_turnBlock_50 <|
    qz_fgt [1, 1, 1, 0, 0] <| jb_Md_turnBlock_50 G l0 l1 l2 1 h
set_option maxRecDepth 20000 in
theorem cn_Md_turnBlock (l0 : Int) (l1 : Int) (h : qz_H) : qz_C yd_Md_turnBlock [qz_r true 12 l0, qz_i l1] h (fn_Md_turnBlock l0 l1 h) := by
  refine qz_con (is := bk_Md_turnBlock_0) (ls := [qz_r true 12 l0, qz_i l1, qz_u, qz_u, qz_u]) mw_Md_turnBlock.2.2.2 ca_Md_turnBlock_0 rfl rfl rfl fun G => ?_
  unfold fn_Md_turnBlock bk_Md_turnBlock_0; exact
    qz_aload_n rfl <|
    qz_getI kg_12 fl_Md_297 rfl rfl <|
    qz_iconst rfl <|
    qz_isub <|
    qz_istore_n (by decide) fun x1 =>
    qz_iload_n rfl <|
    qz_if_lt rfl ca_Md_turnBlock_49
      (qz_fgt [1, 1, 1, 0, 0] <| jb_Md_turnBlock_49 G l0 l1 x1 h)
      (qz_aload_n rfl <|
        qz_getR (k1 := 44) kg_12 fl_Md_160 rfl rfl <|
        qz_iload_n rfl <|
        qz_nnd 1 rfl <|
        qz_zald (k0 := 44) rfl rfl rfl <|
        qz_if_ne rfl ca_Md_turnBlock_49
          (qz_fgt [1, 1, 1, 0, 0] <| jb_Md_turnBlock_49 G l0 l1 x1 h)
          (qz_iload_n rfl <|
            qz_bipush rfl <|
            qz_icmp_eq rfl ca_Md_turnBlock_45
              (qz_fgt [1, 1, 1, 0, 0] <| jb_Md_turnBlock_45 G l0 l1 x1 h)
              (qz_aload_n rfl <|
                qz_getR (k1 := 40) kg_12 fl_Md_157 rfl rfl <|
                qz_iload_n rfl <|
                qz_nnd 1 rfl <|
                qz_iald (k0 := 40) rfl rfl rfl <|
                qz_iconst rfl <|
                qz_icmp_ne rfl ca_Md_turnBlock_49
                  (qz_fgt [1, 1, 1, 0, 0] <| jb_Md_turnBlock_49 G l0 l1 x1 h)
                  (qz_aload_n rfl <|
                    qz_getR (k1 := 44) kg_12 fl_Md_164 rfl rfl <|
                    qz_iload_n rfl <|
                    qz_nnd 1 rfl <|
                    qz_zald (k0 := 44) rfl rfl rfl <|
                    qz_if_ne rfl ca_Md_turnBlock_49
                      (qz_fgt [1, 1, 1, 0, 0] <| jb_Md_turnBlock_49 G l0 l1 x1 h)
                      (qz_fall rfl ca_Md_turnBlock_45 <|
                        qz_fgt [1, 1, 1, 0, 0] <| jb_Md_turnBlock_45 G l0 l1 x1 h)))))
def fn_Md_readInstruction_68 (h : qz_H) : Option qz_R :=
  qz_ck ((0 : Int) = 0 ∨ (0 : Int) = 1) (some (0, h))
def fn_Md_readInstruction_39 (l0 : Int) (l1 : Int) (l3 : Int) (h : qz_H) : Option qz_R :=
  qz_bc (fn_Md_isPlain l3 h) fun r1 h2 =>
  if ¬ r1 = 0 then
    qz_bc (fn_Md_hasRoom l0 h2) fun r3 h4 =>
    if r3 = 0 then
      fn_Md_readInstruction_68 h4
    else
      qz_bc (fn_Md_readImmediate l0 l3 l1 h4) fun r5 h6 =>
      if ¬ r5 = 0 then
        qz_bc (fn_Md_emit l0 l3 (h6 l0 47) h6) fun r7 h8 =>
        qz_bc (fn_Md_noteCall l0 (h6 l0 48) r7 h8) fun _ h10 =>
        qz_ck ((1 : Int) = 0 ∨ (1 : Int) = 1) (some (1, h10))
      else
        fn_Md_readInstruction_68 h6
  else
    qz_bc (fn_Md_turnBlock l0 l3 h2) fun r11 h12 =>
    qz_ck ((r11 : Int) = 0 ∨ (r11 : Int) = 1) (some (r11, h12))
set_option maxRecDepth 20000 in
def fn_Md_readInstruction (l0 : Int) (l1 : Int) (h : qz_H) : Option qz_R :=
  qz_bc (fn_Md_instructionWord l0 h) fun r1 h2 =>
  qz_bn (r1 : Int) fun x3 =>
  if 0 ≤ x3 then
    qz_ck ((h2 l0 2 : Int) ≠ 0) <|
    qz_ck ((0 : Int) ≤ x3 ∧ x3 < h2 (h2 l0 2) (-1)) <|
    qz_bn (h2 (h2 l0 2) x3 : Int) fun x4 =>
    if x4 < 2 then
      fn_Md_readInstruction_39 l0 l1 x4 h2
    else
      if 4 < x4 then
        fn_Md_readInstruction_39 l0 l1 x4 h2
      else
        qz_bc (fn_Md_beginBlock l0 x4 l1 h2) fun r5 h6 =>
        qz_ck ((r5 : Int) = 0 ∨ (r5 : Int) = 1) (some (r5, h6))
  else
    qz_bc (fn_Md_fail l0 1 h2) fun r7 h8 =>
    qz_ck ((r7 : Int) = 0 ∨ (r7 : Int) = 1) (some (r7, h8))
def bk_Md_readInstruction_0 : List (Instr × Nat) := [(.aload_n 0, 1), (.invokevirtual 354, 3), (.istore_n 2, 1), (.iload_n 2, 1), (.ifCond .ge 9, 3), (.aload_n 0, 1), (.iconst 1, 1), (.invokevirtual 253, 3), (.ireturn, 1)]
def bk_Md_readInstruction_15 : List (Instr × Nat) := [(.aload_n 0, 1), (.getfield 86, 3), (.iload_n 2, 1), (.iaload, 1), (.istore_n 3, 1), (.iload_n 3, 1), (.iconst 2, 1), (.if_icmp .lt 15, 3), (.iload_n 3, 1), (.iconst 4, 1), (.if_icmp .gt 10, 3), (.aload_n 0, 1), (.iload_n 3, 1), (.iload_n 1, 1), (.invokevirtual 383, 3), (.ireturn, 1)]
def bk_Md_readInstruction_39 : List (Instr × Nat) := [(.iload_n 3, 1), (.invokestatic 357, 3), (.ifCond .ne 9, 3), (.aload_n 0, 1), (.iload_n 3, 1), (.invokevirtual 386, 3), (.ireturn, 1)]
def bk_Md_readInstruction_52 : List (Instr × Nat) := [(.aload_n 0, 1), (.invokevirtual 369, 3), (.ifCond .eq 12, 3), (.aload_n 0, 1), (.iload_n 3, 1), (.iload_n 1, 1), (.invokevirtual 360, 3), (.ifCond .ne 5, 3)]
def bk_Md_readInstruction_68 : List (Instr × Nat) := [(.iconst 0, 1), (.ireturn, 1)]
def bk_Md_readInstruction_70 : List (Instr × Nat) := [(.aload_n 0, 1), (.aload_n 0, 1), (.getfield 281, 3), (.aload_n 0, 1), (.iload_n 3, 1), (.aload_n 0, 1), (.getfield 263, 3), (.invokevirtual 372, 3), (.invokevirtual 376, 3), (.iconst 1, 1), (.ireturn, 1)]
theorem ca_Md_readInstruction_0 : qz_ca yd_Md_readInstruction.2.1 0 bk_Md_readInstruction_0 := qz_cab_ok _ _ (by decide +kernel)
theorem ca_Md_readInstruction_15 : qz_ca yd_Md_readInstruction.2.1 15 bk_Md_readInstruction_15 := qz_cab_ok _ _ (by decide +kernel)
theorem ca_Md_readInstruction_39 : qz_ca yd_Md_readInstruction.2.1 39 bk_Md_readInstruction_39 := qz_cab_ok _ _ (by decide +kernel)
theorem ca_Md_readInstruction_52 : qz_ca yd_Md_readInstruction.2.1 52 bk_Md_readInstruction_52 := qz_cab_ok _ _ (by decide +kernel)
theorem ca_Md_readInstruction_68 : qz_ca yd_Md_readInstruction.2.1 68 bk_Md_readInstruction_68 := qz_cab_ok _ _ (by decide +kernel)
theorem ca_Md_readInstruction_70 : qz_ca yd_Md_readInstruction.2.1 70 bk_Md_readInstruction_70 := qz_cab_ok _ _ (by decide +kernel)
set_option maxRecDepth 20000 in
theorem jb_Md_readInstruction_68 (G : qz_G) (h : qz_H) : qz_J yd_Md_readInstruction G bk_Md_readInstruction_68 68 [qz_u, qz_u, qz_u, qz_u] [] h 0 0 (fn_Md_readInstruction_68 h) := by
  unfold fn_Md_readInstruction_68 bk_Md_readInstruction_68; exact
    qz_iconst rfl <|
    qz_zreturn ⟨rfl, rfl⟩ rfl
set_option maxRecDepth 20000 in
theorem jb_Md_readInstruction_39 (G : qz_G) (l0 : Int) (l1 : Int) (l3 : Int) (h : qz_H) : qz_J yd_Md_readInstruction G bk_Md_readInstruction_39 39 [qz_r true 12 l0, qz_i l1, qz_u, qz_i l3] [] h 0 0 (fn_Md_readInstruction_39 l0 l1 l3 h) := by
  unfold fn_Md_readInstruction_39 bk_Md_readInstruction_39; exact
    qz_iload_n rfl <|
    qz_invsI [qz_i l3] rfl (cn_Md_isPlain l3 h) mw_Md_isPlain vs_Md_isPlain rfl rfl ln_Md_357 rfl fun r1 h2 =>
    qz_if_ne rfl ca_Md_readInstruction_52
      (qz_aload_n rfl <|
        qz_invvI [] rfl (cn_Md_hasRoom l0 h2) mw_Md_hasRoom vw_Md_hasRoom ⟨_, rfl, rfl, by decide⟩ rfl rfl ln_Md_369 rfl fun r3 h4 =>
        qz_if_eq rfl ca_Md_readInstruction_68
          (qz_fgt [0, 0, 0, 0] <| jb_Md_readInstruction_68 G h4)
          (qz_aload_n rfl <|
            qz_iload_n rfl <|
            qz_iload_n rfl <|
            qz_invvI [qz_i l3, qz_i l1] rfl (cn_Md_readImmediate l0 l3 l1 h4) mw_Md_readImmediate vw_Md_readImmediate ⟨_, rfl, rfl, by decide⟩ rfl rfl ln_Md_360 rfl fun r5 h6 =>
            qz_if_ne rfl ca_Md_readInstruction_70
              (qz_aload_n rfl <|
                qz_aload_n rfl <|
                qz_getI kg_12 fl_Md_281 rfl rfl <|
                qz_aload_n rfl <|
                qz_iload_n rfl <|
                qz_aload_n rfl <|
                qz_getJ kg_12 fl_Md_263 rfl rfl <|
                qz_invvI [qz_i l3, qz_j (h6 l0 47)] rfl (cn_Md_emit l0 l3 (h6 l0 47) h6) mw_Md_emit vw_Md_emit ⟨_, rfl, rfl, by decide⟩ rfl rfl ln_Md_372 rfl fun r7 h8 =>
                qz_invvV [qz_i (h6 l0 48), qz_i r7] rfl (cn_Md_noteCall l0 (h6 l0 48) r7 h8) mw_Md_noteCall vw_Md_noteCall ⟨_, rfl, rfl, by decide⟩ rfl rfl ln_Md_376 rfl fun _ h10 =>
                qz_iconst rfl <|
                qz_zreturn ⟨rfl, rfl⟩ rfl)
              (qz_fall rfl ca_Md_readInstruction_68 <|
                qz_fgt [0, 0, 0, 0] <| jb_Md_readInstruction_68 G h6)))
      (qz_aload_n rfl <|
        qz_iload_n rfl <|
        qz_invvI [qz_i l3] rfl (cn_Md_turnBlock l0 l3 h2) mw_Md_turnBlock vw_Md_turnBlock ⟨_, rfl, rfl, by decide⟩ rfl rfl ln_Md_386 rfl fun r11 h12 =>
        qz_zreturn ⟨rfl, rfl⟩ rfl)
set_option maxRecDepth 20000 in
theorem cn_Md_readInstruction (l0 : Int) (l1 : Int) (h : qz_H) : qz_C yd_Md_readInstruction [qz_r true 12 l0, qz_i l1] h (fn_Md_readInstruction l0 l1 h) := by
  refine qz_con (is := bk_Md_readInstruction_0) (ls := [qz_r true 12 l0, qz_i l1, qz_u, qz_u]) mw_Md_readInstruction.2.2.2 ca_Md_readInstruction_0 rfl rfl rfl fun G => ?_
  unfold fn_Md_readInstruction bk_Md_readInstruction_0; exact
    qz_aload_n rfl <|
    qz_invvI [] rfl (cn_Md_instructionWord l0 h) mw_Md_instructionWord vw_Md_instructionWord ⟨_, rfl, rfl, by decide⟩ rfl rfl ln_Md_354 rfl fun r1 h2 =>
    qz_istore_n (by decide) fun x3 =>
    qz_iload_n rfl <|
    qz_if_ge rfl ca_Md_readInstruction_15
      (qz_aload_n rfl <|
        qz_getR (k1 := 40) kg_12 fl_Md_86 rfl rfl <|
        qz_iload_n rfl <|
        qz_nnd 1 rfl <|
        qz_iald (k0 := 40) rfl rfl rfl <|
        qz_istore_n (by decide) fun x4 =>
        qz_iload_n rfl <|
        qz_iconst rfl <|
        qz_icmp_lt rfl ca_Md_readInstruction_39
          (qz_fgt [1, 1, 0, 1] <| jb_Md_readInstruction_39 G l0 l1 x4 h2)
          (qz_iload_n rfl <|
            qz_iconst rfl <|
            qz_icmp_gt rfl ca_Md_readInstruction_39
              (qz_fgt [1, 1, 0, 1] <| jb_Md_readInstruction_39 G l0 l1 x4 h2)
              (qz_aload_n rfl <|
                qz_iload_n rfl <|
                qz_iload_n rfl <|
                qz_invvI [qz_i x4, qz_i l1] rfl (cn_Md_beginBlock l0 x4 l1 h2) mw_Md_beginBlock vw_Md_beginBlock ⟨_, rfl, rfl, by decide⟩ rfl rfl ln_Md_383 rfl fun r5 h6 =>
                qz_zreturn ⟨rfl, rfl⟩ rfl)))
      (qz_aload_n rfl <|
        qz_iconst rfl <|
        qz_invvI [qz_i 1] rfl (cn_Md_fail l0 1 h2) mw_Md_fail vw_Md_fail ⟨_, rfl, rfl, by decide⟩ rfl rfl ln_Md_253 rfl fun r7 h8 =>
        qz_zreturn ⟨rfl, rfl⟩ rfl)
def fn_Md_body_114 (k16 : Int → Int → Int → qz_H → Option qz_R) (l0 : Int) (l1 : Int) (l3 : Int) (l4 : Int) (h : qz_H) : Option qz_R :=
  if ¬ l4 = 0 then
    k16 l0 l1 l3 h
  else
    qz_ck ((0 : Int) = 0 ∨ (0 : Int) = 1) (some (0, h))
def fn_Md_body_107 (k16 : Int → Int → Int → qz_H → Option qz_R) (l0 : Int) (l1 : Int) (l3 : Int) (h : qz_H) : Option qz_R :=
  qz_bc (fn_Md_readInstruction l0 l1 h) fun r1 h2 =>
  qz_bn (r1 : Int) fun x3 =>
  fn_Md_body_114 k16 l0 l1 l3 x3 h2
def fn_Md_body_82 (k16 : Int → Int → Int → qz_H → Option qz_R) (l0 : Int) (l1 : Int) (l3 : Int) (s0 : Int) (h : qz_H) : Option qz_R :=
  qz_bn (s0 : Int) fun x1 =>
  fn_Md_body_114 k16 l0 l1 l3 x1 h
def fn_Md_body_81 (k16 : Int → Int → Int → qz_H → Option qz_R) (l0 : Int) (l1 : Int) (l3 : Int) (h : qz_H) : Option qz_R :=
  fn_Md_body_82 k16 l0 l1 l3 0 h
def fn_Md_body_54 (k16 : Int → Int → Int → qz_H → Option qz_R) (l0 : Int) (l1 : Int) (l3 : Int) (l4 : Int) (h : qz_H) : Option qz_R :=
  if ¬ h l0 33 = 1 then
    if ¬ h l0 33 = 2 then
      fn_Md_body_107 k16 l0 l1 l3 h
    else
      if ¬ h l0 39 = 0 then
        fn_Md_body_107 k16 l0 l1 l3 h
      else
        qz_bn (0 : Int) fun x1 =>
        fn_Md_body_114 k16 l0 l1 x1 l4 h
  else
    qz_bc (fn_Md_open l0 h) fun r2 h3 =>
    if r2 = 0 then
      fn_Md_body_81 k16 l0 l1 l3 h3
    else
      qz_bc (fn_Md_fold l0 l1 h3) fun r4 h5 =>
      if r4 = 0 then
        fn_Md_body_81 k16 l0 l1 l3 h5
      else
        fn_Md_body_82 k16 l0 l1 l3 1 h5
def fn_Md_body_16_b (k16 : Int → Int → Int → qz_H → Option qz_R) (l0 : Int) (l1 : Int) (l3 : Int) (h : qz_H) : Option qz_R :=
  if l3 = 0 then
    qz_bc (fn_Md_next l0 h) fun _ h2 =>
    qz_ck ((1 : Int) = 0 ∨ (1 : Int) = 1) (some (1, h2))
  else
    qz_bn (1 : Int) fun x3 =>
    if h l0 39 ≤ 0 then
      fn_Md_body_54 k16 l0 l1 l3 x3 h
    else
      qz_ck ((h l0 41 : Int) ≠ 0) <|
      qz_ck ((0 : Int) ≤ qz_w ((h l0 39) - 1) ∧ qz_w ((h l0 39) - 1) < h (h l0 41) (-1)) <|
      if h (h l0 41) (qz_w ((h l0 39) - 1)) = 0 then
        fn_Md_body_54 k16 l0 l1 l3 x3 h
      else
        qz_bc (fn_Md_inFold l0 l1 h) fun r4 h5 =>
        qz_bn (r4 : Int) fun x6 =>
        fn_Md_body_114 k16 l0 l1 l3 x6 h5
def fn_Md_body_16 : Nat → Int → Int → Int → qz_H → Option qz_R
  | 0, _, _, _, _ => none
  | n + 1, l0, l1, l3, h => fn_Md_body_16_b (fn_Md_body_16 n) l0 l1 l3 h
def fn_Md_body_14 (l0 : Int) (l1 : Int) (h : qz_H) : Option qz_R :=
  qz_bn (1 : Int) fun x1 =>
  fn_Md_body_16 qz_NF l0 l1 x1 h
set_option maxRecDepth 20000 in
def fn_Md_body (l0 : Int) (l1 : Int) (l2 : Int) (h : qz_H) : Option qz_R :=
  if l2 = 0 then
    fn_Md_body_14 l0 l1 h
  else
    qz_bc (fn_Md_fold l0 l1 h) fun r1 h2 =>
    if ¬ r1 = 0 then
      fn_Md_body_14 l0 l1 h2
    else
      qz_ck ((0 : Int) = 0 ∨ (0 : Int) = 1) (some (0, h2))
def bk_Md_body_0 : List (Instr × Nat) := [(.iload_n 2, 1), (.ifCond .eq 13, 3), (.aload_n 0, 1), (.iload_n 1, 1), (.invokevirtual 366, 3), (.ifCond .ne 5, 3), (.iconst 0, 1), (.ireturn, 1)]
def bk_Md_body_14 : List (Instr × Nat) := [(.iconst 1, 1), (.istore_n 3, 1)]
def bk_Md_body_16 : List (Instr × Nat) := [(.iload_n 3, 1), (.ifCond .eq 107, 3), (.iconst 1, 1), (.istore 4, 2), (.aload_n 0, 1), (.getfield 297, 3), (.ifCond .le 27, 3), (.aload_n 0, 1), (.getfield 160, 3), (.aload_n 0, 1), (.getfield 297, 3), (.iconst 1, 1), (.isub, 1), (.baload, 1), (.ifCond .eq 13, 3), (.aload_n 0, 1), (.iload_n 1, 1), (.invokevirtual 389, 3), (.istore 4, 2), (.goto 63, 3)]
def bk_Md_body_124 : List (Instr × Nat) := [(.aload_n 0, 1), (.invokevirtual 256, 3), (.iconst 1, 1), (.ireturn, 1)]
def bk_Md_body_54 : List (Instr × Nat) := [(.aload_n 0, 1), (.getfield 231, 3), (.iconst 1, 1), (.if_icmp .ne 28, 3), (.aload_n 0, 1), (.invokevirtual 363, 3), (.ifCond .eq 15, 3), (.aload_n 0, 1), (.iload_n 1, 1), (.invokevirtual 366, 3), (.ifCond .eq 7, 3), (.iconst 1, 1), (.goto 4, 3)]
def bk_Md_body_114 : List (Instr × Nat) := [(.iload 4, 2), (.ifCond .ne 5, 3), (.iconst 0, 1), (.ireturn, 1)]
def bk_Md_body_87 : List (Instr × Nat) := [(.aload_n 0, 1), (.getfield 231, 3), (.iconst 2, 1), (.if_icmp .ne 15, 3), (.aload_n 0, 1), (.getfield 297, 3), (.ifCond .ne 8, 3), (.iconst 0, 1), (.istore_n 3, 1), (.goto 10, 3)]
def bk_Md_body_107 : List (Instr × Nat) := [(.aload_n 0, 1), (.iload_n 1, 1), (.invokevirtual 392, 3), (.istore 4, 2)]
def bk_Md_body_81 : List (Instr × Nat) := [(.iconst 0, 1)]
def bk_Md_body_82 : List (Instr × Nat) := [(.istore 4, 2), (.goto 30, 3)]
def bk_Md_body_121 : List (Instr × Nat) := [(.goto (-105), 3)]
theorem ca_Md_body_0 : qz_ca yd_Md_body.2.1 0 bk_Md_body_0 := qz_cab_ok _ _ (by decide +kernel)
theorem ca_Md_body_14 : qz_ca yd_Md_body.2.1 14 bk_Md_body_14 := qz_cab_ok _ _ (by decide +kernel)
theorem ca_Md_body_16 : qz_ca yd_Md_body.2.1 16 bk_Md_body_16 := qz_cab_ok _ _ (by decide +kernel)
theorem ca_Md_body_124 : qz_ca yd_Md_body.2.1 124 bk_Md_body_124 := qz_cab_ok _ _ (by decide +kernel)
theorem ca_Md_body_54 : qz_ca yd_Md_body.2.1 54 bk_Md_body_54 := qz_cab_ok _ _ (by decide +kernel)
theorem ca_Md_body_114 : qz_ca yd_Md_body.2.1 114 bk_Md_body_114 := qz_cab_ok _ _ (by decide +kernel)
theorem ca_Md_body_87 : qz_ca yd_Md_body.2.1 87 bk_Md_body_87 := qz_cab_ok _ _ (by decide +kernel)
theorem ca_Md_body_107 : qz_ca yd_Md_body.2.1 107 bk_Md_body_107 := qz_cab_ok _ _ (by decide +kernel)
theorem ca_Md_body_81 : qz_ca yd_Md_body.2.1 81 bk_Md_body_81 := qz_cab_ok _ _ (by decide +kernel)
theorem ca_Md_body_82 : qz_ca yd_Md_body.2.1 82 bk_Md_body_82 := qz_cab_ok _ _ (by decide +kernel)
theorem ca_Md_body_121 : qz_ca yd_Md_body.2.1 121 bk_Md_body_121 := qz_cab_ok _ _ (by decide +kernel)
set_option maxRecDepth 20000 in
theorem jb_Md_body_114 (G : qz_G) (k16 : Int → Int → Int → qz_H → Option qz_R) (jk16 : ∀ (l0 : Int) (l1 : Int) (l3 : Int) (h : qz_H), qz_J yd_Md_body G bk_Md_body_16 16 [qz_r true 12 l0, qz_i l1, qz_u, qz_i l3, qz_u] [] h 0 0 (k16 l0 l1 l3 h)) (l0 : Int) (l1 : Int) (l3 : Int) (l4 : Int) (h : qz_H) : qz_J yd_Md_body G bk_Md_body_114 114 [qz_r true 12 l0, qz_i l1, qz_u, qz_i l3, qz_i l4] [] h 0 0 (fn_Md_body_114 k16 l0 l1 l3 l4 h) := by
  unfold fn_Md_body_114 bk_Md_body_114; exact
    qz_iload rfl <|
    qz_if_ne rfl ca_Md_body_121
      (qz_goto rfl ca_Md_body_16 <|
        qz_fgt [1, 1, 0, 1, 0] <| jk16 l0 l1 l3 h)
      (qz_iconst rfl <|
        qz_zreturn ⟨rfl, rfl⟩ rfl)
set_option maxRecDepth 20000 in
theorem jb_Md_body_107 (G : qz_G) (k16 : Int → Int → Int → qz_H → Option qz_R) (jk16 : ∀ (l0 : Int) (l1 : Int) (l3 : Int) (h : qz_H), qz_J yd_Md_body G bk_Md_body_16 16 [qz_r true 12 l0, qz_i l1, qz_u, qz_i l3, qz_u] [] h 0 0 (k16 l0 l1 l3 h)) (l0 : Int) (l1 : Int) (l3 : Int) (h : qz_H) : qz_J yd_Md_body G bk_Md_body_107 107 [qz_r true 12 l0, qz_i l1, qz_u, qz_i l3, qz_u] [] h 0 0 (fn_Md_body_107 k16 l0 l1 l3 h) := by
  unfold fn_Md_body_107 bk_Md_body_107; exact
    qz_aload_n rfl <|
    qz_iload_n rfl <|
    qz_invvI [qz_i l1] rfl (cn_Md_readInstruction l0 l1 h) mw_Md_readInstruction vw_Md_readInstruction ⟨_, rfl, rfl, by decide⟩ rfl rfl ln_Md_392 rfl fun r1 h2 =>
    qz_istore (by decide) fun x3 =>
    qz_fall rfl ca_Md_body_114 <|
    qz_fgt [1, 1, 0, 1, 1] <| jb_Md_body_114 G k16 jk16 l0 l1 l3 x3 h2
set_option maxRecDepth 20000 in
theorem jb_Md_body_82 (G : qz_G) (k16 : Int → Int → Int → qz_H → Option qz_R) (jk16 : ∀ (l0 : Int) (l1 : Int) (l3 : Int) (h : qz_H), qz_J yd_Md_body G bk_Md_body_16 16 [qz_r true 12 l0, qz_i l1, qz_u, qz_i l3, qz_u] [] h 0 0 (k16 l0 l1 l3 h)) (l0 : Int) (l1 : Int) (l3 : Int) (s0 : Int) (h : qz_H) : qz_J yd_Md_body G bk_Md_body_82 82 [qz_r true 12 l0, qz_i l1, qz_u, qz_i l3, qz_u] [qz_i s0] h 0 0 (fn_Md_body_82 k16 l0 l1 l3 s0 h) := by
  unfold fn_Md_body_82 bk_Md_body_82; exact
    qz_istore (by decide) fun x1 =>
    qz_goto rfl ca_Md_body_114 <|
    qz_fgt [1, 1, 0, 1, 1] <| jb_Md_body_114 G k16 jk16 l0 l1 l3 x1 h
set_option maxRecDepth 20000 in
theorem jb_Md_body_81 (G : qz_G) (k16 : Int → Int → Int → qz_H → Option qz_R) (jk16 : ∀ (l0 : Int) (l1 : Int) (l3 : Int) (h : qz_H), qz_J yd_Md_body G bk_Md_body_16 16 [qz_r true 12 l0, qz_i l1, qz_u, qz_i l3, qz_u] [] h 0 0 (k16 l0 l1 l3 h)) (l0 : Int) (l1 : Int) (l3 : Int) (h : qz_H) : qz_J yd_Md_body G bk_Md_body_81 81 [qz_r true 12 l0, qz_i l1, qz_u, qz_i l3, qz_u] [] h 0 0 (fn_Md_body_81 k16 l0 l1 l3 h) := by
  unfold fn_Md_body_81 bk_Md_body_81; exact
    qz_iconst rfl <|
    qz_fall rfl ca_Md_body_82 <|
    qz_fgt [1, 1, 0, 1, 0] <| jb_Md_body_82 G k16 jk16 l0 l1 l3 0 h
set_option maxRecDepth 20000 in
theorem jb_Md_body_54 (G : qz_G) (k16 : Int → Int → Int → qz_H → Option qz_R) (jk16 : ∀ (l0 : Int) (l1 : Int) (l3 : Int) (h : qz_H), qz_J yd_Md_body G bk_Md_body_16 16 [qz_r true 12 l0, qz_i l1, qz_u, qz_i l3, qz_u] [] h 0 0 (k16 l0 l1 l3 h)) (l0 : Int) (l1 : Int) (l3 : Int) (l4 : Int) (h : qz_H) : qz_J yd_Md_body G bk_Md_body_54 54 [qz_r true 12 l0, qz_i l1, qz_u, qz_i l3, qz_i l4] [] h 0 0 (fn_Md_body_54 k16 l0 l1 l3 l4 h) := by
  unfold fn_Md_body_54 bk_Md_body_54; exact
    qz_aload_n rfl <|
    qz_getI kg_12 fl_Md_231 rfl rfl <|
    qz_iconst rfl <|
    qz_icmp_ne rfl ca_Md_body_87
      (qz_aload_n rfl <|
        qz_getI kg_12 fl_Md_231 rfl rfl <|
        qz_iconst rfl <|
        qz_icmp_ne rfl ca_Md_body_107
          (qz_fgt [1, 1, 0, 1, 0] <| jb_Md_body_107 G k16 jk16 l0 l1 l3 h)
          (qz_aload_n rfl <|
            qz_getI kg_12 fl_Md_297 rfl rfl <|
            qz_if_ne rfl ca_Md_body_107
              (qz_fgt [1, 1, 0, 1, 0] <| jb_Md_body_107 G k16 jk16 l0 l1 l3 h)
              (qz_iconst rfl <|
                qz_istore_n (by decide) fun x1 =>
                qz_goto rfl ca_Md_body_114 <|
                qz_fgt [1, 1, 0, 1, 1] <| jb_Md_body_114 G k16 jk16 l0 l1 x1 l4 h)))
      (qz_aload_n rfl <|
        qz_invvI [] rfl (cn_Md_open l0 h) mw_Md_open vw_Md_open ⟨_, rfl, rfl, by decide⟩ rfl rfl ln_Md_363 rfl fun r2 h3 =>
        qz_if_eq rfl ca_Md_body_81
          (qz_fgt [1, 1, 0, 1, 0] <| jb_Md_body_81 G k16 jk16 l0 l1 l3 h3)
          (qz_aload_n rfl <|
            qz_iload_n rfl <|
            qz_invvI [qz_i l1] rfl (cn_Md_fold l0 l1 h3) mw_Md_fold vw_Md_fold ⟨_, rfl, rfl, by decide⟩ rfl rfl ln_Md_366 rfl fun r4 h5 =>
            qz_if_eq rfl ca_Md_body_81
              (qz_fgt [1, 1, 0, 1, 0] <| jb_Md_body_81 G k16 jk16 l0 l1 l3 h5)
              (qz_iconst rfl <|
                qz_goto rfl ca_Md_body_82 <|
                qz_fgt [1, 1, 0, 1, 0] <| jb_Md_body_82 G k16 jk16 l0 l1 l3 1 h5)))
set_option maxRecDepth 20000 in
theorem jb_Md_body_16_b (G : qz_G) (k16 : Int → Int → Int → qz_H → Option qz_R) (jk16 : ∀ (l0 : Int) (l1 : Int) (l3 : Int) (h : qz_H), qz_J yd_Md_body G bk_Md_body_16 16 [qz_r true 12 l0, qz_i l1, qz_u, qz_i l3, qz_u] [] h 0 0 (k16 l0 l1 l3 h)) (l0 : Int) (l1 : Int) (l3 : Int) (h : qz_H) : qz_J yd_Md_body G bk_Md_body_16 16 [qz_r true 12 l0, qz_i l1, qz_u, qz_i l3, qz_u] [] h 0 0 (fn_Md_body_16_b k16 l0 l1 l3 h) := by
  unfold fn_Md_body_16_b bk_Md_body_16; exact
    qz_iload_n rfl <|
    qz_if_eq rfl ca_Md_body_124
      (qz_aload_n rfl <|
        qz_invvV [] rfl (cn_Md_next l0 h) mw_Md_next vw_Md_next ⟨_, rfl, rfl, by decide⟩ rfl rfl ln_Md_256 rfl fun _ h2 =>
        qz_iconst rfl <|
        qz_zreturn ⟨rfl, rfl⟩ rfl)
      (qz_iconst rfl <|
        qz_istore (by decide) fun x3 =>
        qz_aload_n rfl <|
        qz_getI kg_12 fl_Md_297 rfl rfl <|
        qz_if_le rfl ca_Md_body_54
          (qz_fgt [1, 1, 0, 1, 1] <| jb_Md_body_54 G k16 jk16 l0 l1 l3 x3 h)
          (qz_aload_n rfl <|
            qz_getR (k1 := 44) kg_12 fl_Md_160 rfl rfl <|
            qz_aload_n rfl <|
            qz_getI kg_12 fl_Md_297 rfl rfl <|
            qz_iconst rfl <|
            qz_isub <|
            qz_nnd 1 rfl <|
            qz_zald (k0 := 44) rfl rfl rfl <|
            qz_if_eq rfl ca_Md_body_54
              (qz_fgt [1, 1, 0, 1, 1] <| jb_Md_body_54 G k16 jk16 l0 l1 l3 x3 h)
              (qz_aload_n rfl <|
                qz_iload_n rfl <|
                qz_invvI [qz_i l1] rfl (cn_Md_inFold l0 l1 h) mw_Md_inFold vw_Md_inFold ⟨_, rfl, rfl, by decide⟩ rfl rfl ln_Md_389 rfl fun r4 h5 =>
                qz_istore (by decide) fun x6 =>
                qz_goto rfl ca_Md_body_114 <|
                qz_fgt [1, 1, 0, 1, 1] <| jb_Md_body_114 G k16 jk16 l0 l1 l3 x6 h5)))
theorem jb_Md_body_16 (G : qz_G) : ∀ (n : Nat) (l0 l1 l3 : Int) (h : qz_H), qz_J yd_Md_body G bk_Md_body_16 16 [qz_r true 12 l0, qz_i l1, qz_u, qz_i l3, qz_u] [] h 0 0 (fn_Md_body_16 n l0 l1 l3 h)
  | 0, _, _, _, _ => qz_none
  | n + 1, l0, l1, l3, h => jb_Md_body_16_b G (fn_Md_body_16 n) (jb_Md_body_16 G n) l0 l1 l3 h
set_option maxRecDepth 20000 in
theorem jb_Md_body_14 (G : qz_G) (l0 : Int) (l1 : Int) (h : qz_H) : qz_J yd_Md_body G bk_Md_body_14 14 [qz_r true 12 l0, qz_i l1, qz_u, qz_u, qz_u] [] h 0 0 (fn_Md_body_14 l0 l1 h) := by
  unfold fn_Md_body_14 bk_Md_body_14; exact
    qz_iconst rfl <|
    qz_istore_n (by decide) fun x1 =>
    qz_fall rfl ca_Md_body_16 <|
    qz_fgt [1, 1, 0, 1, 0] <| jb_Md_body_16 G qz_NF l0 l1 x1 h
set_option maxRecDepth 20000 in
theorem cn_Md_body (l0 : Int) (l1 : Int) (l2 : Int) (h : qz_H) : qz_C yd_Md_body [qz_r true 12 l0, qz_i l1, qz_i l2] h (fn_Md_body l0 l1 l2 h) := by
  refine qz_con (is := bk_Md_body_0) (ls := [qz_r true 12 l0, qz_i l1, qz_i l2, qz_u, qz_u]) mw_Md_body.2.2.2 ca_Md_body_0 rfl rfl rfl fun G => ?_
  unfold fn_Md_body bk_Md_body_0; exact
    qz_iload_n rfl <|
    qz_if_eq rfl ca_Md_body_14
      (qz_fgt [1, 1, 0, 0, 0] <| jb_Md_body_14 G l0 l1 h)
      (qz_aload_n rfl <|
        qz_iload_n rfl <|
        qz_invvI [qz_i l1] rfl (cn_Md_fold l0 l1 h) mw_Md_fold vw_Md_fold ⟨_, rfl, rfl, by decide⟩ rfl rfl ln_Md_366 rfl fun r1 h2 =>
        qz_if_ne rfl ca_Md_body_14
          (qz_fgt [1, 1, 0, 0, 0] <| jb_Md_body_14 G l0 l1 h2)
          (qz_iconst rfl <|
            qz_zreturn ⟨rfl, rfl⟩ rfl))
