def fn_Reader_inBody_110 (s0 : Int) (h : qz_H) : Option qz_R :=
  some (s0, h)
def fn_Reader_inBody_109 (h : qz_H) : Option qz_R :=
  fn_Reader_inBody_110 1 h
def fn_Reader_inBody_53 (s0 : Int) (h : qz_H) : Option qz_R :=
  some (s0, h)
set_option maxRecDepth 20000 in
def fn_Reader_inBody (l0 : Int) (l1 : Int) (h : qz_H) : Option qz_R :=
  qz_bn (h l0 7 : Int) fun x1 =>
  qz_ck ((0 : Int) < l0) <|
  qz_bn (qz_up h l0 7 (-2)) fun h2 =>
  qz_ck ((h2 l0 0 : Int) ≠ 0) <|
  if ¬ h2 (h2 l0 0) 1 = 0 then
    qz_ck ((h2 l0 0 : Int) ≠ 0) <|
    if ¬ h2 (h2 l0 0) 1 = 1 then
      qz_ck ((h2 l0 0 : Int) ≠ 0) <|
      qz_bc (fn_Scanner_isName (h2 l0 0) h2) fun r3 h4 =>
      if ¬ r3 = 0 then
        if ¬ x1 = (-2) then
          if x1 = (-1) then
            fn_Reader_inBody_109 h4
          else
            qz_ck ((h4 l0 0 : Int) ≠ 0) <|
            qz_ck ((h4 l0 0 : Int) ≠ 0) <|
            qz_bc (fn_Scanner_same (h4 l0 0) x1 (h4 (h4 l0 0) 2) h4) fun r5 h6 =>
            if r5 = 0 then
              fn_Reader_inBody_109 h6
            else
              fn_Reader_inBody_110 0 h6
        else
          qz_bc (fn_Reader_giveName l0 l1 h4) fun r7 h8 =>
          some (r7, h8)
      else
        qz_bc (fn_Reader_instructionIn l0 l1 h4) fun r9 h10 =>
        some (r9, h10)
    else
      qz_ck ((l1 : Int) ≠ 0) <|
      if ¬ h2 l1 0 = 3 then
        fn_Reader_inBody_53 1 h2
      else
        qz_bc (fn_Reader_close l0 h2) fun r11 h12 =>
        fn_Reader_inBody_53 r11 h12
  else
    qz_bc (fn_Reader_open l0 h2) fun r13 h14 =>
    some (r13, h14)
def bk_Reader_inBody_0 : List (Instr × Nat) := [(.aload_n 0, 1), (.getfield 57, 3), (.istore_n 2, 1), (.aload_n 0, 1), (.bipush (-2), 2), (.putfield 57, 3), (.aload_n 0, 1), (.getfield 33, 3), (.getfield 73, 3), (.ifCond .ne 8, 3), (.aload_n 0, 1), (.invokevirtual 118, 3), (.ireturn, 1)]
def bk_Reader_inBody_26 : List (Instr × Nat) := [(.aload_n 0, 1), (.getfield 33, 3), (.getfield 73, 3), (.iconst 1, 1), (.if_icmp .ne 20, 3), (.aload_n 1, 1), (.getfield 83, 3), (.iconst 3, 1), (.if_icmp .ne 10, 3), (.aload_n 0, 1), (.invokevirtual 121, 3), (.goto 4, 3)]
def bk_Reader_inBody_54 : List (Instr × Nat) := [(.aload_n 0, 1), (.getfield 33, 3), (.invokevirtual 181, 3), (.ifCond .ne 9, 3), (.aload_n 0, 1), (.aload_n 1, 1), (.invokevirtual 221, 3), (.ireturn, 1)]
def bk_Reader_inBody_70 : List (Instr × Nat) := [(.iload_n 2, 1), (.bipush (-2), 2), (.if_icmp .ne 9, 3), (.aload_n 0, 1), (.aload_n 1, 1), (.invokevirtual 224, 3), (.ireturn, 1)]
def bk_Reader_inBody_82 : List (Instr × Nat) := [(.iload_n 2, 1), (.iconst (-1), 1), (.if_icmp .eq 25, 3), (.aload_n 0, 1), (.getfield 33, 3), (.iload_n 2, 1), (.aload_n 0, 1), (.getfield 33, 3), (.getfield 63, 3), (.invokevirtual 227, 3), (.ifCond .eq 7, 3), (.iconst 0, 1), (.goto 4, 3)]
def bk_Reader_inBody_109 : List (Instr × Nat) := [(.iconst 1, 1)]
def bk_Reader_inBody_110 : List (Instr × Nat) := [(.ireturn, 1)]
def bk_Reader_inBody_52 : List (Instr × Nat) := [(.iconst 1, 1)]
def bk_Reader_inBody_53 : List (Instr × Nat) := [(.ireturn, 1)]
theorem ca_Reader_inBody_0 : qz_ca yd_Reader_inBody.2.1 0 bk_Reader_inBody_0 := qz_cab_ok _ _ (by decide +kernel)
theorem ca_Reader_inBody_26 : qz_ca yd_Reader_inBody.2.1 26 bk_Reader_inBody_26 := qz_cab_ok _ _ (by decide +kernel)
theorem ca_Reader_inBody_54 : qz_ca yd_Reader_inBody.2.1 54 bk_Reader_inBody_54 := qz_cab_ok _ _ (by decide +kernel)
theorem ca_Reader_inBody_70 : qz_ca yd_Reader_inBody.2.1 70 bk_Reader_inBody_70 := qz_cab_ok _ _ (by decide +kernel)
theorem ca_Reader_inBody_82 : qz_ca yd_Reader_inBody.2.1 82 bk_Reader_inBody_82 := qz_cab_ok _ _ (by decide +kernel)
theorem ca_Reader_inBody_109 : qz_ca yd_Reader_inBody.2.1 109 bk_Reader_inBody_109 := qz_cab_ok _ _ (by decide +kernel)
theorem ca_Reader_inBody_110 : qz_ca yd_Reader_inBody.2.1 110 bk_Reader_inBody_110 := qz_cab_ok _ _ (by decide +kernel)
theorem ca_Reader_inBody_52 : qz_ca yd_Reader_inBody.2.1 52 bk_Reader_inBody_52 := qz_cab_ok _ _ (by decide +kernel)
theorem ca_Reader_inBody_53 : qz_ca yd_Reader_inBody.2.1 53 bk_Reader_inBody_53 := qz_cab_ok _ _ (by decide +kernel)
set_option maxRecDepth 20000 in
theorem jb_Reader_inBody_110 (G : qz_G) (s0 : Int) (h : qz_H) : qz_J yd_Reader_inBody G bk_Reader_inBody_110 110 [qz_u, qz_u, qz_u] [qz_i s0] h 0 0 (fn_Reader_inBody_110 s0 h) := by
  unfold fn_Reader_inBody_110 bk_Reader_inBody_110; exact
    qz_ireturn ⟨rfl, rfl⟩ rfl
set_option maxRecDepth 20000 in
theorem jb_Reader_inBody_109 (G : qz_G) (h : qz_H) : qz_J yd_Reader_inBody G bk_Reader_inBody_109 109 [qz_u, qz_u, qz_u] [] h 0 0 (fn_Reader_inBody_109 h) := by
  unfold fn_Reader_inBody_109 bk_Reader_inBody_109; exact
    qz_iconst rfl <|
    qz_fall rfl ca_Reader_inBody_110 <|
    qz_fgt [0, 0, 0] <| jb_Reader_inBody_110 G 1 h
set_option maxRecDepth 20000 in
theorem jb_Reader_inBody_53 (G : qz_G) (s0 : Int) (h : qz_H) : qz_J yd_Reader_inBody G bk_Reader_inBody_53 53 [qz_u, qz_u, qz_u] [qz_i s0] h 0 0 (fn_Reader_inBody_53 s0 h) := by
  unfold fn_Reader_inBody_53 bk_Reader_inBody_53; exact
    qz_ireturn ⟨rfl, rfl⟩ rfl
set_option maxRecDepth 20000 in
theorem cn_Reader_inBody (l0 : Int) (l1 : Int) (h : qz_H) : qz_C yd_Reader_inBody [qz_r true 9 l0, qz_r false 5 l1] h (fn_Reader_inBody l0 l1 h) := by
  refine qz_con (is := bk_Reader_inBody_0) (ls := [qz_r true 9 l0, qz_r false 5 l1, qz_u]) mw_Reader_inBody.2.2.2 ca_Reader_inBody_0 rfl rfl fun G => ?_
  unfold fn_Reader_inBody bk_Reader_inBody_0; exact
    qz_aload_n rfl <|
    qz_getI kg_9 fl_Reader_57 rfl rfl <|
    qz_istore_n (by decide) fun x1 =>
    qz_aload_n rfl <|
    qz_bipush rfl <|
    qz_putI kw_9 fp_Reader_57_Reader_inBody rfl rfl fun h2 =>
    qz_aload_n rfl <|
    qz_getR (k1 := 10) kg_9 fl_Reader_33 rfl rfl <|
    qz_nnd 0 rfl <|
    qz_getI kg_10 fl_Reader_73 rfl rfl <|
    qz_if_ne rfl ca_Reader_inBody_26
      (qz_aload_n rfl <|
        qz_getR (k1 := 10) kg_9 fl_Reader_33 rfl rfl <|
        qz_nnd 0 rfl <|
        qz_getI kg_10 fl_Reader_73 rfl rfl <|
        qz_iconst rfl <|
        qz_icmp_ne rfl ca_Reader_inBody_54
          (qz_aload_n rfl <|
            qz_getR (k1 := 10) kg_9 fl_Reader_33 rfl rfl <|
            qz_nnd 0 rfl <|
            qz_invvI [] rfl (cn_Scanner_isName (h2 l0 0) h2) mw_Scanner_isName vw_Scanner_isName ⟨_, rfl, rfl, by decide⟩ rfl rfl ln_Reader_181 rfl fun r3 h4 =>
            qz_if_ne rfl ca_Reader_inBody_70
              (qz_iload_n rfl <|
                qz_bipush rfl <|
                qz_icmp_ne rfl ca_Reader_inBody_82
                  (qz_iload_n rfl <|
                    qz_iconst rfl <|
                    qz_icmp_eq rfl ca_Reader_inBody_109
                      (qz_fgt [0, 0, 0] <| jb_Reader_inBody_109 G h4)
                      (qz_aload_n rfl <|
                        qz_getR (k1 := 10) kg_9 fl_Reader_33 rfl rfl <|
                        qz_iload_n rfl <|
                        qz_aload_n rfl <|
                        qz_getR (k1 := 10) kg_9 fl_Reader_33 rfl rfl <|
                        qz_nnd 0 rfl <|
                        qz_getI kg_10 fl_Reader_63 rfl rfl <|
                        qz_nnd 2 rfl <|
                        qz_invvI [qz_i x1, qz_i (h4 (h4 l0 0) 2)] rfl (cn_Scanner_same (h4 l0 0) x1 (h4 (h4 l0 0) 2) h4) mw_Scanner_same vw_Scanner_same ⟨_, rfl, rfl, by decide⟩ rfl rfl ln_Reader_227 rfl fun r5 h6 =>
                        qz_if_eq rfl ca_Reader_inBody_109
                          (qz_fgt [0, 0, 0] <| jb_Reader_inBody_109 G h6)
                          (qz_iconst rfl <|
                            qz_goto rfl ca_Reader_inBody_110 <|
                            qz_fgt [0, 0, 0] <| jb_Reader_inBody_110 G 0 h6)))
                  (qz_aload_n rfl <|
                    qz_aload_n rfl <|
                    qz_invvI [qz_r false 5 l1] rfl (cn_Reader_giveName l0 l1 h4) mw_Reader_giveName vw_Reader_giveName ⟨_, rfl, rfl, by decide⟩ rfl rfl ln_Reader_224 rfl fun r7 h8 =>
                    qz_ireturn ⟨rfl, rfl⟩ rfl))
              (qz_aload_n rfl <|
                qz_aload_n rfl <|
                qz_invvI [qz_r false 5 l1] rfl (cn_Reader_instructionIn l0 l1 h4) mw_Reader_instructionIn vw_Reader_instructionIn ⟨_, rfl, rfl, by decide⟩ rfl rfl ln_Reader_221 rfl fun r9 h10 =>
                qz_ireturn ⟨rfl, rfl⟩ rfl))
          (qz_aload_n rfl <|
            qz_nnd 0 rfl <|
            qz_getI kg_5 fl_Reader_83 rfl rfl <|
            qz_iconst rfl <|
            qz_icmp_ne rfl ca_Reader_inBody_52
              (qz_iconst rfl <|
                qz_fall rfl ca_Reader_inBody_53 <|
                qz_fgt [0, 0, 0] <| jb_Reader_inBody_53 G 1 h2)
              (qz_aload_n rfl <|
                qz_invvI [] rfl (cn_Reader_close l0 h2) mw_Reader_close vw_Reader_close ⟨_, rfl, rfl, by decide⟩ rfl rfl ln_Reader_121 rfl fun r11 h12 =>
                qz_goto rfl ca_Reader_inBody_53 <|
                qz_fgt [0, 0, 0] <| jb_Reader_inBody_53 G r11 h12)))
      (qz_aload_n rfl <|
        qz_invvI [] rfl (cn_Reader_open l0 h2) mw_Reader_open vw_Reader_open ⟨_, rfl, rfl, by decide⟩ rfl rfl ln_Reader_118 rfl fun r13 h14 =>
        qz_ireturn ⟨rfl, rfl⟩ rfl)
set_option maxRecDepth 20000 in
def fn_Reader_judge (l0 : Int) (l1 : Int) (h : qz_H) : Option qz_R :=
  if h l0 6 = 0 then
    qz_ck ((l1 : Int) ≠ 0) <|
    qz_swt (h l1 0) [
      (0,
        qz_bc (fn_Reader_inText l0 l1 h) fun r1 h2 =>
        some (r1, h2)),
      (1,
        qz_bc (fn_Reader_behindOpening l0 l1 h) fun r3 h4 =>
        some (r3, h4)),
      (2,
        qz_bc (fn_Reader_inModule l0 h) fun r5 h6 =>
        some (r5, h6)),
      (3,
        qz_bc (fn_Reader_inBody l0 l1 h) fun r7 h8 =>
        some (r7, h8)),
      (4,
        qz_bc (fn_Reader_inDeclaration l0 l1 h) fun r9 h10 =>
        some (r9, h10)),
      (5,
        qz_bc (fn_Reader_inDeclaration l0 l1 h) fun r11 h12 =>
        some (r11, h12)),
      (6,
        qz_bc (fn_Reader_inResult l0 l1 h) fun r13 h14 =>
        some (r13, h14)),
      (7,
        qz_bc (fn_Reader_inFolded l0 l1 h) fun r15 h16 =>
        some (r15, h16))] <|
      qz_bc (fn_Reader_inBody l0 l1 h) fun r17 h18 =>
      some (r17, h18)
  else
    qz_bc (fn_Reader_inOperand l0 l1 h) fun r19 h20 =>
    some (r19, h20)
def bk_Reader_judge_0 : List (Instr × Nat) := [(.aload_n 0, 1), (.getfield 53, 3), (.ifCond .eq 9, 3), (.aload_n 0, 1), (.aload_n 1, 1), (.invokevirtual 80, 3), (.ireturn, 1)]
def bk_Reader_judge_13 : List (Instr × Nat) := [(.aload_n 1, 1), (.getfield 83, 3), (.tableswitch 82 0 7 #[47, 53, 59, 82, 64, 64, 70, 76], 47)]
def bk_Reader_judge_64 : List (Instr × Nat) := [(.aload_n 0, 1), (.aload_n 1, 1), (.invokevirtual 84, 3), (.ireturn, 1)]
def bk_Reader_judge_70 : List (Instr × Nat) := [(.aload_n 0, 1), (.aload_n 1, 1), (.invokevirtual 87, 3), (.ireturn, 1)]
def bk_Reader_judge_76 : List (Instr × Nat) := [(.aload_n 0, 1), (.invokevirtual 90, 3), (.ireturn, 1)]
def bk_Reader_judge_99 : List (Instr × Nat) := [(.aload_n 0, 1), (.aload_n 1, 1), (.invokevirtual 102, 3), (.ireturn, 1)]
def bk_Reader_judge_81 : List (Instr × Nat) := [(.aload_n 0, 1), (.aload_n 1, 1), (.invokevirtual 93, 3), (.ireturn, 1)]
def bk_Reader_judge_87 : List (Instr × Nat) := [(.aload_n 0, 1), (.aload_n 1, 1), (.invokevirtual 96, 3), (.ireturn, 1)]
def bk_Reader_judge_93 : List (Instr × Nat) := [(.aload_n 0, 1), (.aload_n 1, 1), (.invokevirtual 99, 3), (.ireturn, 1)]
theorem ca_Reader_judge_0 : qz_ca yd_Reader_judge.2.1 0 bk_Reader_judge_0 := qz_cab_ok _ _ (by decide +kernel)
theorem ca_Reader_judge_13 : qz_ca yd_Reader_judge.2.1 13 bk_Reader_judge_13 := qz_cab_ok _ _ (by decide +kernel)
theorem ca_Reader_judge_64 : qz_ca yd_Reader_judge.2.1 64 bk_Reader_judge_64 := qz_cab_ok _ _ (by decide +kernel)
theorem ca_Reader_judge_70 : qz_ca yd_Reader_judge.2.1 70 bk_Reader_judge_70 := qz_cab_ok _ _ (by decide +kernel)
theorem ca_Reader_judge_76 : qz_ca yd_Reader_judge.2.1 76 bk_Reader_judge_76 := qz_cab_ok _ _ (by decide +kernel)
theorem ca_Reader_judge_99 : qz_ca yd_Reader_judge.2.1 99 bk_Reader_judge_99 := qz_cab_ok _ _ (by decide +kernel)
theorem ca_Reader_judge_81 : qz_ca yd_Reader_judge.2.1 81 bk_Reader_judge_81 := qz_cab_ok _ _ (by decide +kernel)
theorem ca_Reader_judge_87 : qz_ca yd_Reader_judge.2.1 87 bk_Reader_judge_87 := qz_cab_ok _ _ (by decide +kernel)
theorem ca_Reader_judge_93 : qz_ca yd_Reader_judge.2.1 93 bk_Reader_judge_93 := qz_cab_ok _ _ (by decide +kernel)
set_option maxRecDepth 20000 in
theorem cn_Reader_judge (l0 : Int) (l1 : Int) (h : qz_H) : qz_C yd_Reader_judge [qz_r true 9 l0, qz_r false 5 l1] h (fn_Reader_judge l0 l1 h) := by
  refine qz_con (is := bk_Reader_judge_0) (ls := [qz_r true 9 l0, qz_r false 5 l1]) mw_Reader_judge.2.2.2 ca_Reader_judge_0 rfl rfl fun G => ?_
  unfold fn_Reader_judge bk_Reader_judge_0; exact
    qz_aload_n rfl <|
    qz_getI kg_9 fl_Reader_53 rfl rfl <|
    qz_if_eq rfl ca_Reader_judge_13
      (qz_aload_n rfl <|
        qz_nnd 0 rfl <|
        qz_getI kg_5 fl_Reader_83 rfl rfl <|
        qz_tsw [(0, 64, bk_Reader_judge_64), (1, 70, bk_Reader_judge_70), (2, 76, bk_Reader_judge_76), (3, 99, bk_Reader_judge_99), (4, 81, bk_Reader_judge_81), (5, 81, bk_Reader_judge_81), (6, 87, bk_Reader_judge_87), (7, 93, bk_Reader_judge_93)] ca_Reader_judge_99 rfl rfl rfl
          ⟨ca_Reader_judge_64, qz_aload_n rfl <|
            qz_aload_n rfl <|
            qz_invvI [qz_r false 5 l1] rfl (cn_Reader_inText l0 l1 h) mw_Reader_inText vw_Reader_inText ⟨_, rfl, rfl, by decide⟩ rfl rfl ln_Reader_84 rfl fun r1 h2 =>
            qz_ireturn ⟨rfl, rfl⟩ rfl,
          ⟨ca_Reader_judge_70, qz_aload_n rfl <|
            qz_aload_n rfl <|
            qz_invvI [qz_r false 5 l1] rfl (cn_Reader_behindOpening l0 l1 h) mw_Reader_behindOpening vw_Reader_behindOpening ⟨_, rfl, rfl, by decide⟩ rfl rfl ln_Reader_87 rfl fun r3 h4 =>
            qz_ireturn ⟨rfl, rfl⟩ rfl,
          ⟨ca_Reader_judge_76, qz_aload_n rfl <|
            qz_invvI [] rfl (cn_Reader_inModule l0 h) mw_Reader_inModule vw_Reader_inModule ⟨_, rfl, rfl, by decide⟩ rfl rfl ln_Reader_90 rfl fun r5 h6 =>
            qz_ireturn ⟨rfl, rfl⟩ rfl,
          ⟨ca_Reader_judge_99, qz_aload_n rfl <|
            qz_aload_n rfl <|
            qz_invvI [qz_r false 5 l1] rfl (cn_Reader_inBody l0 l1 h) mw_Reader_inBody vw_Reader_inBody ⟨_, rfl, rfl, by decide⟩ rfl rfl ln_Reader_102 rfl fun r7 h8 =>
            qz_ireturn ⟨rfl, rfl⟩ rfl,
          ⟨ca_Reader_judge_81, qz_aload_n rfl <|
            qz_aload_n rfl <|
            qz_invvI [qz_r false 5 l1] rfl (cn_Reader_inDeclaration l0 l1 h) mw_Reader_inDeclaration vw_Reader_inDeclaration ⟨_, rfl, rfl, by decide⟩ rfl rfl ln_Reader_93 rfl fun r9 h10 =>
            qz_ireturn ⟨rfl, rfl⟩ rfl,
          ⟨ca_Reader_judge_81, qz_aload_n rfl <|
            qz_aload_n rfl <|
            qz_invvI [qz_r false 5 l1] rfl (cn_Reader_inDeclaration l0 l1 h) mw_Reader_inDeclaration vw_Reader_inDeclaration ⟨_, rfl, rfl, by decide⟩ rfl rfl ln_Reader_93 rfl fun r11 h12 =>
            qz_ireturn ⟨rfl, rfl⟩ rfl,
          ⟨ca_Reader_judge_87, qz_aload_n rfl <|
            qz_aload_n rfl <|
            qz_invvI [qz_r false 5 l1] rfl (cn_Reader_inResult l0 l1 h) mw_Reader_inResult vw_Reader_inResult ⟨_, rfl, rfl, by decide⟩ rfl rfl ln_Reader_96 rfl fun r13 h14 =>
            qz_ireturn ⟨rfl, rfl⟩ rfl,
          ⟨ca_Reader_judge_93, qz_aload_n rfl <|
            qz_aload_n rfl <|
            qz_invvI [qz_r false 5 l1] rfl (cn_Reader_inFolded l0 l1 h) mw_Reader_inFolded vw_Reader_inFolded ⟨_, rfl, rfl, by decide⟩ rfl rfl ln_Reader_99 rfl fun r15 h16 =>
            qz_ireturn ⟨rfl, rfl⟩ rfl,
          trivial⟩⟩⟩⟩⟩⟩⟩⟩
          (qz_aload_n rfl <|
            qz_aload_n rfl <|
            qz_invvI [qz_r false 5 l1] rfl (cn_Reader_inBody l0 l1 h) mw_Reader_inBody vw_Reader_inBody ⟨_, rfl, rfl, by decide⟩ rfl rfl ln_Reader_102 rfl fun r17 h18 =>
            qz_ireturn ⟨rfl, rfl⟩ rfl))
      (qz_aload_n rfl <|
        qz_aload_n rfl <|
        qz_invvI [qz_r false 5 l1] rfl (cn_Reader_inOperand l0 l1 h) mw_Reader_inOperand vw_Reader_inOperand ⟨_, rfl, rfl, by decide⟩ rfl rfl ln_Reader_80 rfl fun r19 h20 =>
        qz_ireturn ⟨rfl, rfl⟩ rfl)
def fn_Reader_findFunctions_117 (l1 : Int) (h : qz_H) : Option qz_R :=
  some (l1, h)
def fn_Reader_findFunctions_111 (k4 : Int → Int → Int → qz_H → Option qz_R) (l0 : Int) (l1 : Int) (l2 : Int) (h : qz_H) : Option qz_R :=
  qz_bn (qz_w (l2 + 1)) fun x1 =>
  k4 l0 l1 x1 h
def fn_Reader_findFunctions_106 (k4 : Int → Int → Int → qz_H → Option qz_R) (l0 : Int) (l2 : Int) (s0 : Int) (s1 : Int) (h : qz_H) : Option qz_R :=
  qz_ck ((0 : Int) < s0) <|
  qz_bn (qz_up h s0 9 s1) fun h1 =>
  qz_bn (1 : Int) fun x2 =>
  fn_Reader_findFunctions_111 k4 l0 x2 l2 h1
def fn_Reader_findFunctions_4_b (k4 : Int → Int → Int → qz_H → Option qz_R) (l0 : Int) (l1 : Int) (l2 : Int) (h : qz_H) : Option qz_R :=
  qz_ck ((h l0 4 : Int) ≠ 0) <|
  if h (h l0 4) 4 ≤ l2 then
    fn_Reader_findFunctions_117 l1 h
  else
    if 64 ≤ l2 then
      fn_Reader_findFunctions_117 l1 h
    else
      qz_ck ((h l0 4 : Int) ≠ 0) <|
      qz_ck ((h (h l0 4) 1 : Int) ≠ 0) <|
      qz_ck ((0 : Int) ≤ l2 ∧ l2 < h (h (h l0 4) 1) (-1)) <|
      if ¬ h (h (h l0 4) 1) l2 = (-11) then
        fn_Reader_findFunctions_111 k4 l0 l1 l2 h
      else
        qz_ck ((h l0 4 : Int) ≠ 0) <|
        qz_ck ((h (h l0 4) 2 : Int) ≠ 0) <|
        qz_ck ((0 : Int) ≤ l2 ∧ l2 < h (h (h l0 4) 2) (-1)) <|
        if 0 ≤ qz_cmp (h (h (h l0 4) 2) l2) 0 then
          fn_Reader_findFunctions_111 k4 l0 l1 l2 h
        else
          qz_ck ((h l0 4 : Int) ≠ 0) <|
          qz_ck ((h (h l0 4) 2 : Int) ≠ 0) <|
          qz_ck ((0 : Int) ≤ l2 ∧ l2 < h (h (h l0 4) 2) (-1)) <|
          qz_bn (qz_w (qz_x ((-1) - (h (h (h l0 4) 2) l2))) : Int) fun x1 =>
          qz_bc (fn_Reader_functionNamed l0 x1 h) fun r2 h3 =>
          qz_bn (r2 : Int) fun x4 =>
          qz_ck ((h3 l0 4 : Int) ≠ 0) <|
          qz_ck ((h3 (h3 l0 4) 2 : Int) ≠ 0) <|
          qz_ck (0 < h3 (h3 l0 4) 2 ∧ (0 : Int) ≤ l2 ∧ l2 < h3 (h3 (h3 l0 4) 2) (-1)) <|
          qz_bn (qz_up h3 (h3 (h3 l0 4) 2) l2 x4) fun h5 =>
          if 0 ≤ x4 then
            fn_Reader_findFunctions_111 k4 l0 l1 l2 h5
          else
            if ¬ l1 = 0 then
              fn_Reader_findFunctions_106 k4 l0 l2 l0 (qz_min (h5 l0 9) x1) h5
            else
              fn_Reader_findFunctions_106 k4 l0 l2 l0 x1 h5
def fn_Reader_findFunctions_4 : Nat → Int → Int → Int → qz_H → Option qz_R
  | 0, _, _, _, _ => none
  | n + 1, l0, l1, l2, h => fn_Reader_findFunctions_4_b (fn_Reader_findFunctions_4 n) l0 l1 l2 h
set_option maxRecDepth 20000 in
def fn_Reader_findFunctions (l0 : Int) (h : qz_H) : Option qz_R :=
  qz_bn (0 : Int) fun x1 =>
  qz_bn (0 : Int) fun x2 =>
  fn_Reader_findFunctions_4 qz_NF l0 x1 x2 h
def bk_Reader_findFunctions_0 : List (Instr × Nat) := [(.iconst 0, 1), (.istore_n 1, 1), (.iconst 0, 1), (.istore_n 2, 1)]
def bk_Reader_findFunctions_4 : List (Instr × Nat) := [(.iload_n 2, 1), (.aload_n 0, 1), (.getfield 24, 3), (.getfield 214, 3), (.if_icmp .ge 105, 3), (.iload_n 2, 1), (.bipush 64, 2), (.if_icmp .ge 99, 3), (.aload_n 0, 1), (.getfield 24, 3), (.getfield 253, 3), (.iload_n 2, 1), (.aaload, 1), (.getstatic 298, 3), (.if_acmp .ne 78, 3), (.aload_n 0, 1), (.getfield 24, 3), (.getfield 217, 3), (.iload_n 2, 1), (.laload, 1), (.lconst 0, 1), (.lcmp, 1), (.ifCond .ge 64, 3), (.ldc2_w 275, 3), (.aload_n 0, 1), (.getfield 24, 3), (.getfield 217, 3), (.iload_n 2, 1), (.laload, 1), (.lsub, 1), (.l2i, 1), (.istore_n 3, 1), (.aload_n 0, 1), (.iload_n 3, 1), (.invokevirtual 231, 3), (.istore 4, 2), (.aload_n 0, 1), (.getfield 24, 3), (.getfield 217, 3), (.iload_n 2, 1), (.iload 4, 2), (.i2l, 1), (.lastore, 1), (.iload 4, 2), (.ifCond .ge 25, 3), (.aload_n 0, 1), (.iload_n 1, 1), (.ifCond .ne 7, 3), (.iload_n 3, 1), (.goto 11, 3)]
def bk_Reader_findFunctions_117 : List (Instr × Nat) := [(.iload_n 1, 1), (.ireturn, 1)]
def bk_Reader_findFunctions_111 : List (Instr × Nat) := [(.iinc 2 1, 3), (.goto (-110), 3)]
def bk_Reader_findFunctions_98 : List (Instr × Nat) := [(.aload_n 0, 1), (.getfield 66, 3), (.iload_n 3, 1), (.invokestatic 301, 3)]
def bk_Reader_findFunctions_106 : List (Instr × Nat) := [(.putfield 66, 3), (.iconst 1, 1), (.istore_n 1, 1)]
theorem ca_Reader_findFunctions_0 : qz_ca yd_Reader_findFunctions.2.1 0 bk_Reader_findFunctions_0 := qz_cab_ok _ _ (by decide +kernel)
theorem ca_Reader_findFunctions_4 : qz_ca yd_Reader_findFunctions.2.1 4 bk_Reader_findFunctions_4 := qz_cab_ok _ _ (by decide +kernel)
theorem ca_Reader_findFunctions_117 : qz_ca yd_Reader_findFunctions.2.1 117 bk_Reader_findFunctions_117 := qz_cab_ok _ _ (by decide +kernel)
theorem ca_Reader_findFunctions_111 : qz_ca yd_Reader_findFunctions.2.1 111 bk_Reader_findFunctions_111 := qz_cab_ok _ _ (by decide +kernel)
theorem ca_Reader_findFunctions_98 : qz_ca yd_Reader_findFunctions.2.1 98 bk_Reader_findFunctions_98 := qz_cab_ok _ _ (by decide +kernel)
theorem ca_Reader_findFunctions_106 : qz_ca yd_Reader_findFunctions.2.1 106 bk_Reader_findFunctions_106 := qz_cab_ok _ _ (by decide +kernel)
set_option maxRecDepth 20000 in
theorem jb_Reader_findFunctions_117 (G : qz_G) (l1 : Int) (h : qz_H) : qz_J yd_Reader_findFunctions G bk_Reader_findFunctions_117 117 [qz_u, qz_i l1, qz_u, qz_u, qz_u] [] h 0 0 (fn_Reader_findFunctions_117 l1 h) := by
  unfold fn_Reader_findFunctions_117 bk_Reader_findFunctions_117; exact
    qz_iload_n rfl <|
    qz_ireturn ⟨rfl, rfl⟩ rfl
set_option maxRecDepth 20000 in
theorem jb_Reader_findFunctions_111 (G : qz_G) (k4 : Int → Int → Int → qz_H → Option qz_R) (jk4 : ∀ (l0 : Int) (l1 : Int) (l2 : Int) (h : qz_H), qz_J yd_Reader_findFunctions G bk_Reader_findFunctions_4 4 [qz_r true 9 l0, qz_i l1, qz_i l2, qz_u, qz_u] [] h 0 0 (k4 l0 l1 l2 h)) (l0 : Int) (l1 : Int) (l2 : Int) (h : qz_H) : qz_J yd_Reader_findFunctions G bk_Reader_findFunctions_111 111 [qz_r true 9 l0, qz_i l1, qz_i l2, qz_u, qz_u] [] h 0 0 (fn_Reader_findFunctions_111 k4 l0 l1 l2 h) := by
  unfold fn_Reader_findFunctions_111 bk_Reader_findFunctions_111; exact
    qz_iinc rfl (by decide) fun x1 =>
    qz_goto rfl ca_Reader_findFunctions_4 <|
    qz_fgt [1, 1, 1, 0, 0] <| jk4 l0 l1 x1 h
set_option maxRecDepth 20000 in
theorem jb_Reader_findFunctions_106 (G : qz_G) (k4 : Int → Int → Int → qz_H → Option qz_R) (jk4 : ∀ (l0 : Int) (l1 : Int) (l2 : Int) (h : qz_H), qz_J yd_Reader_findFunctions G bk_Reader_findFunctions_4 4 [qz_r true 9 l0, qz_i l1, qz_i l2, qz_u, qz_u] [] h 0 0 (k4 l0 l1 l2 h)) (l0 : Int) (l2 : Int) (s0 : Int) (s1 : Int) (h : qz_H) : qz_J yd_Reader_findFunctions G bk_Reader_findFunctions_106 106 [qz_r true 9 l0, qz_u, qz_i l2, qz_u, qz_u] [qz_i s1, qz_r true 9 s0] h 0 0 (fn_Reader_findFunctions_106 k4 l0 l2 s0 s1 h) := by
  unfold fn_Reader_findFunctions_106 bk_Reader_findFunctions_106; exact
    qz_putI kw_9 fp_Reader_66_Reader_findFunctions rfl rfl fun h1 =>
    qz_iconst rfl <|
    qz_istore_n (by decide) fun x2 =>
    qz_fall rfl ca_Reader_findFunctions_111 <|
    qz_fgt [1, 1, 1, 0, 0] <| jb_Reader_findFunctions_111 G k4 jk4 l0 x2 l2 h1
set_option maxRecDepth 20000 in
theorem jb_Reader_findFunctions_4_b (G : qz_G) (k4 : Int → Int → Int → qz_H → Option qz_R) (jk4 : ∀ (l0 : Int) (l1 : Int) (l2 : Int) (h : qz_H), qz_J yd_Reader_findFunctions G bk_Reader_findFunctions_4 4 [qz_r true 9 l0, qz_i l1, qz_i l2, qz_u, qz_u] [] h 0 0 (k4 l0 l1 l2 h)) (l0 : Int) (l1 : Int) (l2 : Int) (h : qz_H) : qz_J yd_Reader_findFunctions G bk_Reader_findFunctions_4 4 [qz_r true 9 l0, qz_i l1, qz_i l2, qz_u, qz_u] [] h 0 0 (fn_Reader_findFunctions_4_b k4 l0 l1 l2 h) := by
  unfold fn_Reader_findFunctions_4_b bk_Reader_findFunctions_4; exact
    qz_iload_n rfl <|
    qz_aload_n rfl <|
    qz_getR (k1 := 6) kg_9 fl_Reader_24 rfl rfl <|
    qz_nnd 0 rfl <|
    qz_getI kg_6 fl_Reader_214 rfl rfl <|
    qz_icmp_ge rfl ca_Reader_findFunctions_117
      (qz_fgt [0, 1, 0, 0, 0] <| jb_Reader_findFunctions_117 G l1 h)
      (qz_iload_n rfl <|
        qz_bipush rfl <|
        qz_icmp_ge rfl ca_Reader_findFunctions_117
          (qz_fgt [0, 1, 0, 0, 0] <| jb_Reader_findFunctions_117 G l1 h)
          (qz_aload_n rfl <|
            qz_getR (k1 := 6) kg_9 fl_Reader_24 rfl rfl <|
            qz_nnd 0 rfl <|
            qz_getR (k1 := 46) kg_6 fl_Reader_253 rfl rfl <|
            qz_iload_n rfl <|
            qz_nnd 1 rfl <|
            qz_aald (k0 := 46) (k1 := 7) rfl rfl rfl <|
            qz_getsR sz_Op_CALL sl_Reader_298 rfl <|
            qz_acmp_ne rfl ca_Reader_findFunctions_111
              (qz_fgt [1, 1, 1, 0, 0] <| jb_Reader_findFunctions_111 G k4 jk4 l0 l1 l2 h)
              (qz_aload_n rfl <|
                qz_getR (k1 := 6) kg_9 fl_Reader_24 rfl rfl <|
                qz_nnd 0 rfl <|
                qz_getR (k1 := 41) kg_6 fl_Reader_217 rfl rfl <|
                qz_iload_n rfl <|
                qz_nnd 1 rfl <|
                qz_lald (k0 := 41) rfl rfl rfl <|
                qz_lconst rfl <|
                qz_lcmp <|
                qz_if_ge rfl ca_Reader_findFunctions_111
                  (qz_fgt [1, 1, 1, 0, 0] <| jb_Reader_findFunctions_111 G k4 jk4 l0 l1 l2 h)
                  (qz_ldc2 wc_Reader_275 rfl <|
                    qz_aload_n rfl <|
                    qz_getR (k1 := 6) kg_9 fl_Reader_24 rfl rfl <|
                    qz_nnd 0 rfl <|
                    qz_getR (k1 := 41) kg_6 fl_Reader_217 rfl rfl <|
                    qz_iload_n rfl <|
                    qz_nnd 1 rfl <|
                    qz_lald (k0 := 41) rfl rfl rfl <|
                    qz_lsub <|
                    qz_l2i <|
                    qz_istore_n (by decide) fun x1 =>
                    qz_aload_n rfl <|
                    qz_iload_n rfl <|
                    qz_invvI [qz_i x1] rfl (cn_Reader_functionNamed l0 x1 h) mw_Reader_functionNamed vw_Reader_functionNamed ⟨_, rfl, rfl, by decide⟩ rfl rfl ln_Reader_231 rfl fun r2 h3 =>
                    qz_istore (by decide) fun x4 =>
                    qz_aload_n rfl <|
                    qz_getR (k1 := 6) kg_9 fl_Reader_24 rfl rfl <|
                    qz_nnd 0 rfl <|
                    qz_getR (k1 := 41) kg_6 fl_Reader_217 rfl rfl <|
                    qz_iload_n rfl <|
                    qz_iload rfl <|
                    qz_i2l <|
                    qz_nnd 2 rfl <|
                    qz_last rfl rfl rfl fun h5 =>
                    qz_iload rfl <|
                    qz_if_ge rfl ca_Reader_findFunctions_111
                      (qz_fgt [1, 1, 1, 0, 0] <| jb_Reader_findFunctions_111 G k4 jk4 l0 l1 l2 h5)
                      (qz_aload_n rfl <|
                        qz_iload_n rfl <|
                        qz_if_ne rfl ca_Reader_findFunctions_98
                          (qz_aload_n rfl <|
                            qz_getI kg_9 fl_Reader_66 rfl rfl <|
                            qz_iload_n rfl <|
                            qz_mmin ma_Reader_301 rfl <|
                            qz_fall rfl ca_Reader_findFunctions_106 <|
                            qz_fgt [1, 0, 1, 0, 0] <| jb_Reader_findFunctions_106 G k4 jk4 l0 l2 l0 (qz_min (h5 l0 9) x1) h5)
                          (qz_iload_n rfl <|
                            qz_goto rfl ca_Reader_findFunctions_106 <|
                            qz_fgt [1, 0, 1, 0, 0] <| jb_Reader_findFunctions_106 G k4 jk4 l0 l2 l0 x1 h5))))))
theorem jb_Reader_findFunctions_4 (G : qz_G) : ∀ (n : Nat) (l0 l1 l2 : Int) (h : qz_H), qz_J yd_Reader_findFunctions G bk_Reader_findFunctions_4 4 [qz_r true 9 l0, qz_i l1, qz_i l2, qz_u, qz_u] [] h 0 0 (fn_Reader_findFunctions_4 n l0 l1 l2 h)
  | 0, _, _, _, _ => qz_none
  | n + 1, l0, l1, l2, h => jb_Reader_findFunctions_4_b G (fn_Reader_findFunctions_4 n) (jb_Reader_findFunctions_4 G n) l0 l1 l2 h
set_option maxRecDepth 20000 in
theorem cn_Reader_findFunctions (l0 : Int) (h : qz_H) : qz_C yd_Reader_findFunctions [qz_r true 9 l0] h (fn_Reader_findFunctions l0 h) := by
  refine qz_con (is := bk_Reader_findFunctions_0) (ls := [qz_r true 9 l0, qz_u, qz_u, qz_u, qz_u]) mw_Reader_findFunctions.2.2.2 ca_Reader_findFunctions_0 rfl rfl fun G => ?_
  unfold fn_Reader_findFunctions bk_Reader_findFunctions_0; exact
    qz_iconst rfl <|
    qz_istore_n (by decide) fun x1 =>
    qz_iconst rfl <|
    qz_istore_n (by decide) fun x2 =>
    qz_fall rfl ca_Reader_findFunctions_4 <|
    qz_fgt [1, 1, 1, 0, 0] <| jb_Reader_findFunctions_4 G qz_NF l0 x1 x2 h
def fn_Reader_read_48_b (k48 : Int → Int → qz_H → Option qz_R) (l0 : Int) (l3 : Int) (h : qz_H) : Option qz_R :=
  if 320 < l3 then
    some (1, h)
  else
    qz_ck ((h l0 0 : Int) ≠ 0) <|
    qz_bc (fn_Scanner_next (h l0 0) h) fun _ h2 =>
    qz_ck ((h2 l0 0 : Int) ≠ 0) <|
    qz_ck ((0 : Int) < l0) <|
    qz_bn (qz_up h2 l0 9 (h2 (h2 l0 0) 2)) fun h3 =>
    qz_ck ((h3 l0 1 : Int) ≠ 0) <|
    qz_ck ((0 : Int) ≤ h3 l0 5 ∧ h3 l0 5 < h3 (h3 l0 1) (-1)) <|
    qz_bc (fn_Reader_judge l0 (h3 (h3 l0 1) (h3 l0 5)) h3) fun r4 h5 =>
    qz_bn (r4 : Int) fun x6 =>
    if x6 = 0 then
      qz_ck ((h5 l0 0 : Int) ≠ 0) <|
      if ¬ h5 (h5 l0 0) 1 = 4 then
        qz_bn (qz_w (l3 + 1)) fun x7 =>
        k48 l0 x7 h5
      else
        qz_bc (fn_Reader_findFunctions l0 h5) fun r8 h9 =>
        some (r8, h9)
    else
      some (x6, h5)
def fn_Reader_read_48 : Nat → Int → Int → qz_H → Option qz_R
  | 0, _, _, _ => none
  | n + 1, l0, l3, h => fn_Reader_read_48_b (fn_Reader_read_48 n) l0 l3 h
set_option maxRecDepth 20000 in
def fn_Reader_read (l0 : Int) (l1 : Int) (l2 : Int) (h : qz_H) : Option qz_R :=
  qz_ck ((h l0 0 : Int) ≠ 0) <|
  qz_bc (fn_Scanner_begin (h l0 0) l1 h) fun _ h2 =>
  qz_ck ((0 : Int) < l0) <|
  qz_bn (qz_up h2 l0 4 l2) fun h3 =>
  qz_ck ((h3 l0 4 : Int) ≠ 0) <|
  qz_bc (fn_Module_clear (h3 l0 4) h3) fun _ h5 =>
  qz_ck ((0 : Int) < l0) <|
  qz_bn (qz_up h5 l0 5 0) fun h6 =>
  qz_ck ((h6 l0 1 : Int) ≠ 0) <|
  qz_ck ((0 : Int) ≤ 0 ∧ 0 < h6 (h6 l0 1) (-1)) <|
  qz_ck ((h6 (h6 l0 1) 0 : Int) ≠ 0) <|
  qz_bc (fn_Level_begin (h6 (h6 l0 1) 0) 0 h6) fun _ h8 =>
  qz_ck ((0 : Int) = 0 ∨ (0 : Int) = 1) <|
  qz_ck ((0 : Int) < l0) <|
  qz_bn (qz_up h8 l0 6 0) fun h9 =>
  qz_ck ((0 : Int) < l0) <|
  qz_bn (qz_up h9 l0 7 (-2)) fun h10 =>
  qz_bn (0 : Int) fun x11 =>
  fn_Reader_read_48 qz_NF l0 x11 h10
def bk_Reader_read_0 : List (Instr × Nat) := [(.aload_n 0, 1), (.getfield 33, 3), (.aload_n 1, 1), (.invokevirtual 38, 3), (.aload_n 0, 1), (.aload_n 2, 1), (.putfield 24, 3), (.aload_n 0, 1), (.getfield 24, 3), (.invokevirtual 41, 3), (.aload_n 0, 1), (.iconst 0, 1), (.putfield 46, 3), (.aload_n 0, 1), (.getfield 11, 3), (.iconst 0, 1), (.aaload, 1), (.iconst 0, 1), (.invokevirtual 50, 3), (.aload_n 0, 1), (.iconst 0, 1), (.putfield 53, 3), (.aload_n 0, 1), (.bipush (-2), 2), (.putfield 57, 3), (.iconst 0, 1), (.istore_n 3, 1)]
def bk_Reader_read_48 : List (Instr × Nat) := [(.iload_n 3, 1), (.sipush 320, 3), (.if_icmp .gt 66, 3), (.aload_n 0, 1), (.getfield 33, 3), (.invokevirtual 60, 3), (.aload_n 0, 1), (.aload_n 0, 1), (.getfield 33, 3), (.getfield 63, 3), (.putfield 66, 3), (.aload_n 0, 1), (.aload_n 0, 1), (.getfield 11, 3), (.aload_n 0, 1), (.getfield 46, 3), (.aaload, 1), (.invokevirtual 69, 3), (.istore 4, 2), (.iload 4, 2), (.ifCond .eq 6, 3), (.iload 4, 2), (.ireturn, 1)]
def bk_Reader_read_118 : List (Instr × Nat) := [(.iconst 1, 1), (.ireturn, 1)]
def bk_Reader_read_96 : List (Instr × Nat) := [(.aload_n 0, 1), (.getfield 33, 3), (.getfield 73, 3), (.iconst 4, 1), (.if_icmp .ne 8, 3), (.aload_n 0, 1), (.invokevirtual 76, 3), (.ireturn, 1)]
def bk_Reader_read_112 : List (Instr × Nat) := [(.iinc 3 1, 3), (.goto (-67), 3)]
theorem ca_Reader_read_0 : qz_ca yd_Reader_read.2.1 0 bk_Reader_read_0 := qz_cab_ok _ _ (by decide +kernel)
theorem ca_Reader_read_48 : qz_ca yd_Reader_read.2.1 48 bk_Reader_read_48 := qz_cab_ok _ _ (by decide +kernel)
theorem ca_Reader_read_118 : qz_ca yd_Reader_read.2.1 118 bk_Reader_read_118 := qz_cab_ok _ _ (by decide +kernel)
theorem ca_Reader_read_96 : qz_ca yd_Reader_read.2.1 96 bk_Reader_read_96 := qz_cab_ok _ _ (by decide +kernel)
theorem ca_Reader_read_112 : qz_ca yd_Reader_read.2.1 112 bk_Reader_read_112 := qz_cab_ok _ _ (by decide +kernel)
set_option maxRecDepth 20000 in
theorem jb_Reader_read_48_b (G : qz_G) (k48 : Int → Int → qz_H → Option qz_R) (jk48 : ∀ (l0 : Int) (l3 : Int) (h : qz_H), qz_J yd_Reader_read G bk_Reader_read_48 48 [qz_r true 9 l0, qz_u, qz_u, qz_i l3, qz_u] [] h 0 0 (k48 l0 l3 h)) (l0 : Int) (l3 : Int) (h : qz_H) : qz_J yd_Reader_read G bk_Reader_read_48 48 [qz_r true 9 l0, qz_u, qz_u, qz_i l3, qz_u] [] h 0 0 (fn_Reader_read_48_b k48 l0 l3 h) := by
  unfold fn_Reader_read_48_b bk_Reader_read_48; exact
    qz_iload_n rfl <|
    qz_sipush rfl <|
    qz_icmp_gt rfl ca_Reader_read_118
      (qz_iconst rfl <|
        qz_ireturn ⟨rfl, rfl⟩ rfl)
      (qz_aload_n rfl <|
        qz_getR (k1 := 10) kg_9 fl_Reader_33 rfl rfl <|
        qz_nnd 0 rfl <|
        qz_invvV [] rfl (cn_Scanner_next (h l0 0) h) mw_Scanner_next vw_Scanner_next ⟨_, rfl, rfl, by decide⟩ rfl rfl ln_Reader_60 rfl fun _ h2 =>
        qz_aload_n rfl <|
        qz_aload_n rfl <|
        qz_getR (k1 := 10) kg_9 fl_Reader_33 rfl rfl <|
        qz_nnd 0 rfl <|
        qz_getI kg_10 fl_Reader_63 rfl rfl <|
        qz_putI kw_9 fp_Reader_66_Reader_read rfl rfl fun h3 =>
        qz_aload_n rfl <|
        qz_aload_n rfl <|
        qz_getR (k1 := 47) kg_9 fl_Reader_11 rfl rfl <|
        qz_aload_n rfl <|
        qz_getI kg_9 fl_Reader_46 rfl rfl <|
        qz_nnd 1 rfl <|
        qz_aald (k0 := 47) (k1 := 5) rfl rfl rfl <|
        qz_invvI [qz_r false 5 (h3 (h3 l0 1) (h3 l0 5))] rfl (cn_Reader_judge l0 (h3 (h3 l0 1) (h3 l0 5)) h3) mw_Reader_judge vw_Reader_judge ⟨_, rfl, rfl, by decide⟩ rfl rfl ln_Reader_69 rfl fun r4 h5 =>
        qz_istore (by decide) fun x6 =>
        qz_iload rfl <|
        qz_if_eq rfl ca_Reader_read_96
          (qz_aload_n rfl <|
            qz_getR (k1 := 10) kg_9 fl_Reader_33 rfl rfl <|
            qz_nnd 0 rfl <|
            qz_getI kg_10 fl_Reader_73 rfl rfl <|
            qz_iconst rfl <|
            qz_icmp_ne rfl ca_Reader_read_112
              (qz_iinc rfl (by decide) fun x7 =>
                qz_goto rfl ca_Reader_read_48 <|
                qz_fgt [1, 0, 0, 1, 0] <| jk48 l0 x7 h5)
              (qz_aload_n rfl <|
                qz_invvI [] rfl (cn_Reader_findFunctions l0 h5) mw_Reader_findFunctions vw_Reader_findFunctions ⟨_, rfl, rfl, by decide⟩ rfl rfl ln_Reader_76 rfl fun r8 h9 =>
                qz_ireturn ⟨rfl, rfl⟩ rfl))
          (qz_iload rfl <|
            qz_ireturn ⟨rfl, rfl⟩ rfl))
theorem jb_Reader_read_48 (G : qz_G) : ∀ (n : Nat) (l0 l3 : Int) (h : qz_H), qz_J yd_Reader_read G bk_Reader_read_48 48 [qz_r true 9 l0, qz_u, qz_u, qz_i l3, qz_u] [] h 0 0 (fn_Reader_read_48 n l0 l3 h)
  | 0, _, _, _ => qz_none
  | n + 1, l0, l3, h => jb_Reader_read_48_b G (fn_Reader_read_48 n) (jb_Reader_read_48 G n) l0 l3 h
set_option maxRecDepth 20000 in
theorem cn_Reader_read (l0 : Int) (l1 : Int) (l2 : Int) (h : qz_H) : qz_C yd_Reader_read [qz_r true 9 l0, qz_r false 11 l1, qz_r false 6 l2] h (fn_Reader_read l0 l1 l2 h) := by
  refine qz_con (is := bk_Reader_read_0) (ls := [qz_r true 9 l0, qz_r false 11 l1, qz_r false 6 l2, qz_u, qz_u]) mw_Reader_read.2.2.2 ca_Reader_read_0 rfl rfl fun G => ?_
  unfold fn_Reader_read bk_Reader_read_0; exact
    qz_aload_n rfl <|
    qz_getR (k1 := 10) kg_9 fl_Reader_33 rfl rfl <|
    qz_aload_n rfl <|
    qz_nnd 1 rfl <|
    qz_invvV [qz_r false 11 l1] rfl (cn_Scanner_begin (h l0 0) l1 h) mw_Scanner_begin vw_Scanner_begin ⟨_, rfl, rfl, by decide⟩ rfl rfl ln_Reader_38 rfl fun _ h2 =>
    qz_aload_n rfl <|
    qz_aload_n rfl <|
    qz_putR (k1 := 6) kw_9 fp_Reader_24_Reader_read rfl rfl fun h3 =>
    qz_aload_n rfl <|
    qz_getR (k1 := 6) kg_9 fl_Reader_24 rfl rfl <|
    qz_nnd 0 rfl <|
    qz_invvV [] rfl (cn_Module_clear (h3 l0 4) h3) mw_Module_clear vw_Module_clear ⟨_, rfl, rfl, by decide⟩ rfl rfl ln_Reader_41 rfl fun _ h5 =>
    qz_aload_n rfl <|
    qz_iconst rfl <|
    qz_putI kw_9 fp_Reader_46_Reader_read rfl rfl fun h6 =>
    qz_aload_n rfl <|
    qz_getR (k1 := 47) kg_9 fl_Reader_11 rfl rfl <|
    qz_iconst rfl <|
    qz_nnd 1 rfl <|
    qz_aald (k0 := 47) (k1 := 5) rfl rfl rfl <|
    qz_iconst rfl <|
    qz_nnd 1 rfl <|
    qz_invvV [qz_i 0] rfl (cn_Level_begin (h6 (h6 l0 1) 0) 0 h6) mw_Level_begin vw_Level_begin ⟨_, rfl, rfl, by decide⟩ rfl rfl ln_Reader_50 rfl fun _ h8 =>
    qz_aload_n rfl <|
    qz_iconst rfl <|
    qz_putZ kw_9 fp_Reader_53_Reader_read rfl rfl fun h9 =>
    qz_aload_n rfl <|
    qz_bipush rfl <|
    qz_putI kw_9 fp_Reader_57_Reader_read rfl rfl fun h10 =>
    qz_iconst rfl <|
    qz_istore_n (by decide) fun x11 =>
    qz_fall rfl ca_Reader_read_48 <|
    qz_fgt [1, 0, 0, 1, 0] <| jb_Reader_read_48 G qz_NF l0 x11 h10
