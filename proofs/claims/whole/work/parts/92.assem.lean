/-! What the two readers are to do (bz_Rd), and assemble out of it. -/
def bz_CR (M : Int) (hc hc' : qz_H) : Prop := ∀ o i : Int, ¬ (30 ≤ o ∧ o ≤ 47) → ¬ (M ≤ o ∧ o ≤ M + 11) → hc' o i = hc o i
def bz_MR (hm hm' : qz_H) : Prop := (∀ o i : Int, o ≠ 67 → ¬ (79 ≤ o ∧ o ≤ 99) → hm' o i = hm o i) ∧ ∀ i : Int, (i < 15 ∨ 49 ≤ i) → hm' 67 i = hm 67 i
def bz_rd (hc hm : qz_H) (T M : Int) : Prop :=
  (∃ P hc' m1 hm', fn_Reader_read 30 T M hc = some (0, hc') ∧ fn_Md_readModule 67 hm = some (1, m1) ∧ fn_Md_resolve 67 m1 = some (1, hm') ∧ bz_wf P ∧ (∀ f : Int, 0 ≤ f → f < P 0 0 → bz_nst P f) ∧ bz_LC hc' ∧ bz_LM hm' ∧ bz_MC hc' M P ∧ bz_MN hm' P ∧ hm' 67 23 = P 4 (P 0 0) ∧ 0 ≤ P 4 (P 0 0) ∧ P 4 (P 0 0) ≤ 64 ∧ (∀ f : Int, 0 ≤ f → f < P 0 0 → P 4 (f + 1) ≤ P 4 (P 0 0)) ∧ bz_CR M hc hc' ∧ bz_MR hm hm') ∨
  (∃ w hc' hm', fn_Reader_read 30 T M hc = some (w, hc') ∧ (w = 1 ∨ w = 2) ∧ (fn_Md_readModule 67 hm = some (0, hm') ∨ ∃ m1, fn_Md_readModule 67 hm = some (1, m1) ∧ fn_Md_resolve 67 m1 = some (0, hm')) ∧ bz_LC hc' ∧ bz_LM hm' ∧ hc' 30 9 = hm' 67 34 ∧ hm' 67 38 = w ∧ bz_CR M hc hc' ∧ bz_MR hm hm')
def bz_Rd : Prop := ∀ (hc hm : qz_H) (T M : Int), (T = 2 ∨ T = 4) → (M = 6 ∨ M = 18) → bz_LC hc → bz_LM hm → bz_RT hc hm T → bz_rd hc hm T M
theorem bz_thL {h : qz_H} (hL : bz_LC h) : bz_LC (qz_th h) := by
  unfold qz_th
  refine ⟨fun q hq => ?_, fun x j x1 x2 x3 x4 => by rw [bz_uo (by omega)]; exact hL.2 x j x1 x2 x3 x4⟩
  have z : ∀ q ∈ bz_TC, q.1 ≠ 0 := by decide +kernel
  rw [bz_uo (z q hq)]
  exact hL.1 q hq
theorem bz_tho {h : qz_H} {o i : Int} (ho : o ≠ 0) : qz_th h o i = h o i := bz_uo ho
/-- what assemble leaves: texts, bytes, the other's objects -/
def bz_AC (hc hc' : qz_H) : Prop := ∀ o i : Int, (o = 1 ∧ (i = 4 ∨ i = 5) ∨ 2 ≤ o ∧ o ≤ 5 ∨ 63 ≤ o ∧ o ≤ 108 ∨ o = 109 ∧ i = -1 ∨ o ≤ -1) → hc' o i = hc o i
def bz_AM (hm hm' : qz_H) : Prop := (∀ o i : Int, (o ≤ 66 ∨ o = 71 ∨ 106 ≤ o) → hm' o i = hm o i) ∧ ∀ i : Int, (i = 5 ∨ i = 58) → hm' 67 i = hm 67 i
theorem bz_assem (rd : bz_Rd) {hc hm P : qz_H} {T M : Int} (hL : bz_LC hc) (hLM : bz_LM hm) (hT : T = 2 ∨ T = 4) (h4 : hc 1 4 = T) (hM : M = 6 ∨ M = 18) (h6 : hc 1 6 = M) (h7 : hc 1 7 = 24 - M) (h109 : hc 109 (-1) = 1) (rt : bz_RT hc hm T) (wf : bz_wf P) (mc : bz_MC hc M P) (mm : bz_MM hm P) (h8 : hc 1 8 = hm 67 4) :
    ∃ k b hc' hm', fn_Law_assemble 1 109 hc = some (k, hc') ∧ fn_Md_assemble 67 hm = some (b, hm') ∧ hm' 67 3 = k ∧ (k = 0 → hc' 109 0 = b) ∧ bz_LC hc' ∧ bz_LM hm' ∧ (∃ M1 P1, (M1 = 6 ∨ M1 = 18) ∧ hc' 1 6 = M1 ∧ hc' 1 7 = 24 - M1 ∧ bz_wf P1 ∧ bz_MC hc' M1 P1 ∧ bz_MM hm' P1) ∧ hc' 1 8 = hm' 67 4 ∧ bz_AC hc hc' ∧ bz_AM hm hm' := by
  have hN : 24 - M = 6 ∨ 24 - M = 18 := by omega
  have rr := rd hc hm T (24 - M) hT hN hL hLM rt
  generalize hNN : 24 - M = N at *
  have c10 := bz_c1_0 hL
  rcases rr with ⟨P1, h1, m0, m1, e1, e2, e3, wf1, ns, l1, k1, mc1, mn1, hy, hy1, hy2, mono, cr, mr⟩ | ⟨w, h1, m1, e1, hw, e2, l1, k1, e3, e4, cr, mr⟩
  · -- both have read it
    have d11 : h1 1 1 = 48 := bz_c1_1 l1
    have d17 : h1 1 7 = N := (cr 1 7 (by omega) (by omega)).trans h7
    have d16 : h1 1 6 = M := (cr 1 6 (by omega) (by omega)).trans h6
    have d18 : h1 1 8 = hc 1 8 := cr 1 8 (by omega) (by omega)
    rcases bz_valid hN wf1 ns l1 k1 mc1 mn1 with ⟨h2, m2, v1, v2, v3, v4, v5, v6, v7⟩ | ⟨h2, m2, v1, v2, v3, v4, v5, v6, v7⟩
    · -- valid
      have g16 : h2 1 6 = M := (v5 1 6 (by omega) (by omega) (by omega)).trans d16
      have g17 : h2 1 7 = N := (v5 1 7 (by omega) (by omega) (by omega)).trans d17
      have mc2 : bz_MC h2 N P1 := bz_MC_same hN wf1 (fun o i o1 o2 => v5 o i (by omega) (by omega) (by omega)) mc1
      have cT : fn_SA_assembleT 1 hc = none := by
        unfold fn_SA_assembleT fn_SA_assembleT_61
        rw [c10, bz_ck (by omega), h4, h7, e1, bz_bc, bz_bn, if_pos rfl, d11, bz_ck (by omega), d17, v1, bz_bc, if_pos (by omega), if_pos (by omega), if_pos (by omega), if_pos (by omega), bz_bn, bz_ck (by omega), bz_bn, bz_ck (by omega), bz_bn]
        unfold qz_ck
        split <;> rfl
      have cN : fn_SA_assemble 1 hc = some (P1 0 0, qz_up (qz_up h2 1 6 N) 1 7 M) := by
        unfold fn_SA_assemble fn_SA_assemble_61
        rw [c10, bz_ck (by omega), h4, h7, e1, bz_bc, bz_bn, if_pos rfl, d11, bz_ck (by omega), d17, v1, bz_bc, if_pos (by omega), if_pos (by omega), if_pos (by omega), if_pos (by omega), bz_bn, bz_ck (by omega), bz_bn, bz_ck (by omega), bz_bn, g16, g17, bz_ui (show (6 : Int) ≠ 7 by omega), bz_us, bz_ck (by omega), bz_uo (by omega), bz_uo (by omega), mc2.1]
      have cL : fn_Law_assemble 1 109 hc = some (0, qz_up (qz_up (qz_up h2 1 6 N) 1 7 M) 109 0 (P1 0 0)) := by
        unfold fn_Law_assemble
        rw [cT]
        show fn_Law_assembleN 1 109 hc = _
        unfold fn_Law_assembleN
        rw [bz_ck (by omega), cN, bz_bc, bz_ck (by omega), bz_uo (by omega), bz_uo (by omega), v5 109 (-1) (by omega) (by omega) (by omega), cr 109 (-1) (by omega) (by omega), h109, bz_ck (by omega), bz_bn]
      have l9 : bz_LM (qz_up m2 67 3 0) := bz_th_LM v4 0
      have mn9 : bz_MN (qz_up m2 67 3 0) P1 := bz_MN_same (by rw [bz_ui (by omega), v6.2 15 (by omega) (by omega) (by omega) (by omega)]) (fun o i o1 o2 => by rw [bz_uo (by omega), v6.1 o i (by omega) (by omega)]) mn1
      obtain ⟨m3, a1, a2, a3, a4, a5, a6⟩ := bz_adopt wf1 l9 mn9 (by rw [bz_ui (by omega), v6.2 23 (by omega) (by omega) (by omega) (by omega)]; exact hy) hy1 hy2 mono
      have mS : fn_Md_assemble 67 hm = some (P1 0 0, m3) := by
        unfold fn_Md_assemble
        rw [e2, bz_bc, if_neg (by omega), e3, bz_bc, if_pos (by omega), v2, bz_bc, if_pos (by omega), bz_ck (by omega), bz_bn, a1, bz_bc, a4]
      have big : ∀ o i : Int, o ≠ 1 → o ≠ 109 → qz_up (qz_up (qz_up h2 1 6 N) 1 7 M) 109 0 (P1 0 0) o i = h2 o i := fun o i o1 o2 => by rw [bz_uo o2, bz_uo o1, bz_uo o1]
      refine ⟨0, P1 0 0, _, m3, cL, mS, by rw [a5 3 (by omega), bz_us], fun _ => bz_us _ _ _ _, ?_, a2, ⟨N, P1, hN, ?_, ?_, wf1, ?_, a3⟩, ?_, ?_, ?_⟩
      · exact bz_LC_far (by omega) (bz_LC_up (a := 1) (b := 1) (c := 4) (e := 8) (by decide +kernel) (by omega) (by omega) (by omega) (by omega) (by omega) (bz_LC_up (a := 1) (b := 1) (c := 4) (e := 8) (by decide +kernel) (by omega) (by omega) (by omega) (by omega) (by omega) v3))
      · rw [bz_uo (by omega), bz_ui (by omega), bz_us]
      · rw [bz_uo (by omega), bz_us]; omega
      · exact bz_MC_same hN wf1 (fun o i o1 o2 => big o i (by omega) (by omega)) mc2
      · rw [bz_uo (by omega), bz_ui (by omega), bz_ui (by omega), v5 1 8 (by omega) (by omega) (by omega), d18, h8, a5 4 (by omega), bz_ui (by omega), v7, mr.2 4 (by omega)]
      · intro o i ho
        have z : qz_up (qz_up (qz_up h2 1 6 N) 1 7 M) 109 0 (P1 0 0) o i = h2 o i := by
          rcases ho with ho | ho | ho | ho | ho
          · rw [bz_uo (by omega), bz_ui (by omega), bz_ui (by omega)]
          · exact big o i (by omega) (by omega)
          · exact big o i (by omega) (by omega)
          · rw [bz_ui (by omega), bz_uo (by omega), bz_uo (by omega)]
          · exact big o i (by omega) (by omega)
        rw [z, v5 o i (by omega) (by omega) (by omega), cr o i (by omega) (by omega)]
      · refine ⟨fun o i ho => ?_, fun i hi => ?_⟩
        · rw [a6 o i (by omega) (by omega), bz_uo (by omega), v6.1 o i (by omega) (by omega), mr.1 o i (by omega) (by omega)]
        · rw [a5 i (by omega), bz_ui (by omega), v6.2 i (by omega) (by omega) (by omega) (by omega), mr.2 i (by omega)]
    · -- not valid
      have cT : fn_SA_assembleT 1 hc = some (3, qz_th (qz_up h2 1 8 (h2 48 7))) := by
        unfold fn_SA_assembleT fn_SA_assembleT_61
        rw [c10, bz_ck (by omega), h4, h7, e1, bz_bc, bz_bn, if_pos rfl, d11, bz_ck (by omega), d17, v1, bz_bc, if_neg (fun z => z rfl), bz_bn, bz_c1_1 v3, bz_ck (by omega), bz_ck (by omega), bz_bn, if_pos (by omega), if_pos (by omega), if_neg (fun z => z rfl)]
      have cL : fn_Law_assemble 1 109 hc = some (3, qz_th (qz_up h2 1 8 (h2 48 7))) := by
        unfold fn_Law_assemble
        rw [cT]
        rfl
      have mS : fn_Md_assemble 67 hm = some (0, qz_up m2 67 3 3) := by
        unfold fn_Md_assemble fn_Md_raise
        rw [e2, bz_bc, if_neg (by omega), e3, bz_bc, if_pos (by omega), v2, bz_bc, if_neg (fun z => z rfl), bz_ck (by omega), bz_bn, bz_bc]
      have frc : ∀ o i : Int, o ≠ 0 → ¬ (o = 1 ∧ i = 8) → o ≠ 48 → o ≠ 49 → ¬ (51 ≤ o ∧ o ≤ 62) → ¬ (30 ≤ o ∧ o ≤ 47) → ¬ (N ≤ o ∧ o ≤ N + 11) → qz_th (qz_up h2 1 8 (h2 48 7)) o i = hc o i := by
        intro o i o0 o1 o2 o3 o4 o5 o6
        have z : qz_up h2 1 8 (h2 48 7) o i = h2 o i := if_neg o1
        rw [bz_tho o0, z, v5 o i o2 o3 o4, cr o i o5 o6]
      have frm : ∀ o i : Int, o ≠ 67 → ¬ (100 ≤ o ∧ o ≤ 105) → ¬ (79 ≤ o ∧ o ≤ 99) → qz_up m2 67 3 3 o i = hm o i := fun o i o1 o2 o3 => by rw [bz_uo o1, v6.1 o i o1 o2, mr.1 o i o1 o3]
      refine ⟨3, 0, _, _, cL, mS, bz_us _ _ _ _, fun z => by omega, bz_thL (bz_LC_up (a := 1) (b := 1) (c := 4) (e := 8) (by decide +kernel) (by omega) (by omega) (by omega) (by omega) (by omega) v3), bz_th_LM v4 3, ⟨M, P, hM, ?_, ?_, wf, ?_, ?_⟩, ?_, ?_, ?_⟩
      · rw [frc 1 6 (by omega) (by omega) (by omega) (by omega) (by omega) (by omega) (by omega)]; exact h6
      · rw [frc 1 7 (by omega) (by omega) (by omega) (by omega) (by omega) (by omega) (by omega), h7]; omega
      · refine ⟨by rw [frc M 3 (by omega) (by omega) (by omega) (by omega) (by omega) (by omega) (by omega)]; exact mc.1, fun f f0 f1 => ?_⟩
        have w4 := wf.2.1
        obtain ⟨b1, b2, b3, b4, b5, b6, b7⟩ := mc.2 f f0 f1
        have ff : ∀ o i : Int, M ≤ o → o ≤ M + 11 → qz_th (qz_up h2 1 8 (h2 48 7)) o i = hc o i := fun o i o1 o2 => frc o i (by omega) (by omega) (by omega) (by omega) (by omega) (by omega) (by omega)
        rw [ff _ _ (by omega) (by omega), ff _ _ (by omega) (by omega), ff _ _ (by omega) (by omega), ff _ _ (by omega) (by omega), ff _ _ (by omega) (by omega)]
        refine ⟨b1, b2, b3, b4, b5, fun k k0 k1 => ?_, fun i i0 i1 => ?_⟩
        · rw [ff _ _ (by omega) (by omega)]; exact b6 k k0 k1
        · rw [ff _ _ (by omega) (by omega), ff _ _ (by omega) (by omega)]; exact b7 i i0 i1
      · exact bz_MM_same (by rw [bz_ui (by omega), v6.2 7 (by omega) (by omega) (by omega) (by omega), mr.2 7 (by omega)]) (fun o i o1 o2 => frm o i (by omega) (by omega) (by omega)) mm
      · rw [bz_tho (by omega), bz_us, bz_ui (by omega), v7]
      · exact fun o i ho => frc o i (by omega) (by omega) (by omega) (by omega) (by omega) (by omega) (by omega)
      · exact ⟨fun o i ho => frm o i (by omega) (by omega) (by omega), fun i hi => by rw [bz_ui (by omega), v6.2 i (by omega) (by omega) (by omega) (by omega), mr.2 i (by omega)]⟩
  · -- neither could read it
    have cT : fn_SA_assembleT 1 hc = some (w, qz_th (qz_up h1 1 8 (h1 30 9))) := by
      unfold fn_SA_assembleT fn_SA_assembleT_61
      rw [c10, bz_ck (by omega), h4, h7, e1, bz_bc, bz_bn, if_neg (by omega), bz_c1_0 l1, bz_ck (by omega), bz_ck (by omega), bz_bn]
      rcases hw with rfl | rfl
      · rw [if_neg (fun z => z rfl)]
      · rw [if_pos (by omega), if_neg (fun z => z rfl)]
    have cL : fn_Law_assemble 1 109 hc = some (w, qz_th (qz_up h1 1 8 (h1 30 9))) := by
      unfold fn_Law_assemble
      rw [cT]
      rcases hw with rfl | rfl <;> rfl
    have m14 : fn_Md_assemble_14 67 m1 = some (0, qz_up (qz_up m1 67 4 (m1 67 34)) 67 3 w) := by
      unfold fn_Md_assemble_14 fn_Md_raise
      rw [bz_ck (by omega), bz_bn, bz_ck (by omega), bz_bn, bz_bc, bz_ui (by omega), e4]
    have mS : fn_Md_assemble 67 hm = some (0, qz_up (qz_up m1 67 4 (m1 67 34)) 67 3 w) := by
      unfold fn_Md_assemble
      rcases e2 with e2 | ⟨m0, e2, e5⟩
      · rw [e2, bz_bc, if_pos rfl, m14]
      · rw [e2, bz_bc, if_neg (by omega), e5, bz_bc, if_neg (fun z => z rfl), m14]
    have frc : ∀ o i : Int, o ≠ 0 → ¬ (o = 1 ∧ i = 8) → ¬ (30 ≤ o ∧ o ≤ 47) → ¬ (N ≤ o ∧ o ≤ N + 11) → qz_th (qz_up h1 1 8 (h1 30 9)) o i = hc o i := by
      intro o i o0 o1 o5 o6
      have z : qz_up h1 1 8 (h1 30 9) o i = h1 o i := if_neg o1
      rw [bz_tho o0, z, cr o i o5 o6]
    have frm : ∀ o i : Int, o ≠ 67 → ¬ (79 ≤ o ∧ o ≤ 99) → qz_up (qz_up m1 67 4 (m1 67 34)) 67 3 w o i = hm o i := fun o i o1 o3 => by rw [bz_uo o1, bz_uo o1, mr.1 o i o1 o3]
    have l4 : bz_LM (qz_up m1 67 4 (m1 67 34)) := bz_LM_up (a := 67) (b := 67) (c := 4) (e := 4) (by decide +kernel) (by omega) (by omega) (by omega) (by omega) k1
    refine ⟨w, 0, _, _, cL, mS, bz_us _ _ _ _, fun z => by omega, bz_thL (bz_LC_up (a := 1) (b := 1) (c := 4) (e := 8) (by decide +kernel) (by omega) (by omega) (by omega) (by omega) (by omega) l1), bz_th_LM l4 w, ⟨M, P, hM, ?_, ?_, wf, ?_, ?_⟩, ?_, ?_, ?_⟩
    · rw [frc 1 6 (by omega) (by omega) (by omega) (by omega)]; exact h6
    · rw [frc 1 7 (by omega) (by omega) (by omega) (by omega), h7]; omega
    · refine ⟨by rw [frc M 3 (by omega) (by omega) (by omega) (by omega)]; exact mc.1, fun f f0 f1 => ?_⟩
      have w4 := wf.2.1
      obtain ⟨b1, b2, b3, b4, b5, b6, b7⟩ := mc.2 f f0 f1
      have ff : ∀ o i : Int, M ≤ o → o ≤ M + 11 → qz_th (qz_up h1 1 8 (h1 30 9)) o i = hc o i := fun o i o1 o2 => frc o i (by omega) (by omega) (by omega) (by omega)
      rw [ff _ _ (by omega) (by omega), ff _ _ (by omega) (by omega), ff _ _ (by omega) (by omega), ff _ _ (by omega) (by omega), ff _ _ (by omega) (by omega)]
      refine ⟨b1, b2, b3, b4, b5, fun k k0 k1 => ?_, fun i i0 i1 => ?_⟩
      · rw [ff _ _ (by omega) (by omega)]; exact b6 k k0 k1
      · rw [ff _ _ (by omega) (by omega), ff _ _ (by omega) (by omega)]; exact b7 i i0 i1
    · exact bz_MM_same (by rw [bz_ui (by omega), bz_ui (by omega), mr.2 7 (by omega)]) (fun o i o1 o2 => frm o i (by omega) (by omega)) mm
    · rw [bz_tho (by omega), bz_us, bz_ui (by omega), bz_us, e3]
    · exact fun o i ho => frc o i (by omega) (by omega) (by omega) (by omega)
    · exact ⟨fun o i ho => frm o i (by omega) (by omega), fun i hi => by rw [bz_ui (by omega), bz_ui (by omega), mr.2 i (by omega)]⟩
