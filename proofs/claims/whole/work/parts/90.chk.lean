section CKJ
variable {P : qz_H} {M : Int}
/-- one function, from its start -/
theorem bz_fnK {h0 m0 hc hm : qz_H} {f : Int} (hM : M = 6 ∨ M = 18) (wf : bz_wf P) (f0 : 0 ≤ f) (f1 : f < P 0 0) (ns : bz_nst P f) (k2 : Int → Int → qz_H → Option qz_R) (xk : bz_XK h0 hc M P f) (a6 : hc 48 6 = 0) (xl : bz_XL m0 hm P) : bz_FE h0 m0 M P f k2 (fn_Checker_checkFunction 48 hc) (qz_bc (fn_Md_frame 67 0 (P 3 f) (P 3 f) (qz_up (qz_up (qz_up hm 67 49 0) 67 51 0) 67 57 0)) fun _ h5 => fn_Md_isValid_60 k2 qz_NF 67 f (P 4 (f + 1) - P 4 f) 0 h5) := by
  have w4 := wf.2.1
  obtain ⟨x1, x2, x3, x4, x5, x6, x7, x8, x9, x10, x11⟩ := wf.2.2 f f0 f1
  have xk1 : bz_XK h0 (qz_up (qz_up hc 48 4 0) 48 5 0) M P f := (xk.up hM wf (by omega)).up hM wf (by omega)
  have xk2 : bz_XK h0 (qz_up (qz_up (qz_up (qz_up (qz_up (qz_up (qz_up hc 48 4 0) 48 5 0) 51 0 (P 3 f)) 51 1 (P 3 f)) 51 2 0) 51 3 0) 51 4 0) M P f := ((((xk1.up hM wf (by omega)).up hM wf (by omega)).up hM wf (by omega)).up hM wf (by omega)).up hM wf (by omega)
  have y0 : bz_XL m0 (qz_up (qz_up (qz_up hm 67 49 0) 67 51 0) 67 57 0) P := ((xl.up (by omega)).up (by omega)).up (by omega)
  have y1 : bz_XL m0 (qz_up (qz_up (qz_up (qz_up hm 67 49 0) 67 51 0) 67 57 0) 101 0 (P 3 f)) P := y0.up (by omega)
  have y2 : bz_XL m0 (qz_up (qz_up (qz_up (qz_up (qz_up hm 67 49 0) 67 51 0) 67 57 0) 101 0 (P 3 f)) 102 0 (P 3 f)) P := y1.up (by omega)
  have y3 : bz_XL m0 (qz_up (qz_up (qz_up (qz_up (qz_up (qz_up hm 67 49 0) 67 51 0) 67 57 0) 101 0 (P 3 f)) 102 0 (P 3 f)) 103 0 0) P := y2.up (by omega)
  have y4 : bz_XL m0 (qz_up (qz_up (qz_up (qz_up (qz_up (qz_up (qz_up hm 67 49 0) 67 51 0) 67 57 0) 101 0 (P 3 f)) 102 0 (P 3 f)) 103 0 0) 104 0 0) P := y3.up (by omega)
  have y5 : bz_XL m0 (qz_up (qz_up (qz_up (qz_up (qz_up (qz_up (qz_up (qz_up hm 67 49 0) 67 51 0) 67 57 0) 101 0 (P 3 f)) 102 0 (P 3 f)) 103 0 0) 104 0 0) 105 0 0) P := y4.up (by omega)
  have hcS : fn_Checker_checkFunction 48 hc = fn_Checker_checkFunction_36 qz_NF 48 0 (qz_up (qz_up (qz_up (qz_up (qz_up (qz_up (qz_up hc 48 4 0) 48 5 0) 51 0 (P 3 f)) 51 1 (P 3 f)) 51 2 0) 51 3 0) 51 4 0) := by
    have fb : fn_Frame_begin 51 (P 3 f) (P 3 f) 0 (qz_up (qz_up hc 48 4 0) 48 5 0) = some (0, qz_up (qz_up (qz_up (qz_up (qz_up (qz_up (qz_up hc 48 4 0) 48 5 0) 51 0 (P 3 f)) 51 1 (P 3 f)) 51 2 0) 51 3 0) 51 4 0) := by
      unfold fn_Frame_begin
      rw [bz_ck (by omega), bz_bn, bz_ck (by omega), bz_bn, bz_ck (by omega), bz_bn, bz_ck (by omega), bz_ck (by omega), bz_bn, bz_ck (by omega), bz_ck (by omega), bz_bn]
    unfold fn_Checker_checkFunction
    rw [bz_ck (by omega), bz_bn, bz_ck (by omega), bz_bn, bz_c48_1 xk1.1, bz_c50_m1 xk1.1, bz_ck (by omega), bz_ck (by omega), xk1.2.2.2.1, bz_ck (by omega), bz_ck (by omega), bz_frm xk1.1 (show (0 : Int) ≤ 0 by omega) (by omega), show (51 : Int) + 0 = 51 from rfl, bz_ck (by omega), (xk1.2.1.2 f f0 f1).2.2.1, fb, bz_bc, bz_bn]
  have fr : fn_Md_frame 67 0 (P 3 f) (P 3 f) (qz_up (qz_up (qz_up hm 67 49 0) 67 51 0) 67 57 0) = some (0, qz_up (qz_up (qz_up (qz_up (qz_up (qz_up (qz_up (qz_up (qz_up hm 67 49 0) 67 51 0) 67 57 0) 101 0 (P 3 f)) 102 0 (P 3 f)) 103 0 0) 104 0 0) 105 0 0) 67 51 1) := by
    have z1 : qz_up (qz_up (qz_up hm 67 49 0) 67 51 0) 67 57 0 67 51 = 0 := by rw [bz_ui (by omega), bz_us]
    have z2 : qz_up (qz_up (qz_up hm 67 49 0) 67 51 0) 67 57 0 67 49 = 0 := by rw [bz_ui (by omega), bz_ui (by omega), bz_us]
    generalize hg : qz_up (qz_up (qz_up hm 67 49 0) 67 51 0) 67 57 0 = g at *
    unfold fn_Md_frame
    rw [show qz_nz 0 = 0 from by decide +kernel, bz_m67_52 y0.1, bz_m101_m1 y0.1, z1, bz_ck (by omega), bz_ck (by omega), bz_bn]
    rw [bz_m67_53 y1.1, bz_m102_m1 y1.1, show qz_up g 101 0 (P 3 f) 67 51 = 0 from by rw [bz_uo (by omega)]; exact z1, bz_ck (by omega), bz_ck (by omega), bz_bn]
    rw [bz_m67_54 y2.1, bz_m103_m1 y2.1, show qz_up (qz_up g 101 0 (P 3 f)) 102 0 (P 3 f) 67 51 = 0 from by rw [bz_uo (by omega), bz_uo (by omega)]; exact z1, show qz_up (qz_up g 101 0 (P 3 f)) 102 0 (P 3 f) 67 49 = 0 from by rw [bz_uo (by omega), bz_uo (by omega)]; exact z2, bz_ck (by omega), bz_ck (by omega), bz_bn]
    rw [bz_m67_55 y3.1, bz_m104_m1 y3.1, show qz_up (qz_up (qz_up g 101 0 (P 3 f)) 102 0 (P 3 f)) 103 0 0 67 51 = 0 from by rw [bz_uo (by omega), bz_uo (by omega), bz_uo (by omega)]; exact z1, bz_ck (by omega), bz_ck (by omega), bz_bn]
    rw [bz_m67_56 y4.1, bz_m105_m1 y4.1, show qz_up (qz_up (qz_up (qz_up g 101 0 (P 3 f)) 102 0 (P 3 f)) 103 0 0) 104 0 0 67 51 = 0 from by rw [bz_uo (by omega), bz_uo (by omega), bz_uo (by omega), bz_uo (by omega)]; exact z1, bz_ck (by omega), bz_ck (by omega), bz_bn]
    rw [show qz_up (qz_up (qz_up (qz_up (qz_up g 101 0 (P 3 f)) 102 0 (P 3 f)) 103 0 0) 104 0 0) 105 0 0 67 51 = 0 from by rw [bz_uo (by omega), bz_uo (by omega), bz_uo (by omega), bz_uo (by omega), bz_uo (by omega)]; exact z1, bz_ck (by omega), bz_bn, bz_w (by omega) (by omega)]
    rfl
  rw [hcS, fr, bz_bc]
  have kk : bz_K h0 m0 _ _ M P f (bz_nd P f 0) 0 0 := ⟨xk2, y5.up (o := 67) (i := 51) (v := 1) (by omega), bz_RF0 (hc := hc) (hm := hm) a6 x5 x6⟩
  have r := bz_rowsK hM wf f0 f1 ns k2 (P 4 (f + 1) - P 4 f).toNat (3998 - (P 4 (f + 1) - P 4 f).toNat) 0 0 _ _ (by omega) kk (by omega)
  rw [show 3998 - (P 4 (f + 1) - P 4 f).toNat + (P 4 (f + 1) - P 4 f).toNat + 2 = qz_NF from by unfold qz_NF; omega] at r
  exact r
/-- what the checkers leave as it was -/
def bz_CO (hc hc' : qz_H) : Prop := ∀ o i : Int, o ≠ 48 → o ≠ 49 → ¬ (51 ≤ o ∧ o ≤ 62) → hc' o i = hc o i
def bz_MO (hm hm' : qz_H) : Prop := (∀ o i : Int, o ≠ 67 → ¬ (100 ≤ o ∧ o ≤ 105) → hm' o i = hm o i) ∧ ∀ i : Int, i ≠ 4 → i ≠ 49 → i ≠ 51 → i ≠ 57 → hm' 67 i = hm 67 i
theorem bz_valid {hc hm : qz_H} (hM : M = 6 ∨ M = 18) (wf : bz_wf P) (ns : ∀ f : Int, 0 ≤ f → f < P 0 0 → bz_nst P f) (hL : bz_LC hc) (hLM : bz_LM hm) (mc : bz_MC hc M P) (mn : bz_MN hm P) :
    (∃ hc' hm', fn_Checker_accepts 48 M hc = some (1, hc') ∧ fn_Md_isValid 67 hm = some (1, hm') ∧ bz_LC hc' ∧ bz_LM hm' ∧ bz_CO hc hc' ∧ bz_MO hm hm' ∧ hm' 67 4 = hm 67 4) ∨ (∃ hc' hm', fn_Checker_accepts 48 M hc = some (0, hc') ∧ fn_Md_isValid 67 hm = some (0, hm') ∧ bz_LC hc' ∧ bz_LM hm' ∧ bz_CO hc hc' ∧ bz_MO hm hm' ∧ hc' 48 7 = hm' 67 4) := by
  have w0 := wf.1
  have w4 := wf.2.1
  have loop : ∀ (m n : Nat) (f : Int) (h1 m1 : qz_H), (m : Int) + f = P 0 0 → 0 ≤ f → bz_LC h1 → bz_MC h1 M P → h1 48 2 = M → h1 48 6 = 0 → bz_CO hc h1 → bz_XL hm m1 P →
      (∃ hc' hm', fn_Checker_accepts_12 (n + m + 1) 48 f h1 = some (1, hc') ∧ fn_Md_isValid_2 (n + m + 1) 67 f m1 = some (1, hm') ∧ bz_LC hc' ∧ bz_LM hm' ∧ bz_CO hc hc' ∧ bz_MO hm hm' ∧ hm' 67 4 = hm 67 4) ∨ (∃ hc' hm', fn_Checker_accepts_12 (n + m + 1) 48 f h1 = some (0, hc') ∧ fn_Md_isValid_2 (n + m + 1) 67 f m1 = some (0, hm') ∧ bz_LC hc' ∧ bz_LM hm' ∧ bz_CO hc hc' ∧ bz_MO hm hm' ∧ hc' 48 7 = hm' 67 4) := by
    intro m
    induction m with
    | zero =>
      intro n f h1 m1 hm1 f0 l1 mc1 e2 e6 co xl
      left
      refine ⟨h1, m1, ?_, ?_, l1, xl.1, co, ⟨xl.2.2.1, fun i _ i2 i3 i4 => xl.2.2.2 i i2 i3 i4⟩, xl.2.2.2 4 (by omega) (by omega) (by omega)⟩
      · rw [fn_Checker_accepts_12]
        unfold fn_Checker_accepts_12_b fn_Checker_accepts_71
        rw [e2, bz_ck (by omega), mc1.1, if_pos (by omega), bz_ck (by omega)]
      · rw [fn_Md_isValid_2]
        unfold fn_Md_isValid_2_b
        rw [xl.2.1.1, if_pos (by omega), bz_ck (by omega)]
    | succ m ih =>
      intro n f h1 m1 hm1 f0 l1 mc1 e2 e6 co xl
      have f1 : f < P 0 0 := by omega
      obtain ⟨a1, a2, a3, a4, a5, a6⟩ := bz_mod l1 hM
      obtain ⟨b1, b2, b3⟩ := bz_fun l1 hM f0 (show f ≤ 3 by omega)
      obtain ⟨x1, x2, x3, x4, x5, x6, x7, x8, x9, x10, x11⟩ := wf.2.2 f f0 f1
      have xk : bz_XK hc (qz_up h1 48 3 (M + 4 + 2 * f)) M P f := by
        refine ⟨bz_LC_up (a := 48) (b := 48) (c := 2) (e := 7) (by decide +kernel) (by omega) (by omega) (by omega) (by omega) (by omega) l1, bz_MC_same hM wf (fun o i o1 o2 => bz_uo (by omega)) mc1, by rw [bz_ui (by omega)]; exact e2, bz_us _ _ _ _, fun o i o1 o2 o3 => by rw [bz_uo o1]; exact co o i o1 o2 o3⟩
      have fe := bz_fnK hM wf f0 f1 (ns f f0 f1) (fn_Md_isValid_2 (n + m + 1)) xk (by rw [bz_ui (by omega)]; exact e6) xl
      have y0 : bz_XL hm (qz_up (qz_up (qz_up m1 67 49 0) 67 51 0) 67 57 0) P := ((xl.up (by omega)).up (by omega)).up (by omega)
      have hmS : fn_Md_isValid_2 (n + (m + 1) + 1) 67 f m1 = qz_bc (fn_Md_frame 67 0 (P 3 f) (P 3 f) (qz_up (qz_up (qz_up m1 67 49 0) 67 51 0) 67 57 0)) fun _ h5 => (qz_ck ((h5 67 20 : Int) ≠ 0) <| qz_ck ((0 : Int) ≤ qz_w (f + 1) ∧ qz_w (f + 1) < h5 (h5 67 20) (-1)) <| qz_ck ((h5 67 20 : Int) ≠ 0) <| qz_ck ((0 : Int) ≤ f ∧ f < h5 (h5 67 20) (-1)) <| qz_bn (qz_w ((h5 (h5 67 20) (qz_w (f + 1))) - (h5 (h5 67 20) f)) : Int) fun x6 => qz_bn (0 : Int) fun x7 => fn_Md_isValid_60 (fn_Md_isValid_2 (n + m + 1)) qz_NF 67 f x6 x7 h5) := by
        rw [show n + (m + 1) + 1 = (n + m + 1) + 1 from by omega, fn_Md_isValid_2]
        unfold fn_Md_isValid_2_b
        rw [xl.2.1.1, if_neg (by omega), bz_ck (by omega), bz_bn, bz_ck (by omega), bz_bn, bz_ck (by omega), bz_ck (by omega), bz_bn, bz_m67_18 y0.1, bz_m81_m1 y0.1, bz_ck (by omega), bz_ck (by omega), bz_ck (by omega), bz_ck (by omega), (y0.2.1.2 f f0 f1).2.2.1]
      -- the frame's heap has the starts as they were
      have hmT : fn_Md_isValid_2 (n + (m + 1) + 1) 67 f m1 = qz_bc (fn_Md_frame 67 0 (P 3 f) (P 3 f) (qz_up (qz_up (qz_up m1 67 49 0) 67 51 0) 67 57 0)) fun _ h5 => fn_Md_isValid_60 (fn_Md_isValid_2 (n + m + 1)) qz_NF 67 f (P 4 (f + 1) - P 4 f) 0 h5 := by
        rw [hmS]
        cases hfr : fn_Md_frame 67 0 (P 3 f) (P 3 f) (qz_up (qz_up (qz_up m1 67 49 0) 67 51 0) 67 57 0) with
        | none => rfl
        | some qq =>
          obtain ⟨rr, h5⟩ := qq
          rw [bz_bc, bz_bc]
          have h5x : bz_XL hm h5 P := by
            have z1 : qz_up (qz_up (qz_up m1 67 49 0) 67 51 0) 67 57 0 67 51 = 0 := by rw [bz_ui (by omega), bz_us]
            have z2 : qz_up (qz_up (qz_up m1 67 49 0) 67 51 0) 67 57 0 67 49 = 0 := by rw [bz_ui (by omega), bz_ui (by omega), bz_us]
            generalize hg : qz_up (qz_up (qz_up m1 67 49 0) 67 51 0) 67 57 0 = g at *
            have y1 : bz_XL hm (qz_up g 101 0 (P 3 f)) P := y0.up (by omega)
            have y2 : bz_XL hm (qz_up (qz_up g 101 0 (P 3 f)) 102 0 (P 3 f)) P := y1.up (by omega)
            have y3 : bz_XL hm (qz_up (qz_up (qz_up g 101 0 (P 3 f)) 102 0 (P 3 f)) 103 0 0) P := y2.up (by omega)
            have y4 : bz_XL hm (qz_up (qz_up (qz_up (qz_up g 101 0 (P 3 f)) 102 0 (P 3 f)) 103 0 0) 104 0 0) P := y3.up (by omega)
            have y5 : bz_XL hm (qz_up (qz_up (qz_up (qz_up (qz_up g 101 0 (P 3 f)) 102 0 (P 3 f)) 103 0 0) 104 0 0) 105 0 0) P := y4.up (by omega)
            unfold fn_Md_frame at hfr
            rw [show qz_nz 0 = 0 from by decide +kernel, bz_m67_52 y0.1, bz_m101_m1 y0.1, z1, bz_ck (by omega), bz_ck (by omega), bz_bn] at hfr
            rw [bz_m67_53 y1.1, bz_m102_m1 y1.1, show qz_up g 101 0 (P 3 f) 67 51 = 0 from by rw [bz_uo (by omega)]; exact z1, bz_ck (by omega), bz_ck (by omega), bz_bn] at hfr
            rw [bz_m67_54 y2.1, bz_m103_m1 y2.1, show qz_up (qz_up g 101 0 (P 3 f)) 102 0 (P 3 f) 67 51 = 0 from by rw [bz_uo (by omega), bz_uo (by omega)]; exact z1, show qz_up (qz_up g 101 0 (P 3 f)) 102 0 (P 3 f) 67 49 = 0 from by rw [bz_uo (by omega), bz_uo (by omega)]; exact z2, bz_ck (by omega), bz_ck (by omega), bz_bn] at hfr
            rw [bz_m67_55 y3.1, bz_m104_m1 y3.1, show qz_up (qz_up (qz_up g 101 0 (P 3 f)) 102 0 (P 3 f)) 103 0 0 67 51 = 0 from by rw [bz_uo (by omega), bz_uo (by omega), bz_uo (by omega)]; exact z1, bz_ck (by omega), bz_ck (by omega), bz_bn] at hfr
            rw [bz_m67_56 y4.1, bz_m105_m1 y4.1, show qz_up (qz_up (qz_up (qz_up g 101 0 (P 3 f)) 102 0 (P 3 f)) 103 0 0) 104 0 0 67 51 = 0 from by rw [bz_uo (by omega), bz_uo (by omega), bz_uo (by omega), bz_uo (by omega)]; exact z1, bz_ck (by omega), bz_ck (by omega), bz_bn] at hfr
            rw [bz_ck (by omega), bz_bn] at hfr
            cases hfr
            exact y5.up (by omega)
          rw [bz_m67_20 h5x.1, bz_m83_m1 h5x.1, bz_w (show -2147483648 ≤ f + 1 by omega) (by omega), bz_ck (by omega), bz_ck (by omega), bz_ck (by omega), bz_ck (by omega), (h5x.2.1.2 f f0 f1).2.2.2.1, (h5x.2.1.2 f f0 f1).2.2.2.2.1, bz_w (by omega) (by omega), bz_bn, bz_bn]
      rw [hmT]
      have hcS : ∀ (r : Int) (h3 : qz_H), fn_Checker_checkFunction 48 (qz_up h1 48 3 (M + 4 + 2 * f)) = some (r, h3) → fn_Checker_accepts_12 (n + (m + 1) + 1) 48 f h1 = if h3 48 6 = 0 then fn_Checker_accepts_12 (n + m + 1) 48 (f + 1) h3 else qz_ck ((0 : Int) = 0 ∨ (0 : Int) = 1) (some (0, qz_up h3 48 7 (qz_w ((qz_w (64 * f)) + r)))) := by
        intro r h3 hh
        rw [show n + (m + 1) + 1 = (n + m + 1) + 1 from by omega, fn_Checker_accepts_12]
        unfold fn_Checker_accepts_12_b
        rw [e2, bz_ck (show M ≠ 0 by omega), mc1.1, if_neg (by omega), if_neg (by omega), a1, a4, b1, bz_ck (show M ≠ 0 by omega), bz_ck (show M + 1 ≠ 0 by omega), bz_ck (show 0 ≤ f ∧ f < 4 by omega), bz_ck (show (0 : Int) < 48 by omega), bz_bn, hh, bz_bc, bz_bn, bz_bn, bz_w (show -2147483648 ≤ f + 1 by omega) (by omega), bz_ck (show (0 : Int) < 48 by omega), bz_bn]
      rcases fe with ⟨r, h3, m3, g1, g2, g3, g4, g5⟩ | ⟨p, h3, m3, g1, g2, g3, g4, g5⟩
      · rw [g2, hcS r h3 g1, g4, if_pos rfl]
        exact ih n (f + 1) h3 m3 (by omega) (by omega) g3.1 g3.2.1 g3.2.2.1 g4 g3.2.2.2.2 g5
      · right
        rw [g2, hcS p h3 g1, g3.2.2.1, if_neg (by omega), bz_w (show -2147483648 ≤ 64 * f by omega) (by omega), bz_w (by omega) (by omega), bz_ck (by omega)]
        refine ⟨_, _, rfl, rfl, bz_LC_up (a := 48) (b := 48) (c := 2) (e := 7) (by decide +kernel) (by omega) (by omega) (by omega) (by omega) (by omega) g3.1.1, bz_LM_up (a := 67) (b := 67) (c := 4) (e := 4) (by decide +kernel) (by omega) (by omega) (by omega) (by omega) g3.2.1.1, fun o i o1 o2 o3 => by rw [bz_uo o1]; exact g3.1.2.2.2.2 o i o1 o2 o3, ⟨fun o i o1 o2 => by rw [bz_uo o1]; exact g3.2.1.2.2.1 o i o1 o2, fun i i1 i2 i3 i4 => by rw [bz_ui i1]; exact g3.2.1.2.2.2 i i2 i3 i4⟩, by rw [bz_us, bz_us]⟩
  unfold fn_Checker_accepts fn_Md_isValid
  rw [bz_ck (by omega), bz_bn, bz_ck (by omega), bz_ck (by omega), bz_bn, bz_bn, bz_bn]
  have l2 : bz_LC (qz_up (qz_up hc 48 2 M) 48 6 0) := bz_LC_up (a := 48) (b := 48) (c := 2) (e := 7) (by decide +kernel) (by omega) (by omega) (by omega) (by omega) (by omega) (bz_LC_up (a := 48) (b := 48) (c := 2) (e := 7) (by decide +kernel) (by omega) (by omega) (by omega) (by omega) (by omega) hL)
  have r := loop (P 0 0).toNat (3999 - (P 0 0).toNat) 0 _ hm (by omega) (by omega) l2 (bz_MC_same hM wf (fun o i o1 o2 => by rw [bz_uo (by omega), bz_uo (by omega)]) mc) (by rw [bz_ui (by omega), bz_us]) (bz_us _ _ _ _) (fun o i o1 o2 o3 => by rw [bz_uo o1, bz_uo o1]) ⟨hLM, mn, fun _ _ _ _ => rfl, fun _ _ _ _ => rfl⟩
  rw [show 3999 - (P 0 0).toNat + (P 0 0).toNat + 1 = qz_NF from by unfold qz_NF; omega] at r
  exact r
end CKJ
