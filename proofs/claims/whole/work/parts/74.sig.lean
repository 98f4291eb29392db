/-! Functions that are called alike, and their numbers. -/
def bz_lk (P : qz_H) (g f : Int) : Prop := P 1 g = P 1 f ∧ P 3 g = P 3 f ∧ ∀ k : Int, 0 ≤ k → k < P 1 g → P 7 (8 * g + k) = P 7 (8 * f + k)
theorem bz_lk.rf (P : qz_H) (f : Int) : bz_lk P f f := ⟨rfl, rfl, fun _ _ _ => rfl⟩
theorem bz_lk.sy {P : qz_H} {g f : Int} (h : bz_lk P g f) : bz_lk P f g := ⟨h.1.symm, h.2.1.symm, fun k k0 k1 => (h.2.2 k k0 (by rw [h.1]; exact k1)).symm⟩
theorem bz_lk.tr {P : qz_H} {g f e : Int} (a : bz_lk P g f) (b : bz_lk P f e) : bz_lk P g e := ⟨a.1.trans b.1, a.2.1.trans b.2.1, fun k k0 k1 => (a.2.2 k k0 k1).trans (b.2.2 k k0 (by rw [← a.1]; exact k1))⟩
noncomputable def bz_sf (P : qz_H) (f : Int) : Nat → Int → Int
  | 0, g => g
  | m + 1, g => @ite Int (bz_lk P f g) (Classical.propDecidable _) g (bz_sf P f m (g + 1))
theorem bz_sf_pos {P : qz_H} {f g : Int} {m : Nat} (h : bz_lk P f g) : bz_sf P f (m + 1) g = g := by
  rw [bz_sf]; exact if_pos h
theorem bz_sf_neg {P : qz_H} {f g : Int} {m : Nat} (h : ¬ bz_lk P f g) : bz_sf P f (m + 1) g = bz_sf P f m (g + 1) := by
  rw [bz_sf]; exact if_neg h
theorem bz_sf_ok (P : qz_H) (f : Int) : ∀ (m : Nat) (g : Int), (m : Int) + g = f → g ≤ bz_sf P f m g ∧ bz_sf P f m g ≤ f ∧ (∀ j : Int, g ≤ j → j < bz_sf P f m g → ¬ bz_lk P f j) ∧ bz_lk P f (bz_sf P f m g)
  | 0, g, hm => by
    have e : g = f := by omega
    rw [bz_sf]
    exact ⟨Int.le_refl _, by omega, fun j j0 j1 => by omega, by rw [e]; exact bz_lk.rf P f⟩
  | m + 1, g, hm => by
    by_cases c : bz_lk P f g
    · rw [bz_sf_pos c]
      exact ⟨Int.le_refl _, by omega, fun j j0 j1 => by omega, c⟩
    · rw [bz_sf_neg c]
      obtain ⟨i1, i2, i3, i4⟩ := bz_sf_ok P f m (g + 1) (by omega)
      refine ⟨by omega, i2, fun j j0 j1 => ?_, i4⟩
      by_cases q : j = g
      · rw [q]; exact c
      · exact i3 j (by omega) j1
noncomputable def bz_fi (P : qz_H) (f : Int) : Int := bz_sf P f f.toNat 0
theorem bz_fi_ok (P : qz_H) {f : Int} (f0 : 0 ≤ f) : 0 ≤ bz_fi P f ∧ bz_fi P f ≤ f ∧ (∀ j : Int, 0 ≤ j → j < bz_fi P f → ¬ bz_lk P f j) ∧ bz_lk P f (bz_fi P f) := bz_sf_ok P f f.toNat 0 (by omega)
theorem bz_fi_fi (P : qz_H) {f : Int} (f0 : 0 ≤ f) : bz_fi P (bz_fi P f) = bz_fi P f := by
  obtain ⟨a1, a2, a3, a4⟩ := bz_fi_ok P f0
  obtain ⟨b1, b2, b3, b4⟩ := bz_fi_ok P a1
  by_cases q : bz_fi P (bz_fi P f) = bz_fi P f
  · exact q
  · exact absurd (a4.tr b4) (a3 _ b1 (by omega))
noncomputable def bz_sbf (P : qz_H) : Nat → Int
  | 0 => 0
  | k + 1 => bz_sbf P k + if bz_fi P (k : Int) = (k : Int) then 1 else 0
theorem bz_sbf_rg (P : qz_H) : ∀ k : Nat, 0 ≤ bz_sbf P k ∧ bz_sbf P k ≤ k
  | 0 => by rw [bz_sbf]; omega
  | k + 1 => by
    have := bz_sbf_rg P k
    rw [bz_sbf]
    split <;> omega
theorem bz_sbf_mono (P : qz_H) : ∀ (m k : Nat), bz_sbf P k ≤ bz_sbf P (k + m)
  | 0, k => by rw [Nat.add_zero]; omega
  | m + 1, k => by
    have := bz_sbf_mono P m k
    rw [show k + (m + 1) = (k + m) + 1 from by omega, bz_sbf]
    split <;> omega
/-- a function's number is the number of those before it just where it is the first of its kind -/
theorem bz_sbf_iff (P : qz_H) {f : Int} (f0 : 0 ≤ f) : bz_sbf P (bz_fi P f).toNat = bz_sbf P f.toNat ↔ bz_fi P f = f := by
  obtain ⟨a1, a2, a3, a4⟩ := bz_fi_ok P f0
  constructor
  · intro h
    by_cases q : bz_fi P f = f
    · exact q
    · have e1 : bz_sbf P ((bz_fi P f).toNat + 1) = bz_sbf P (bz_fi P f).toNat + 1 := by
        rw [bz_sbf, Int.toNat_of_nonneg a1, bz_fi_fi P f0, if_pos rfl]
      have e2 := bz_sbf_mono P (f.toNat - ((bz_fi P f).toNat + 1)) ((bz_fi P f).toNat + 1)
      rw [show (bz_fi P f).toNat + 1 + (f.toNat - ((bz_fi P f).toNat + 1)) = f.toNat from by omega] at e2
      omega
  · intro h
    rw [h]
noncomputable abbrev bz_num0 (P : qz_H) (f : Int) : Int := bz_sbf P (bz_fi P f).toNat
section SIG
variable {M : Int} {P : qz_H}
theorem bz_likeC (hM : M = 6 ∨ M = 18) (wf : bz_wf P) {h : qz_H} (hL : bz_LC h) (mc : bz_MC h M P) {g f : Int} (g0 : 0 ≤ g) (g1 : g < P 0 0) (f0 : 0 ≤ f) (f1 : f < P 0 0) : (bz_lk P g f → fn_Function_isCalledLike (M + 4 + 2 * g) (M + 4 + 2 * f) h = some (1, h)) ∧ (¬ bz_lk P g f → fn_Function_isCalledLike (M + 4 + 2 * g) (M + 4 + 2 * f) h = some (0, h)) := by
  have w := wf.2.1
  obtain ⟨b1, b2, b3⟩ := bz_fun hL hM g0 (show g ≤ 3 by omega)
  obtain ⟨d1, d2, d3⟩ := bz_fun hL hM f0 (show f ≤ 3 by omega)
  obtain ⟨x1, x2, x3, x4, x5, x6, x7, x8, x9, x10, x11⟩ := wf.2.2 g g0 g1
  obtain ⟨y1, y2, y3, y4, y5, y6, y7, y8, y9, y10, y11⟩ := wf.2.2 f f0 f1
  obtain ⟨c1, c2, c3, c4, c5, c6, c7⟩ := mc.2 g g0 g1
  obtain ⟨e1, e2, e3, e4, e5, e6, e7⟩ := mc.2 f f0 f1
  have zero : ∀ (n : Nat) (k : Int), fn_Function_isCalledLike_30 (n + 1) (M + 4 + 2 * g) (M + 4 + 2 * f) 0 k h = some (0, h) := by
    intro n k
    rw [fn_Function_isCalledLike_30]
    unfold fn_Function_isCalledLike_30_b fn_Function_isCalledLike_75
    rw [if_pos rfl, bz_ck (by omega)]
  have key : P 1 g = P 1 f → ∀ (m n : Nat) (k : Int), (m : Int) + k = P 1 g → 0 ≤ k → ((∀ j : Int, k ≤ j → j < P 1 g → P 7 (8 * g + j) = P 7 (8 * f + j)) → fn_Function_isCalledLike_30 (n + m + 1) (M + 4 + 2 * g) (M + 4 + 2 * f) 1 k h = some (1, h)) ∧ (¬ (∀ j : Int, k ≤ j → j < P 1 g → P 7 (8 * g + j) = P 7 (8 * f + j)) → fn_Function_isCalledLike_30 (n + m + 1) (M + 4 + 2 * g) (M + 4 + 2 * f) 1 k h = some (0, h)) := by
    intro hp m
    induction m with
    | zero =>
      intro n k hm k0
      have z : fn_Function_isCalledLike_30 (n + 0 + 1) (M + 4 + 2 * g) (M + 4 + 2 * f) 1 k h = some (1, h) := by
        rw [fn_Function_isCalledLike_30]
        unfold fn_Function_isCalledLike_30_b fn_Function_isCalledLike_75
        rw [if_neg (by omega), c1, if_pos (by omega), bz_ck (by omega)]
      exact ⟨fun _ => z, fun q => absurd (fun j j0 j1 => by omega) q⟩
    | succ m ih =>
      intro n k hm k0
      have st : fn_Function_isCalledLike_30 (n + (m + 1) + 1) (M + 4 + 2 * g) (M + 4 + 2 * f) 1 k h = if P 7 (8 * g + k) = P 7 (8 * f + k) then fn_Function_isCalledLike_30 (n + m + 1) (M + 4 + 2 * g) (M + 4 + 2 * f) 1 (k + 1) h else fn_Function_isCalledLike_30 (n + m + 1) (M + 4 + 2 * g) (M + 4 + 2 * f) 0 (k + 1) h := by
        rw [show n + (m + 1) + 1 = (n + m + 1) + 1 from by omega, fn_Function_isCalledLike_30]
        unfold fn_Function_isCalledLike_30_b fn_Function_isCalledLike_68
        simp only [bz_bn]
        rw [if_neg (by omega), c1, if_neg (by omega), if_neg (by omega), b2, b3, d2, d3, bz_ck (by omega), bz_ck (by omega), bz_ck (by omega), bz_ck (by omega), bz_ck (by omega), c6 k k0 (by omega), e6 k k0 (by omega), bz_w (by omega) (by omega)]
        by_cases q : P 7 (8 * g + k) = P 7 (8 * f + k)
        · rw [if_neg (by omega), if_pos q]
        · rw [if_pos q, if_neg q]
      obtain ⟨i1, i2⟩ := ih n (k + 1) (by omega) (by omega)
      by_cases q : P 7 (8 * g + k) = P 7 (8 * f + k)
      · rw [st, if_pos q]
        refine ⟨fun a => i1 fun j j0 j1 => a j (by omega) j1, fun a => i2 fun b => a fun j j0 j1 => ?_⟩
        by_cases q2 : j = k
        · rw [q2]; exact q
        · exact b j (by omega) j1
      · rw [st, if_neg q, zero]
        exact ⟨fun a => absurd (a k (by omega) (by omega)) q, fun _ => rfl⟩
  unfold fn_Function_isCalledLike fn_Function_isCalledLike_26 fn_Function_isCalledLike_27
  simp only [bz_bn, bz_ck (show M + 4 + 2 * f ≠ 0 by omega)]
  rw [c1, c3, e1, e3]
  have z0 := zero 3999 0
  by_cases q1 : P 1 g = P 1 f
  · rw [if_neg (by omega)]
    by_cases q2 : P 3 g = P 3 f
    · rw [if_neg (by omega)]
      obtain ⟨i1, i2⟩ := key q1 (P 1 g).toNat (3999 - (P 1 g).toNat) 0 (by omega) (by omega)
      rw [show 3999 - (P 1 g).toNat + (P 1 g).toNat + 1 = qz_NF from by unfold qz_NF; omega] at i1 i2
      exact ⟨fun a => i1 a.2.2, fun a => i2 fun b => a ⟨q1, q2, b⟩⟩
    · rw [if_pos q2]
      exact ⟨fun a => absurd a.2.1 q2, fun _ => z0⟩
  · rw [if_pos q1]
    exact ⟨fun a => absurd a.1 q1, fun _ => z0⟩
/-- the class numbers the functions -/
theorem bz_numsC (hM : M = 6 ∨ M = 18) (wf : bz_wf P) {h : qz_H} {L : List Int} (xc : bz_XC h M P L) : ∃ h', fn_Encoder_numberSignatures 63 M h = some (bz_sbf P (P 0 0).toNat, h') ∧ bz_XC h' M P L ∧ (∀ o i : Int, o ≠ 65 → h' o i = h o i) ∧ ∀ f : Int, 0 ≤ f → f < P 0 0 → h' 65 f = bz_num0 P f := by
  have w0 := wf.1
  have w := wf.2.1
  have inner : ∀ (k4 : Int → Int → Int → Int → qz_H → Option qz_R) (d f : Int), 0 ≤ f → f < P 0 0 → ∀ (m n : Nat) (g : Int) (h : qz_H), bz_LC h → bz_MC h M P → 0 ≤ g → (m : Int) + g = f → fn_Encoder_numberSignatures_27 k4 (n + m + 1) 63 M d f g h = fn_Encoder_numberSignatures_74 k4 63 M d f (if bz_sf P f m g < f then qz_up h 65 f (h 65 (bz_sf P f m g)) else h) := by
    intro k4 d f f0 f1 m
    induction m with
    | zero =>
      intro n g h hL mc g0 hm
      rw [fn_Encoder_numberSignatures_27, bz_sf]
      unfold fn_Encoder_numberSignatures_27_b
      rw [if_pos (by omega), if_neg (by omega)]
    | succ m ih =>
      intro n g h hL mc g0 hm
      obtain ⟨a1, a2, a3, a4, a5, a6⟩ := bz_mod hL hM
      obtain ⟨b1, b2, b3⟩ := bz_fun hL hM g0 (show g ≤ 3 by omega)
      obtain ⟨d1, d2, d3⟩ := bz_fun hL hM f0 (show f ≤ 3 by omega)
      obtain ⟨l1, l2⟩ := bz_likeC hM wf hL mc g0 (show g < P 0 0 by omega) f0 f1
      rw [show n + (m + 1) + 1 = (n + m + 1) + 1 from by omega, fn_Encoder_numberSignatures_27]
      unfold fn_Encoder_numberSignatures_27_b
      rw [if_neg (by omega), a1, a4, b1, d1]
      simp only [bz_ck (show M ≠ 0 by omega), bz_ck (show M + 1 ≠ 0 by omega), bz_ck (show 0 ≤ g ∧ g < 4 by omega), bz_ck (show 0 ≤ f ∧ f < 4 by omega), bz_ck (show M + 4 + 2 * g ≠ 0 by omega)]
      by_cases q : bz_lk P g f
      · rw [l1 q, bz_bc, if_neg (by omega), bz_c63_1 hL, bz_c65_m1 hL, bz_ck (by omega), bz_ck (by omega), bz_ck (by omega), bz_ck (by omega), bz_bn, bz_sf_pos q.sy, if_pos (by omega)]
      · rw [l2 q, bz_bc, if_pos rfl, bz_bn, bz_w (by omega) (by omega), ih n (g + 1) h hL mc (by omega) (by omega), bz_sf_neg fun z => q z.sy]
  have outer : ∀ (m n : Nat) (f : Int) (h : qz_H), bz_XC h M P L → 0 ≤ f → (m : Int) + f = P 0 0 → (∀ j : Int, 0 ≤ j → j < f → h 65 j = bz_num0 P j) → ∃ h', fn_Encoder_numberSignatures_4 (n + m + 1) 63 M (bz_sbf P f.toNat) f h = some (bz_sbf P (P 0 0).toNat, h') ∧ bz_XC h' M P L ∧ (∀ o i : Int, o ≠ 65 → h' o i = h o i) ∧ ∀ j : Int, 0 ≤ j → j < P 0 0 → h' 65 j = bz_num0 P j := by
    intro m
    induction m with
    | zero =>
      intro n f h xc f0 hm hs
      refine ⟨h, ?_, xc, fun _ _ _ => rfl, fun j j0 j1 => hs j j0 (by omega)⟩
      rw [fn_Encoder_numberSignatures_4]
      unfold fn_Encoder_numberSignatures_4_b fn_Encoder_numberSignatures_98
      rw [bz_ck (by omega), xc.2.1.1, if_pos (by omega), show f = P 0 0 from by omega]
    | succ m ih =>
      intro n f h xc f0 hm hs
      have f1 : f < P 0 0 := by omega
      obtain ⟨r0, r1⟩ := bz_sbf_rg P f.toNat
      obtain ⟨z1, z2, z3, z4⟩ := bz_fi_ok P f0
      have up : ∀ (h : qz_H) (v : Int), bz_XC h M P L → bz_XC (qz_up h 65 f v) M P L := by
        intro h v xc
        refine ⟨bz_LC_up (a := 65) (b := 65) (c := 0) (e := 3) (by decide +kernel) (by omega) (by omega) (by omega) (by omega) (by omega) xc.1, bz_MC_same hM wf (fun o i o1 o2 => bz_uo (by omega)) xc.2.1, by rw [bz_uo (by omega)]; exact xc.2.2.1, fun k hk => by rw [bz_uo (by omega)]; exact xc.2.2.2 k hk⟩
      have xc1 := up h (bz_sbf P f.toNat) xc
      have step : ∃ h2, fn_Encoder_numberSignatures_4 (n + (m + 1) + 1) 63 M (bz_sbf P f.toNat) f h = fn_Encoder_numberSignatures_74 (fn_Encoder_numberSignatures_4 (n + m + 1)) 63 M (bz_sbf P f.toNat) f h2 ∧ bz_XC h2 M P L ∧ (∀ o i : Int, (o ≠ 65 ∨ i ≠ f) → h2 o i = h o i) ∧ h2 65 f = bz_num0 P f := by
        have e := inner (fn_Encoder_numberSignatures_4 (n + m + 1)) (bz_sbf P f.toNat) f f0 f1 f.toNat (3999 - f.toNat) 0 _ xc1.1 xc1.2.1 (by omega) (by omega)
        rw [show 3999 - f.toNat + f.toNat + 1 = qz_NF from by unfold qz_NF; omega] at e
        refine ⟨if bz_sf P f f.toNat 0 < f then qz_up (qz_up h 65 f (bz_sbf P f.toNat)) 65 f (qz_up h 65 f (bz_sbf P f.toNat) 65 (bz_sf P f f.toNat 0)) else qz_up h 65 f (bz_sbf P f.toNat), ?_, ?_, ?_, ?_⟩
        · rw [show n + (m + 1) + 1 = (n + m + 1) + 1 from by omega, fn_Encoder_numberSignatures_4]
          unfold fn_Encoder_numberSignatures_4_b
          rw [bz_ck (by omega), xc.2.1.1, if_neg (by omega), if_neg (by omega), bz_c63_1 xc.1, bz_c65_m1 xc.1, bz_ck (by omega), bz_ck (by omega), bz_bn, bz_bn, e]
        · split
          · exact up _ _ xc1
          · exact xc1
        · intro o i hq
          have q1 : ∀ (h : qz_H) (v : Int), qz_up h 65 f v o i = h o i := fun h v => by
            rcases hq with hq | hq
            · exact bz_uo hq
            · exact bz_ui hq
          split
          · rw [q1, q1]
          · rw [q1]
        · by_cases q : bz_sf P f f.toNat 0 < f
          · rw [if_pos q, bz_us, bz_ui (by omega), show bz_sf P f f.toNat 0 = bz_fi P f from rfl, hs _ z1 q]
            show bz_sbf P (bz_fi P (bz_fi P f)).toNat = bz_sbf P (bz_fi P f).toNat
            rw [bz_fi_fi P f0]
          · rw [if_neg q, bz_us]
            have e2 : bz_fi P f = f := by
              have : bz_fi P f = bz_sf P f f.toNat 0 := rfl
              omega
            show _ = bz_sbf P (bz_fi P f).toNat
            rw [e2]
      obtain ⟨h2, s1, s2, s3, s4⟩ := step
      have hs2 : ∀ j : Int, 0 ≤ j → j < f + 1 → h2 65 j = bz_num0 P j := by
        intro j j0 j1
        by_cases q : j = f
        · rw [q]; exact s4
        · rw [s3 65 j (Or.inr q)]; exact hs j j0 (by omega)
      obtain ⟨h', i1, i2, i3, i4⟩ := ih n (f + 1) h2 s2 (by omega) (by omega) hs2
      refine ⟨h', ?_, i2, fun o i ho => (i3 o i ho).trans (s3 o i (Or.inl ho)), i4⟩
      rw [s1]
      unfold fn_Encoder_numberSignatures_74 fn_Encoder_numberSignatures_90
      simp only [bz_bn]
      rw [bz_c63_1 s2.1, bz_c65_m1 s2.1, bz_ck (by omega), bz_ck (by omega), s4, bz_w (show -2147483648 ≤ f + 1 by omega) (by omega)]
      have e3 : bz_sbf P (f + 1).toNat = bz_sbf P f.toNat + if bz_fi P f = f then 1 else 0 := by
        rw [show (f + 1).toNat = f.toNat + 1 from by omega, bz_sbf, Int.toNat_of_nonneg f0]
      rw [e3] at i1
      have iff := bz_sbf_iff P f0
      by_cases q : bz_fi P f = f
      · rw [if_pos q] at i1
        rw [if_neg (fun z => z (iff.mpr q)), bz_w (by omega) (by omega), i1]
      · rw [if_neg q] at i1
        rw [if_pos (fun z => q (iff.mp z)), bz_w (by omega) (by omega), i1]
  unfold fn_Encoder_numberSignatures
  simp only [bz_bn]
  have k := outer (P 0 0).toNat (3999 - (P 0 0).toNat) 0 h xc (by omega) (by omega) (fun j j0 j1 => by omega)
  rw [show 3999 - (P 0 0).toNat + (P 0 0).toNat + 1 = qz_NF from by unfold qz_NF; omega] at k
  exact k
end SIG
