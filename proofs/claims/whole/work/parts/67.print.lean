/-- at the printer: the text T that is written, the module M -/
def bz_PC (h : qz_H) (T M : Int) (P : qz_H) : Prop := bz_LC h ∧ h 66 0 = T ∧ bz_MC h M P ∧ 0 ≤ h T 1
theorem bz_aps_app (h : qz_H) (T : Int) (a b : List Int) : bz_aps (bz_aps h T a) T b = bz_aps h T (a ++ b) := bz_gs_app _ _ _ _ _ _
theorem bz_aps_n (h : qz_H) (T : Int) (l : List Int) : bz_aps h T l T 1 = h T 1 + l.length := bz_gs_n _ _ _ _ _
theorem bz_aps_o {h : qz_H} {T x y : Int} (l : List Int) (h1 : x ≠ T) (h2 : x ≠ T + 1) : bz_aps h T l x y = h x y := bz_gs_o (Or.inl h1) h2 l h
theorem bz_addS {T s : Int} (hT : T = 2 ∨ T = 4) (i : Nat) (hs : s = -35 - 2 * (i : Int)) (hi : i < 46) {h : qz_H} (hL : bz_LC h) (h0 : 0 ≤ h T 1) (h1 : h T 1 ≤ 50000) : fn_Text_addAll T s h = some (0, bz_aps h T (kz_sb i)) := by
  rw [hs]
  exact bz_addAll hT hi hL h0 h1
section PRC
variable {T M : Int} {P : qz_H} (hT : T = 2 ∨ T = 4) (hM : M = 6 ∨ M = 18) (wf : bz_wf P)
theorem bz_MC_same {h h' : qz_H} (hM : M = 6 ∨ M = 18) (wf : bz_wf P) (hs : ∀ o i : Int, 6 ≤ o → o ≤ 29 → h' o i = h o i) (mc : bz_MC h M P) : bz_MC h' M P := by
  refine ⟨by rw [hs _ _ (by omega) (by omega)]; exact mc.1, fun f f0 f1 => ?_⟩
  have w := wf.2.1
  rw [hs _ _ (by omega) (by omega), hs _ _ (by omega) (by omega), hs _ _ (by omega) (by omega), hs _ _ (by omega) (by omega), hs _ _ (by omega) (by omega)]
  obtain ⟨c1, c2, c3, c4, c5, c6, c7⟩ := mc.2 f f0 f1
  refine ⟨c1, c2, c3, c4, c5, fun k k0 k1 => ?_, fun i i0 i1 => ?_⟩
  · rw [hs _ _ (by omega) (by omega)]
    exact c6 k k0 k1
  · rw [hs _ _ (by omega) (by omega), hs _ _ (by omega) (by omega)]
    exact c7 i i0 i1
theorem bz_PC.aps {h : qz_H} (hT : T = 2 ∨ T = 4) (hM : M = 6 ∨ M = 18) (wf : bz_wf P) (pc : bz_PC h T M P) (l : List Int) : bz_PC (bz_aps h T l) T M P := by
  obtain ⟨p1, p2, p3, p4⟩ := pc
  refine ⟨bz_aps_L hT l h p4 p1, ?_, bz_MC_same hM wf (fun o i o1 o2 => bz_gs_o (Or.inl (by omega)) (by omega) l h) p3, ?_⟩
  · rw [bz_aps_o l (by omega) (by omega)]; exact p2
  · rw [bz_aps_n]; omega
theorem bz_pAdd {h : qz_H} (hT : T = 2 ∨ T = 4) (pc : bz_PC h T M P) (hb : h T 1 ≤ 90000) {c : Int} (c0 : 0 ≤ c) (c1 : c ≤ 65535) : fn_Text_add T c h = some (0, bz_aps h T [c]) := bz_add_eq pc.1 hT pc.2.2.2 (by omega) c0 c1
theorem bz_wtC {h : qz_H} (hT : T = 2 ∨ T = 4) (pc : bz_PC h T M P) (hb : h T 1 ≤ 40000) (t : Int) : fn_Printer_writeType 66 t h = some (0, bz_aps h T (bz_wt t)) := by
  unfold fn_Printer_writeType fn_Printer_writeType_16 bz_wt
  rw [pc.2.1]
  by_cases ht : t = 1
  · rw [if_neg (by omega), if_pos ht, bz_ck (by omega), bz_addS hT 5 (by omega) (by omega) pc.1 pc.2.2.2 (by omega), bz_bc]
  · rw [if_pos ht, if_neg ht, bz_ck (by omega), bz_addS hT 6 (by omega) (by omega) pc.1 pc.2.2.2 (by omega), bz_bc]
theorem bz_rsC {h : qz_H} (hT : T = 2 ∨ T = 4) (hM : M = 6 ∨ M = 18) (wf : bz_wf P) (pc : bz_PC h T M P) (hb : h T 1 ≤ 39000) (t : Int) : fn_Printer_writeResult 66 t h = some (0, bz_aps h T (bz_rs t)) := by
  unfold fn_Printer_writeResult
  have pc1 := pc.aps hT hM wf (kz_sb 13)
  have pc2 := pc1.aps hT hM wf (bz_wt t)
  have n1 : bz_aps h T (kz_sb 13) T 1 = h T 1 + (kz_sb 13).length := bz_aps_n _ _ _
  have n2 : bz_aps (bz_aps h T (kz_sb 13)) T (bz_wt t) T 1 = bz_aps h T (kz_sb 13) T 1 + (bz_wt t).length := bz_aps_n _ _ _
  have l1 := bz_sb_len 13
  have l2 := bz_wt_len t
  rw [pc.2.1, bz_ck (by omega), bz_addS hT 13 (by omega) (by omega) pc.1 pc.2.2.2 (by omega), bz_bc, bz_wtC hT pc1 (by omega), bz_bc, pc2.2.1, bz_ck (by omega), bz_pAdd hT pc2 (by omega) (by omega) (by omega), bz_bc, bz_aps_app, bz_aps_app]
  rfl
/-- one function's slots -/
theorem bz_slC (hT : T = 2 ∨ T = 4) (hM : M = 6 ∨ M = 18) (wf : bz_wf P) {f : Int} (f0 : 0 ≤ f) (f1 : f < P 0 0) : ∀ (m : Nat) (n : Nat) (a b : Int) (h : qz_H), bz_PC h T M P → h T 1 + 4 * m ≤ 39000 → 0 ≤ a → b ≤ P 2 f → (m : Int) = b - a →
    fn_Printer_writeSlots_18 (n + m + 1) 66 (M + 4 + 2 * f) b a h = some (0, bz_aps h T (bz_fl (fun k => 32 :: bz_wt (P 7 (8 * f + k))) a m ++ [41])) := by
  intro m
  induction m with
  | zero =>
    intro n a b h pc hb a0 b0 hm
    rw [fn_Printer_writeSlots_18]
    unfold fn_Printer_writeSlots_18_b fn_Printer_writeSlots_61
    rw [if_pos (by omega), pc.2.1, bz_ck (by omega), bz_pAdd hT pc (by omega) (by omega) (by omega), bz_bc]
    rfl
  | succ m ih =>
    intro n a b h pc hb a0 b0 hm
    have w := wf.2.1
    obtain ⟨x1, x2, x3, x4, x5, x6, x7, x8, x9, x10, x11⟩ := wf.2.2 f f0 f1
    have pc1 := pc.aps hT hM wf [32]
    have n1 : bz_aps h T [32] T 1 = h T 1 + 1 := bz_aps_n _ _ _
    obtain ⟨b1, b2, b3⟩ := bz_fun pc1.1 hM f0 (show f ≤ 3 by omega)
    obtain ⟨c1, c2, c3, c4, c5, c6, c7⟩ := pc1.2.2.1.2 f f0 f1
    have d2 := (pc.2.2.1.2 f f0 f1).2.1
    rw [show n + (m + 1) + 1 = (n + m + 1) + 1 from by omega, fn_Printer_writeSlots_18]
    unfold fn_Printer_writeSlots_18_b
    have q : (if 0 ≤ a ∧ a < P 2 f ∧ a < 8 then (1 : Int) else 0) = 1 := if_pos (by omega)
    rw [if_neg (by omega), bz_ck (by omega), bz_hasS, bz_bc, d2, q, if_neg (by omega), pc.2.1, bz_ck (by omega), bz_pAdd hT pc (by omega) (by omega) (by omega), bz_bc, bz_ck (by omega), b2, b3, bz_ck (by omega), bz_ck (by omega), c6 a a0 (by omega), bz_wtC hT pc1 (by omega), bz_bc, bz_bn, bz_w (by omega) (by omega)]
    have l2 := bz_wt_len (P 7 (8 * f + a))
    have n2 : bz_aps (bz_aps h T [32]) T (bz_wt (P 7 (8 * f + a))) T 1 = bz_aps h T [32] T 1 + (bz_wt (P 7 (8 * f + a))).length := bz_aps_n _ _ _
    rw [ih n (a + 1) b _ (pc1.aps hT hM wf (bz_wt (P 7 (8 * f + a)))) (by omega) (by omega) b0 (by omega), bz_aps_app, bz_aps_app]
    rw [bz_fl]
    simp only [List.append_assoc, List.cons_append, List.nil_append]
theorem bz_r3C (hT : T = 2 ∨ T = 4) (hM : M = 6 ∨ M = 18) (wf : bz_wf P) {f : Int} (f0 : 0 ≤ f) (f1 : f < P 0 0) {i : Nat} (hi : i < 46) {a b : Int} {h : qz_H} (pc : bz_PC h T M P) (hb : h T 1 ≤ 38000) (a0 : 0 ≤ a) (b0 : b ≤ P 2 f) : fn_Printer_writeSlots 66 (-35 - 2 * (i : Int)) (M + 4 + 2 * f) a b h = some (0, bz_aps h T (bz_r3 (kz_sb i) P f a b)) := by
  unfold fn_Printer_writeSlots bz_r3
  by_cases hab : a < b
  · have pc1 := pc.aps hT hM wf (kz_sb i)
    have n1 : bz_aps h T (kz_sb i) T 1 = h T 1 + (kz_sb i).length := bz_aps_n _ _ _
    have l1 := bz_sb_len i
    have x4 := (wf.2.2 f f0 f1).2.2.2.1
    have k := bz_slC hT hM wf f0 f1 (b - a).toNat (3999 - (b - a).toNat) a b _ pc1 (by omega) a0 b0 (by omega)
    rw [show 3999 - (b - a).toNat + (b - a).toNat + 1 = qz_NF from by unfold qz_NF; omega] at k
    rw [if_pos hab, if_pos hab, pc.2.1, bz_ck (by omega), bz_addAll hT hi pc.1 pc.2.2.2 (by omega), bz_bc, bz_bn, k, bz_aps_app]
  · rw [if_neg hab, if_neg hab]
    rfl
theorem bz_dgC (hT : T = 2 ∨ T = 4) (hM : M = 6 ∨ M = 18) (wf : bz_wf P) {v : Int} (v1 : -9223372036854775808 ≤ v) (v2 : v ≤ 9223372036854775807) : ∀ (k : Nat), k ≤ 18 → ∀ (n : Nat) (h : qz_H), bz_PC h T M P → h T 1 + k ≤ 39000 → fn_Text_addNumber_48 (n + k + 2) T v (10 ^ k) h = some (0, bz_aps h T (bz_dg v k)) := by
  have step : ∀ (k : Nat), k ≤ 18 → ∀ (n : Nat) (h : qz_H), bz_PC h T M P → h T 1 ≤ 39000 → fn_Text_addNumber_48 (n + 1) T v (10 ^ k) h = fn_Text_addNumber_48 n T v ((10 ^ k : Int).tdiv 10) (bz_aps h T [48 + (((v.tdiv (10 ^ k)).tmod 10).natAbs : Int)]) := by
    intro k hk n h pc hb
    obtain ⟨t1, t2⟩ := bz_p10 k hk
    obtain ⟨q1, q2, q3, q4⟩ := bz_divJ v1 v2 t1 (by omega)
    have q5 := bz_remJ q2 q3
    have q6 := (bz_divJ (x := 10 ^ k) (y := 10) (by omega) (by omega) (by omega) (by omega)).1
    have hb9 : -9 ≤ (v.tdiv (10 ^ k)).tmod 10 ∧ (v.tdiv (10 ^ k)).tmod 10 ≤ 9 := by
      by_cases hx : 0 ≤ v.tdiv (10 ^ k)
      · have a1 := Int.tmod_nonneg 10 hx
        have a2 := Int.tmod_lt_of_pos (v.tdiv (10 ^ k)) (show (0 : Int) < 10 by omega)
        omega
      · have a1 := Int.tmod_nonneg 10 (show 0 ≤ -(v.tdiv (10 ^ k)) by omega)
        have a2 := Int.tmod_lt_of_pos (-(v.tdiv (10 ^ k))) (show (0 : Int) < 10 by omega)
        rw [Int.neg_tmod] at a1 a2
        omega
    have q7 : qz_absJ ((v.tdiv (10 ^ k)).tmod 10) = (((v.tdiv (10 ^ k)).tmod 10).natAbs : Int) := by
      unfold qz_absJ
      split
      · omega
      · rw [bz_x (by omega) (by omega)]; omega
    rw [fn_Text_addNumber_48]
    unfold fn_Text_addNumber_48_b
    rw [bz_cmp_gt (by omega), if_neg (by omega), bz_ck (by omega), bz_ck (by omega), q1, q5, q7, q6, bz_x (by omega) (by omega), bz_w (by omega) (by omega), bz_i2c (by omega) (by omega), bz_pAdd hT pc (by omega) (by omega) (by omega), bz_bc, bz_ck (by omega), bz_bn]
  have fin : ∀ (n : Nat) (h : qz_H), fn_Text_addNumber_48 (n + 1) T v 0 h = some (0, h) := by
    intro n h
    rw [fn_Text_addNumber_48]
    unfold fn_Text_addNumber_48_b
    rw [bz_cmp_eq, if_pos (by omega)]
  intro k
  induction k with
  | zero =>
    intro hk n h pc hb
    rw [show n + 0 + 2 = (n + 1) + 1 from rfl, step 0 hk (n + 1) h pc (by omega)]
    rw [show ((10 : Int) ^ 0).tdiv 10 = 0 from rfl, fin n _, show v.tdiv ((10 : Int) ^ 0) = v from Int.tdiv_one v]
    rfl
  | succ k ih =>
    intro hk n h pc hb
    rw [show n + (k + 1) + 2 = (n + k + 2) + 1 from by omega, step (k + 1) hk (n + k + 2) h pc (by omega)]
    have e : ((10 : Int) ^ (k + 1)).tdiv 10 = 10 ^ k := by
      rw [Int.pow_succ]
      exact Int.mul_tdiv_cancel _ (by omega)
    have n1 : ∀ c : Int, bz_aps h T [c] T 1 = h T 1 + 1 := fun c => bz_aps_n _ _ _
    rw [e, ih (by omega) n _ (pc.aps hT hM wf _) (by rw [n1]; omega), bz_aps_app]
    rfl
theorem bz_srC (hT : T = 2 ∨ T = 4) (hM : M = 6 ∨ M = 18) (wf : bz_wf P) {v : Int} (v1 : -9223372036854775808 ≤ v) (v2 : v ≤ 9223372036854775807) {h : qz_H} (pc : bz_PC h T M P) (hb : h T 1 ≤ 38000) : ∀ (m k n : Nat), m + k = 18 → fn_Text_addNumber_17 (n + m + 1) T v (10 ^ k) (k : Int) h = some (0, bz_aps h T (bz_dg v (bz_sr v m k))) := by
  have dig : ∀ k : Nat, k ≤ 18 → fn_Text_addNumber_48 qz_NF T v (10 ^ k) h = some (0, bz_aps h T (bz_dg v k)) := by
    intro k hk
    have := bz_dgC hT hM wf v1 v2 k hk (3998 - k) h pc (by omega)
    rw [show 3998 - k + k + 2 = qz_NF from by unfold qz_NF; omega] at this
    exact this
  intro m
  induction m with
  | zero =>
    intro k n hm
    rw [fn_Text_addNumber_17]
    unfold fn_Text_addNumber_17_b
    rw [if_pos (by omega), dig k (by omega), bz_sr]
  | succ m ih =>
    intro k n hm
    obtain ⟨t1, t2⟩ := bz_p10 k (by omega)
    obtain ⟨t3, t4⟩ := bz_p10 (k + 1) (by omega)
    obtain ⟨q1, q2, q3, q4⟩ := bz_divJ v1 v2 t1 (by omega)
    obtain ⟨q5, q6, q7, q8⟩ := bz_divJ q2 q3 (show (1 : Int) ≤ 10 by omega) (by omega)
    rw [show n + (m + 1) + 1 = (n + m + 1) + 1 from by omega, fn_Text_addNumber_17]
    unfold fn_Text_addNumber_17_b
    rw [if_neg (by omega), bz_ck (by omega), bz_ck (by omega), q1, q5, bz_sr]
    have hz : (v.tdiv (10 ^ k)).tdiv 10 = 0 ↔ (v.tdiv (10 ^ k)).natAbs ≤ 9 := by
      rw [← Int.natAbs_eq_zero, Int.natAbs_tdiv]
      show (v.tdiv (10 ^ k)).natAbs / 10 = 0 ↔ _
      omega
    have hc : qz_cmp ((v.tdiv (10 ^ k)).tdiv 10) 0 = 0 ↔ (v.tdiv (10 ^ k)).natAbs ≤ 9 := by
      rw [← hz]
      unfold qz_cmp
      split
      · omega
      split <;> omega
    by_cases c9 : (v.tdiv (10 ^ k)).natAbs ≤ 9
    · rw [if_pos (hc.mpr c9), if_pos c9, dig k (by omega)]
    · rw [if_neg fun z => c9 (hc.mp z), if_neg c9]
      simp only [bz_bn]
      have e : qz_x (10 ^ k * 10) = 10 ^ (k + 1) := by
        rw [← Int.pow_succ]
        exact bz_x (by omega) (by omega)
      rw [e, bz_w (by omega) (by omega)]
      have e2 : (k : Int) + 1 = ((k + 1 : Nat) : Int) := by omega
      rw [e2, ih (k + 1) n (by omega)]
theorem bz_numC (hT : T = 2 ∨ T = 4) (hM : M = 6 ∨ M = 18) (wf : bz_wf P) {v : Int} (v1 : -9223372036854775808 ≤ v) (v2 : v ≤ 9223372036854775807) {h : qz_H} (pc : bz_PC h T M P) (hb : h T 1 ≤ 37000) : fn_Text_addNumber T v h = some (0, bz_aps h T (bz_num v)) := by
  unfold fn_Text_addNumber fn_Text_addNumber_12 bz_num
  simp only [bz_bn, bz_cmp_nn]
  have k : ∀ h : qz_H, bz_PC h T M P → h T 1 ≤ 38000 → fn_Text_addNumber_17 qz_NF T v 1 0 h = some (0, bz_aps h T (bz_dg v (bz_sr v 18 0))) := fun h pc hb => bz_srC hT hM wf v1 v2 pc hb 18 0 3981 rfl
  by_cases hv : v < 0
  · rw [if_neg (by omega), if_pos hv, bz_pAdd hT pc (by omega) (by omega) (by omega), bz_bc, k _ (pc.aps hT hM wf [45]) (by rw [show bz_aps h T [45] T 1 = h T 1 + 1 from bz_aps_n _ _ _]; omega), bz_aps_app]
  · rw [if_pos (by omega), if_neg hv, k h pc (by omega)]
    rfl
end PRC
