def bz_cO : List Int := [0, 1, 2, 3, 4, 5, 11, 12, 13, 15, 16, 26, 27, 32, 33, 34, 65, 66, 69, 70, 72, 106, 107, 108, 80, 81, 124, 126, 167, 172]
def bz_hd : List Int := [8461826529626908769, 7237488, 422726034283, 1819242352, 26982, 1701606245, 6647396, 25202, 422825650534, 125780071117422, 1667329132, 1685221232, 126879447475060, 7813573148589057893, 7813573148589060965, 7813573148589061221, 7580457772612808307, 7581304396566195827, 29611163174400378, 115668606150001, 7580457772764127091, 29611163174134884, 29611163175318882, 29611163174925676, 29614470299218298, 115681524606321, 29614470298952804, 29614470299743596, 7580457772948545904, 7581304396600341605]
def bz_rt : List Int := [6450277, 0, 0, 0, 0, 0, 0, 0, 0, 0, 0, 0, 0, 116, 116, 101, 116, 116, 0, 0, 0, 0, 0, 0, 0, 0, 0, 0, 1600730676, 7954587747278282611]
def bz_wo : List Nat := [0, 1, 2, 3, 4, 5, 6, 7, 8, 9, 10, 11, 12, 13, 14, 15, 16, 17, 18, 19, 20, 24, 25, 21, 22, 23, 26, 27, 28, 29]
/-! What the model prints. -/
abbrev bz_mps (h : qz_H) (l : List Int) : qz_H := bz_gs h 67 62 108 l
theorem bz_mps_app (h : qz_H) (a b : List Int) : bz_mps (bz_mps h a) b = bz_mps h (a ++ b) := bz_gs_app _ _ _ _ _ _
theorem bz_mps_n (h : qz_H) (l : List Int) : bz_mps h l 67 62 = h 67 62 + l.length := bz_gs_n _ _ _ _ _
theorem bz_mps_o {h : qz_H} {x y : Int} (l : List Int) (h1 : x ≠ 67 ∨ y ≠ 62) (h2 : x ≠ 108) : bz_mps h l x y = h x y := bz_gs_o h1 h2 l h
theorem bz_mp_L {h : qz_H} {c : Int} (h0 : 0 ≤ h 67 62) (hL : bz_LM h) : bz_LM (bz_gp h 67 62 108 c) := by
  unfold bz_gp
  refine bz_LM_up (a := 67) (b := 67) (c := 62) (e := 62) (by decide +kernel) (by omega) (by omega) (by omega) (by omega) ?_
  split
  · exact bz_LM_up (a := 108) (b := 108) (c := 0) (e := 320) (by decide +kernel) (by omega) (by omega) (by omega) (by omega) hL
  · exact hL
theorem bz_mps_L : ∀ (l : List Int) (h : qz_H), 0 ≤ h 67 62 → bz_LM h → bz_LM (bz_mps h l)
  | [], _, _, hL => hL
  | c :: l, h, h0, hL => bz_mps_L l (bz_gp h 67 62 108 c) (by rw [show bz_gp h 67 62 108 c 67 62 = h 67 62 + 1 from bz_us _ _ _ _]; omega) (bz_mp_L h0 hL)
def bz_PM (h : qz_H) (P : qz_H) : Prop := bz_LM h ∧ bz_MM h P ∧ 0 ≤ h 67 62
theorem bz_MM_same {h h' P : qz_H} (h7 : h' 67 7 = h 67 7) (hs : ∀ o i : Int, 72 ≤ o → o ≤ 78 → h' o i = h o i) (mm : bz_MM h P) : bz_MM h' P := by
  refine ⟨h7.trans mm.1, fun f f0 f1 => ?_⟩
  rw [hs _ _ (by omega) (by omega), hs _ _ (by omega) (by omega), hs _ _ (by omega) (by omega), hs _ _ (by omega) (by omega), hs _ _ (by omega) (by omega)]
  obtain ⟨c1, c2, c3, c4, c5, c6, c7⟩ := mm.2 f f0 f1
  refine ⟨c1, c2, c3, c4, c5, fun k k0 k1 => ?_, fun i i0 i1 => ?_⟩
  · rw [hs _ _ (by omega) (by omega)]
    exact c6 k k0 k1
  · rw [hs _ _ (by omega) (by omega), hs _ _ (by omega) (by omega)]
    exact c7 i i0 i1
theorem bz_PM.mps {h P : qz_H} (pm : bz_PM h P) (l : List Int) : bz_PM (bz_mps h l) P := by
  obtain ⟨p1, p2, p3⟩ := pm
  refine ⟨bz_mps_L l h p3 p1, bz_MM_same (bz_mps_o l (by omega) (by omega)) (fun o i o1 o2 => bz_mps_o l (by omega) (by omega)) p2, ?_⟩
  rw [bz_mps_n]; omega
section PRM
variable {P : qz_H}
theorem bz_outM {h : qz_H} (pm : bz_PM h P) (hb : h 67 62 ≤ 90000) {c : Int} (c0 : 0 ≤ c) (c1 : c ≤ 65535) : fn_Md_out 67 c h = some (0, bz_mps h [c]) := by
  obtain ⟨p1, p2, p3⟩ := pm
  unfold fn_Md_out fn_Md_out_21
  show _ = some (0, bz_gp h 67 62 108 c)
  unfold bz_gp
  rw [bz_m67_63 p1, bz_m108_m1 p1, bz_i2c c0 c1, bz_nc c0 c1]
  by_cases q : h 67 62 < 320
  · rw [if_neg (by omega), if_pos q, bz_ck (by omega), bz_ck (by omega), bz_bn, bz_ck (by omega), bz_bn, bz_uo (by omega), bz_w (by omega) (by omega)]
  · rw [if_pos (by omega), if_neg q, bz_ck (by omega), bz_bn, bz_w (by omega) (by omega)]
def bz_b8 (e : Int) : Nat → List Int
  | 0 => if bz_by e 0 = 0 then [] else [bz_by e 0]
  | k + 1 => (if bz_by e (k + 1) = 0 then [] else [bz_by e (k + 1)]) ++ bz_b8 e k
theorem bz_b8_len (e : Int) : ∀ k : Nat, (bz_b8 e k).length ≤ k + 1
  | 0 => by rw [bz_b8]; split <;> simp
  | k + 1 => by
    have := bz_b8_len e k
    rw [bz_b8, List.length_append]
    split <;> simp only [List.length_nil, List.length_singleton] <;> omega
theorem bz_outLong (e : Int) {h : qz_H} (pm : bz_PM h P) (hb : h 67 62 ≤ 80000) : fn_Md_outLong 67 e h = some (0, bz_mps h (bz_b8 e 7)) := by
  have step : ∀ (k n : Nat) (h : qz_H), k ≤ 7 → bz_PM h P → h 67 62 ≤ 90000 → fn_Md_outLong_3 (n + 1) 67 e (8 * (k : Int)) h = fn_Md_outLong_3 n 67 e (8 * (k : Int) - 8) (bz_mps h (if bz_by e k = 0 then [] else [bz_by e k])) := by
    intro k n h hk pm hb
    have hrg := bz_by_rg e k
    rw [fn_Md_outLong_3]
    unfold fn_Md_outLong_3_b fn_Md_outLong_28
    have c1 : ¬ 8 * (k : Int) < 0 := by omega
    simp only [bz_bn, if_neg c1, bz_w (show -2147483648 ≤ 8 * (k : Int) + -8 by omega) (by omega), show qz_and (qz_w (qz_ushJ e (8 * (k : Int)))) 255 = bz_by e k from rfl]
    by_cases hz : bz_by e k = 0
    · rw [if_pos hz, if_pos hz]
      rfl
    · rw [if_neg hz, if_neg hz, bz_outM pm hb (by omega) (by omega), bz_bc]
      rfl
  have fin : ∀ (n : Nat) (h : qz_H), fn_Md_outLong_3 (n + 1) 67 e (-8) h = some (0, h) := by
    intro n h
    rw [fn_Md_outLong_3]
    unfold fn_Md_outLong_3_b
    rw [if_pos (by omega)]
  have key : ∀ (k n : Nat) (h : qz_H), k ≤ 7 → bz_PM h P → h 67 62 + k ≤ 90000 → fn_Md_outLong_3 (n + k + 2) 67 e (8 * (k : Int)) h = some (0, bz_mps h (bz_b8 e k)) := by
    intro k
    induction k with
    | zero =>
      intro n h hk pm hb
      rw [show n + 0 + 2 = (n + 1) + 1 from rfl, step 0 (n + 1) h hk pm (by omega), show 8 * ((0 : Nat) : Int) - 8 = -8 from rfl, fin]
      rfl
    | succ k ih =>
      intro n h hk pm hb
      have l : (if bz_by e (k + 1) = 0 then [] else [bz_by e (k + 1)] : List Int).length ≤ 1 := by split <;> simp
      rw [show n + (k + 1) + 2 = (n + k + 2) + 1 from by omega, step (k + 1) (n + k + 2) h hk pm (by omega), show 8 * ((k + 1 : Nat) : Int) - 8 = 8 * (k : Int) from by omega, ih n _ (by omega) (pm.mps _) (by rw [bz_mps_n]; omega), bz_mps_app]
      rfl
  unfold fn_Md_outLong
  rw [bz_bn]
  exact key 7 3991 h (by omega) pm (by omega)
theorem bz_outT {h : qz_H} (pm : bz_PM h P) (hb : h 67 62 ≤ 70000) (t : Int) : fn_Md_outType 67 t h = some (0, bz_mps h (32 :: bz_wt t)) := by
  have n1 : bz_mps h [32] 67 62 = h 67 62 + 1 := bz_mps_n _ _
  unfold fn_Md_outType fn_Md_outType_21 bz_wt
  rw [bz_outM pm (by omega) (by omega) (by omega), bz_bc]
  by_cases ht : t = 1
  · rw [if_neg (by omega), if_pos ht, bz_outLong _ (pm.mps _) (by omega), bz_bc, bz_mps_app, show bz_b8 6894386 7 = kz_sb 5 from by decide +kernel]
    rfl
  · rw [if_pos ht, if_neg ht, bz_outLong _ (pm.mps _) (by omega), bz_bc, bz_mps_app, show bz_b8 6895156 7 = kz_sb 6 from by decide +kernel]
    rfl
theorem bz_outR {h : qz_H} (pm : bz_PM h P) (hb : h 67 62 ≤ 60000) (t : Int) : fn_Md_outResult 67 t h = some (0, bz_mps h (bz_rs t)) := by
  have n1 : bz_mps h [40] 67 62 = h 67 62 + 1 := bz_mps_n _ _
  have pm1 := pm.mps [40]
  have pm2 := pm1.mps (bz_b8 125780054338676 7)
  have n2 : bz_mps (bz_mps h [40]) (bz_b8 125780054338676 7) 67 62 = bz_mps h [40] 67 62 + (bz_b8 125780054338676 7).length := bz_mps_n _ _
  have l2 := bz_b8_len 125780054338676 7
  have pm3 := pm2.mps (32 :: bz_wt t)
  have n3 : bz_mps (bz_mps (bz_mps h [40]) (bz_b8 125780054338676 7)) (32 :: bz_wt t) 67 62 = bz_mps (bz_mps h [40]) (bz_b8 125780054338676 7) 67 62 + (32 :: bz_wt t).length := bz_mps_n _ _
  have l3 := bz_wt_len t
  rw [List.length_cons] at n3
  unfold fn_Md_outResult bz_rs
  rw [bz_outM pm (by omega) (by omega) (by omega), bz_bc, bz_outLong _ pm1 (by omega), bz_bc, bz_outT pm2 (by omega), bz_bc, bz_outM pm3 (by omega) (by omega) (by omega), bz_bc, bz_mps_app, bz_mps_app, bz_mps_app]
  have e : kz_sb 13 = [40] ++ (bz_b8 125780054338676 7 ++ [32]) := by decide +kernel
  rw [e]
  simp only [List.cons_append, List.nil_append, List.append_assoc]
theorem bz_dgM {v : Int} (v1 : -9223372036854775808 ≤ v) (v2 : v ≤ 9223372036854775807) : ∀ (k : Nat), k ≤ 18 → ∀ (n : Nat) (h : qz_H), bz_PM h P → h 67 62 + k ≤ 50000 → fn_Md_outNumber_48 (n + k + 2) 67 (10 ^ k) v h = some (0, bz_mps h (bz_dg v k)) := by
  have step : ∀ (k : Nat), k ≤ 18 → ∀ (n : Nat) (h : qz_H), bz_PM h P → h 67 62 ≤ 50000 → fn_Md_outNumber_48 (n + 1) 67 (10 ^ k) v h = fn_Md_outNumber_48 n 67 ((10 ^ k : Int).tdiv 10) v (bz_mps h [48 + (((v.tdiv (10 ^ k)).tmod 10).natAbs : Int)]) := by
    intro k hk n h pm hb
    obtain ⟨t1, t2⟩ := bz_p10 k hk
    obtain ⟨q1, q2, q3, q4⟩ := bz_divJ v1 v2 t1 (by omega)
    have q5 := bz_remJ q2 q3
    have q6 := (bz_divJ (x := 10 ^ k) (y := 10) (by omega) (by omega) (by omega) (by omega)).1
    have hb9 : -9 ≤ (v.tdiv (10 ^ k)).tmod 10 ∧ (v.tdiv (10 ^ k)).tmod 10 ≤ 9 := by
      by_cases hx : 0 ≤ v.tdiv (10 ^ k)
      · have a1 := Int.tmod_nonneg 10 hx
        have a2 := Int.tmod_lt_of_pos (v.tdiv (10 ^ k)) (show (0 : Int) < 10 by omega)
        omega
      · have a1 := Int.tmod_nonneg 10 (show 0 ≤ -(v.tdiv (10 ^ k)) by omega)
        have a2 := Int.tmod_lt_of_pos (-(v.tdiv (10 ^ k))) (show (0 : Int) < 10 by omega)
        rw [Int.neg_tmod] at a1 a2
        omega
    rw [fn_Md_outNumber_48]
    unfold fn_Md_outNumber_48_b fn_Md_outNumber_82
    simp only [bz_bn, q1, q5, q6, bz_cmp_nn]
    rw [bz_cmp_gt (show (0 : Int) < 10 ^ k by omega), if_neg (by omega)]
    by_cases c : 0 ≤ (v.tdiv (10 ^ k)).tmod 10
    · rw [if_pos c, bz_w (show -2147483648 ≤ (v.tdiv (10 ^ k)).tmod 10 by omega) (by omega), bz_w (by omega) (by omega), bz_outM pm (by omega) (by omega) (by omega), bz_ck (by omega), bz_ck (by omega), bz_bc, bz_ck (by omega)]
      rw [show (v.tdiv (10 ^ k)).tmod 10 = ((((v.tdiv (10 ^ k)).tmod 10).natAbs : Nat) : Int) from by omega]
      rfl
    · rw [if_neg c, bz_x (by omega) (by omega), bz_w (show -2147483648 ≤ -(v.tdiv (10 ^ k)).tmod 10 by omega) (by omega), bz_w (by omega) (by omega), bz_outM pm (by omega) (by omega) (by omega), bz_ck (by omega), bz_ck (by omega), bz_bc, bz_ck (by omega)]
      rw [show -(v.tdiv (10 ^ k)).tmod 10 = ((((v.tdiv (10 ^ k)).tmod 10).natAbs : Nat) : Int) from by omega]
  have fin : ∀ (n : Nat) (h : qz_H), fn_Md_outNumber_48 (n + 1) 67 0 v h = some (0, h) := by
    intro n h
    rw [fn_Md_outNumber_48]
    unfold fn_Md_outNumber_48_b
    rw [bz_cmp_eq, if_pos (by omega)]
  intro k
  induction k with
  | zero =>
    intro hk n h pm hb
    rw [show n + 0 + 2 = (n + 1) + 1 from rfl, step 0 hk (n + 1) h pm (by omega)]
    rw [show ((10 : Int) ^ 0).tdiv 10 = 0 from rfl, fin n _, show v.tdiv ((10 : Int) ^ 0) = v from Int.tdiv_one v]
    rfl
  | succ k ih =>
    intro hk n h pm hb
    rw [show n + (k + 1) + 2 = (n + k + 2) + 1 from by omega, step (k + 1) hk (n + k + 2) h pm (by omega)]
    have e : ((10 : Int) ^ (k + 1)).tdiv 10 = 10 ^ k := by
      rw [Int.pow_succ]
      exact Int.mul_tdiv_cancel _ (by omega)
    have n1 : ∀ c : Int, bz_mps h [c] 67 62 = h 67 62 + 1 := fun c => bz_mps_n _ _
    rw [e, ih (by omega) n _ (pm.mps _) (by rw [n1]; omega), bz_mps_app]
    rfl
theorem bz_srM {v : Int} (v1 : -9223372036854775808 ≤ v) (v2 : v ≤ 9223372036854775807) {h : qz_H} (pm : bz_PM h P) (hb : h 67 62 ≤ 40000) : ∀ (m k n : Nat), m + k = 18 → fn_Md_outNumber_17 (n + m + 1) 67 (10 ^ k) v h = some (0, bz_mps h (bz_dg v (bz_sr v m k))) := by
  have dig : ∀ k : Nat, k ≤ 18 → fn_Md_outNumber_48 qz_NF 67 (10 ^ k) v h = some (0, bz_mps h (bz_dg v k)) := by
    intro k hk
    have := bz_dgM v1 v2 k hk (3998 - k) h pm (by omega)
    rw [show 3998 - k + k + 2 = qz_NF from by unfold qz_NF; omega] at this
    exact this
  have step : ∀ (k n : Nat), k ≤ 17 ∨ (v.tdiv (10 ^ k)).natAbs ≤ 9 → k ≤ 18 → fn_Md_outNumber_17 (n + 1) 67 (10 ^ k) v h = if (v.tdiv (10 ^ k)).natAbs ≤ 9 then some (0, bz_mps h (bz_dg v k)) else fn_Md_outNumber_17 n 67 (10 ^ (k + 1)) v h := by
    intro k n hk hk2
    obtain ⟨t1, t2⟩ := bz_p10 k (by omega)
    obtain ⟨q1, q2, q3, q4⟩ := bz_divJ v1 v2 t1 (by omega)
    rw [fn_Md_outNumber_17]
    unfold fn_Md_outNumber_17_b fn_Md_outNumber_39
    have e : k ≤ 17 → qz_x (10 ^ k * 10) = 10 ^ (k + 1) := by
      intro hk
      obtain ⟨t3, t4⟩ := bz_p10 (k + 1) (by omega)
      rw [← Int.pow_succ]
      exact bz_x (by omega) (by omega)
    have g9 : 0 < qz_cmp (v.tdiv (10 ^ k)) 9 ↔ 9 < v.tdiv (10 ^ k) := by
      unfold qz_cmp
      split
      · omega
      split <;> omega
    simp only [bz_bn, q1, bz_cmp_nn, g9, bz_ck (show (10 : Int) ^ k ≠ 0 by omega)]
    by_cases c9 : (v.tdiv (10 ^ k)).natAbs ≤ 9
    · rw [if_pos c9, if_neg (by omega), if_pos (by omega), dig k (by omega)]
    · rw [if_neg c9, e (by omega)]
      by_cases c10 : 9 < v.tdiv (10 ^ k)
      · rw [if_pos c10]
      · rw [if_neg c10, if_neg (by omega)]
  intro m
  induction m with
  | zero =>
    intro k n hm
    have hk : k = 18 := by omega
    subst hk
    have c9 : (v.tdiv (10 ^ 18)).natAbs ≤ 9 := by
      rw [Int.natAbs_tdiv]
      show v.natAbs / 1000000000000000000 ≤ 9
      omega
    rw [step 18 (n + 0) (Or.inr c9) (by omega), if_pos c9, bz_sr]
  | succ m ih =>
    intro k n hm
    rw [show n + (m + 1) + 1 = (n + m + 1) + 1 from by omega, step k (n + m + 1) (Or.inl (by omega)) (by omega), bz_sr]
    by_cases c9 : (v.tdiv (10 ^ k)).natAbs ≤ 9
    · rw [if_pos c9, if_pos c9]
    · rw [if_neg c9, if_neg c9, ih (k + 1) n (by omega)]
theorem bz_numM {v : Int} (v1 : -9223372036854775808 ≤ v) (v2 : v ≤ 9223372036854775807) {h : qz_H} (pm : bz_PM h P) (hb : h 67 62 ≤ 39000) : fn_Md_outNumber 67 v h = some (0, bz_mps h (bz_num v)) := by
  unfold fn_Md_outNumber fn_Md_outNumber_12 bz_num
  simp only [bz_bn, bz_cmp_nn]
  have k : ∀ h : qz_H, bz_PM h P → h 67 62 ≤ 40000 → fn_Md_outNumber_17 qz_NF 67 1 v h = some (0, bz_mps h (bz_dg v (bz_sr v 18 0))) := fun h pm hb => bz_srM v1 v2 pm hb 18 0 3981 rfl
  by_cases hv : v < 0
  · rw [if_neg (by omega), if_pos hv, bz_outM pm (by omega) (by omega) (by omega), bz_bc, k _ (pm.mps [45]) (by rw [show bz_mps h [45] 67 62 = h 67 62 + 1 from bz_mps_n _ _]; omega), bz_mps_app]
  · rw [if_pos (by omega), if_neg hv, k h pm (by omega)]
    rfl
end PRM
