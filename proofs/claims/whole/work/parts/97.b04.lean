/-! The token: which word, which instruction. -/
def cz_kb (t : Int → Int) (kd s : Int) (L i : Nat) : Int := if kd = 2 ∧ cz_W t s L = kz_sb i then 1 else 0
theorem cz_kws : (∀ i : Nat, i < 7 → (∀ c ∈ kz_sb i, 1 ≤ c ∧ c ≤ 255) ∧ cz_pl (((kz_sb i).drop 8).take 8) = 0 ∧ (kz_sb i).length ≤ 16) ∧ cz_pl ((kz_sb 0).take 8) = 120325194214501 ∧ (kz_sb 0).length = 6 ∧ cz_pl ((kz_sb 1).take 8) = 1718972003 ∧ (kz_sb 1).length = 4 ∧ cz_pl ((kz_sb 2).take 8) = 482671223149 ∧ (kz_sb 2).length = 5 ∧ cz_pl ((kz_sb 3).take 8) = 125780054338676 ∧ (kz_sb 3).length = 6 ∧ cz_pl ((kz_sb 4).take 8) = 465725251948 ∧ (kz_sb 4).length = 5 ∧ cz_pl ((kz_sb 5).take 8) = 6894386 ∧ (kz_sb 5).length = 3 ∧ cz_pl ((kz_sb 6).take 8) = 6895156 ∧ (kz_sb 6).length = 3 := by decide +kernel
/-- of the thirty: plain or not, awaits or not -/
theorem cz_o30a : ∀ j : Nat, j < 30 → (kz_dt (-((j : Int) + 1)) 2 = 1 ↔ 2 ≤ kz_dt (-((j : Int) + 1)) 1 ∧ kz_dt (-((j : Int) + 1)) 1 ≤ 4) ∧ (kz_dt (-((j : Int) + 1)) 1 = 5 ↔ j = 5) ∧ (kz_dt (-((j : Int) + 1)) 1 = 11 ↔ j = 6) ∧ (kz_dt (-((j : Int) + 1)) 1 = 4 ↔ j = 4) ∧ (kz_dt (-((j : Int) + 1)) 1 = 16 ↔ j = 10) := by decide +kernel
theorem cz_o30b : ∀ j : Nat, j < 30 → (kz_dt (-((j : Int) + 1)) 2 = 3 ↔ j = 10) ∧ (kz_dt (-((j : Int) + 1)) 2 = 2 ↔ kz_dt (-((j : Int) + 1)) 1 = 12 ∨ kz_dt (-((j : Int) + 1)) 1 = 13) ∧ (kz_dt (-((j : Int) + 1)) 2 = 4 ↔ 32 ≤ kz_dt (-((j : Int) + 1)) 1 ∧ kz_dt (-((j : Int) + 1)) 1 ≤ 34) ∧ (kz_dt (-((j : Int) + 1)) 2 = 5 ↔ kz_dt (-((j : Int) + 1)) 1 = 65) := by decide +kernel
theorem cz_o30c : ∀ j : Nat, j < 30 → (kz_dt (-((j : Int) + 1)) 2 = 6 ↔ kz_dt (-((j : Int) + 1)) 1 = 66) ∧ 0 ≤ kz_dt (-((j : Int) + 1)) 2 ∧ kz_dt (-((j : Int) + 1)) 2 ≤ 6 ∧ 0 ≤ kz_dt (-((j : Int) + 1)) 1 ∧ kz_dt (-((j : Int) + 1)) 1 ≤ 255 := by decide +kernel
theorem cz_o30d : ∀ j : Nat, j < 30 → (bz_wd (-((j : Int) + 1))).getD 0 0 ≠ 36 ∧ 1 ≤ (bz_wd (-((j : Int) + 1))).length ∧ (kz_dt (-((j : Int) + 1)) 1 = 5 → kz_dt (-((j : Int) + 1)) 2 = 0) ∧ (kz_dt (-((j : Int) + 1)) 1 = 11 → kz_dt (-((j : Int) + 1)) 2 = 0) := by decide +kernel
theorem cz_o30 (j : Nat) (hj : j < 30) : (kz_dt (-((j : Int) + 1)) 2 = 1 ↔ 2 ≤ kz_dt (-((j : Int) + 1)) 1 ∧ kz_dt (-((j : Int) + 1)) 1 ≤ 4) ∧ (kz_dt (-((j : Int) + 1)) 1 = 5 ↔ j = 5) ∧ (kz_dt (-((j : Int) + 1)) 1 = 11 ↔ j = 6) ∧ (kz_dt (-((j : Int) + 1)) 1 = 4 ↔ j = 4) ∧ (kz_dt (-((j : Int) + 1)) 1 = 16 ↔ j = 10) ∧ (kz_dt (-((j : Int) + 1)) 2 = 3 ↔ j = 10) ∧ (kz_dt (-((j : Int) + 1)) 2 = 2 ↔ kz_dt (-((j : Int) + 1)) 1 = 12 ∨ kz_dt (-((j : Int) + 1)) 1 = 13) ∧ (kz_dt (-((j : Int) + 1)) 2 = 4 ↔ 32 ≤ kz_dt (-((j : Int) + 1)) 1 ∧ kz_dt (-((j : Int) + 1)) 1 ≤ 34) ∧ (kz_dt (-((j : Int) + 1)) 2 = 5 ↔ kz_dt (-((j : Int) + 1)) 1 = 65) ∧ (kz_dt (-((j : Int) + 1)) 2 = 6 ↔ kz_dt (-((j : Int) + 1)) 1 = 66) ∧ 0 ≤ kz_dt (-((j : Int) + 1)) 2 ∧ kz_dt (-((j : Int) + 1)) 2 ≤ 6 ∧ 0 ≤ kz_dt (-((j : Int) + 1)) 1 ∧ kz_dt (-((j : Int) + 1)) 1 ≤ 255 ∧ (bz_wd (-((j : Int) + 1))).getD 0 0 ≠ 36 ∧ 1 ≤ (bz_wd (-((j : Int) + 1))).length ∧ (kz_dt (-((j : Int) + 1)) 1 = 5 → kz_dt (-((j : Int) + 1)) 2 = 0) ∧ (kz_dt (-((j : Int) + 1)) 1 = 11 → kz_dt (-((j : Int) + 1)) 2 = 0) := by
  obtain ⟨a1, a2, a3, a4, a5⟩ := cz_o30a j hj
  obtain ⟨b1, b2, b3, b4⟩ := cz_o30b j hj
  obtain ⟨c1, c2, c3, c4, c5⟩ := cz_o30c j hj
  obtain ⟨d1, d2, d3, d4⟩ := cz_o30d j hj
  exact ⟨a1, a2, a3, a4, a5, b1, b2, b3, b4, c1, c2, c3, c4, c5, d1, d2, d3, d4⟩
section SC
variable {t : Int → Int} {N T M : Int} {hc0 hm0 hc hm : qz_H}
theorem cz_en.isC (e : cz_en t N T M hc0 hm0 hc hm) {kd s : Int} {L : Nat} (tk : cz_tk t N hc hm kd s L) {i : Nat} (hi : i < 46) : fn_Scanner_is 34 (-35 - 2 * (i : Int)) hc = some (cz_kb t kd s L i, hc) := by
  unfold cz_kb
  by_cases c : kd = 2
  · obtain ⟨k1, k2, k3, k4, k5, k6, k7⟩ := tk
    rcases k7 with k7 | k7 | k7
    · omega
    · rw [cz_isC e.w e.tc k7.2.1 (by omega) k2 k7.2.2.1 hi]
      by_cases z : cz_W t s L = kz_sb i
      · rw [if_pos z, if_pos ⟨c, z⟩]
      · rw [if_neg z, if_neg (fun y => z y.2)]
    · omega
  · rw [if_neg (fun y => c y.1)]
    exact cz_isC0 (by rw [tk.1]; exact c) _
theorem cz_en.isM (e : cz_en t N T M hc0 hm0 hc hm) {kd s : Int} {L : Nat} (tk : cz_tk t N hc hm kd s L) {i : Nat} (hi : i < 7) {K : Int} {n : Nat} (hK : cz_pl ((kz_sb i).take 8) = K) (hn : (kz_sb i).length = n) : fn_Md_is 67 K (n : Int) hm = some (cz_kb t kd s L i, hm) := by
  unfold cz_kb
  obtain ⟨q1, q2, q3⟩ := cz_kws.1 i hi
  by_cases c : kd = 2
  · obtain ⟨k1, k2, k3, k4, k5, k6, k7⟩ := tk
    rcases k7 with k7 | k7 | k7
    · omega
    · rw [cz_isM e.w k7.2.1 (by rw [k4, if_neg (by omega)]; omega) k7.2.2.2.2.1 k7.2.2.2.2.2.1 k7.2.2.2.2.2.2.1 (l := kz_sb i) ⟨hn, by omega, hK.symm, q2, q1⟩]
      by_cases z : cz_W t s L = kz_sb i
      · rw [if_pos z, if_pos ⟨c, z⟩]
      · rw [if_neg z, if_neg (fun y => z y.2)]
    · omega
  · rw [if_neg (fun y => c y.1)]
    exact cz_isM0 (by rw [tk.2.2.2.1]; split <;> omega) _ _
theorem cz_kb01 (kd s : Int) (L i : Nat) : cz_kb t kd s L i = 0 ∨ cz_kb t kd s L i = 1 := by
  unfold cz_kb
  split <;> omega
theorem cz_kb2 {kd s : Int} {L i : Nat} (h : cz_kb t kd s L i = 1) : kd = 2 := by
  unfold cz_kb at h
  by_cases c : kd = 2 ∧ cz_W t s L = kz_sb i
  · exact c.1
  · rw [if_neg c] at h; omega
/-- i32, i64 or none -/
def cz_ty (t : Int → Int) (kd s : Int) (L : Nat) : Int := if cz_kb t kd s L 5 = 1 then 1 else if cz_kb t kd s L 6 = 1 then 2 else 0
theorem cz_en.ty (e : cz_en t N T M hc0 hm0 hc hm) {kd s : Int} {L : Nat} (tk : cz_tk t N hc hm kd s L) : fn_Scanner_valueType 34 hc = some (cz_ty t kd s L, hc) := by
  unfold fn_Scanner_valueType fn_Scanner_valueType_25 cz_ty
  have i5 := e.isC tk (i := 5) (by omega)
  have i6 := e.isC tk (i := 6) (by omega)
  rw [show (-35 - 2 * ((5 : Nat) : Int)) = -45 by omega] at i5
  rw [show (-35 - 2 * ((6 : Nat) : Int)) = -47 by omega] at i6
  rw [i5, bz_bc, i6, bz_bc]
  rcases cz_kb01 (t := t) kd s L 5 with z | z <;> rcases cz_kb01 (t := t) kd s L 6 with y | y <;> rw [z, y] <;> simp
/-- the instruction -/
theorem cz_en.op (e : cz_en t N T M hc0 hm0 hc hm) {kd s : Int} {L : Nat} (tk : cz_tk t N hc hm kd s L) : fn_Md_instructionWord 67 hm = some (cz_ix (hc 34 4), hm) ∧ (hc 34 4 = 0 ∧ cz_ix (hc 34 4) = -1 ∨ ∃ j : Nat, j < 30 ∧ hc 34 4 = -((j : Int) + 1) ∧ kd = 2 ∧ ¬ cz_nt t kd s L ∧ 0 ≤ cz_ix (hc 34 4) ∧ cz_ix (hc 34 4) < 30 ∧ hm 70 (cz_ix (hc 34 4)) = kz_dt (hc 34 4) 1) := by
  obtain ⟨k1, k2, k3, k4, k5, k6, k7⟩ := tk
  have z0 : cz_ix 0 = -1 := if_pos rfl
  rcases k7 with k7 | k7 | k7
  · rw [k7.2.2.2.2, z0]
    exact ⟨cz_iwM0 (by rw [k4]; split <;> omega), Or.inl ⟨rfl, rfl⟩⟩
  · have hw := k7.2.1
    have ow := k7.2.2.2.2.2.2.2
    refine ⟨cz_iwM e.w e.tm.1 hw (by rw [k4, if_neg (by omega)]; omega) k7.2.2.2.2.1 k7.2.2.2.2.2.1 k7.2.2.2.2.2.2.1 ow, ?_⟩
    rcases ow with ⟨h, _⟩ | ⟨j, j1, j2, j3⟩
    · left; rw [h]; exact ⟨rfl, z0⟩
    · right
      refine ⟨j, j1, j2, k7.1, ?_, ?_⟩
      · intro y
        have o := cz_o30 j j1
        have := cz_W_get t s (L := L) (i := 0) (by omega)
        rw [j3, show s + ((0 : Nat) : Int) = s by omega, y.2.1] at this
        exact o.2.2.2.2.2.2.2.2.2.2.2.2.2.2.1 this
      · rw [j2]
        unfold cz_ix
        rw [if_neg (by omega), show (-(-((j : Int) + 1)) - 1).toNat = j by omega]
        obtain ⟨q1, q2, q3⟩ := bz_op30 j j1
        refine ⟨by omega, by omega, ?_⟩
        rw [bz_t70 e.tm.1 q1]
        exact q2
  · rw [k7.2, z0]
    exact ⟨cz_iwM0 (by rw [k4]; split <;> omega), Or.inl ⟨rfl, rfl⟩⟩
theorem cz_plM (x : Int) (h : qz_H) : fn_Md_isPlain x h = some (if 2 ≤ x ∧ x ≤ 5 ∨ x = 11 then 0 else 1, h) := by
  unfold fn_Md_isPlain fn_Md_isPlain_16 fn_Md_isPlain_20 fn_Md_isPlain_21
  rw [bz_ck (by omega), bz_ck (by omega)]
  (repeat' split) <;> first | rfl | omega
theorem cz_plC (a : bz_LC hc) {j : Nat} (hj : j < 30) : fn_Op_isPlain (-((j : Int) + 1)) hc = some (if 2 ≤ kz_dt (-((j : Int) + 1)) 1 ∧ kz_dt (-((j : Int) + 1)) 1 ≤ 5 ∨ kz_dt (-((j : Int) + 1)) 1 = 11 then 0 else 1, hc) := by
  have o := cz_o30 j hj
  unfold fn_Op_isPlain fn_Op_isPlain_25 fn_Op_isPlain_26
  rw [bz_op_ob a (by omega) (by omega), bz_bc, bz_ck (by omega), bz_ck (by omega)]
  by_cases c : kz_dt (-((j : Int) + 1)) 2 = 1
  · have := o.1.mp c
    rw [if_pos c, if_pos (by omega), if_pos (by omega)]
  · have c1 : ¬ (2 ≤ kz_dt (-((j : Int) + 1)) 1 ∧ kz_dt (-((j : Int) + 1)) 1 ≤ 4) := fun z => c (o.1.mpr z)
    have o5 := o.2.1
    have o6 := o.2.2.1
    rw [if_neg c, if_neg (by omega)]
    (repeat' split) <;> first | rfl | omega
end SC
