/-! The steps of both readers, one by one. -/
section SC
variable {t : Int → Int} {N T M : Int} {hc0 hm0 hc hm hc' hm' : qz_H}
theorem cz_add (e : cz_en t N T M hc0 hm0 hc hm) {c m x v : Int} (m3 : hc M 3 = c) (c1 : 1 ≤ c) (c4 : c ≤ 4) (m4 : hc M 4 = m) (m0 : 0 ≤ m) (x0 : x ≠ 0) (y0 : 0 ≤ hc (M + 2 + 2 * c) 5) (y1 : hc (M + 2 + 2 * c) 5 ≤ 64) : fn_Module_add M x v hc = if m < 64 then some (1, qz_up (qz_up (qz_up (qz_up hc (M + 2) m x) (M + 3) m v) M 4 (m + 1)) (M + 2 + 2 * c) 5 (hc (M + 2 + 2 * c) 5 + 1)) else some (0, hc) := by
  have hM := e.hM
  obtain ⟨a0, a1, a2, a3, a4, a5⟩ := bz_mod e.tc.1 hM
  have e1 : m < 64 → cz_en t N T M hc0 hm0 (qz_up (qz_up (qz_up hc (M + 2) m x) (M + 3) m v) M 4 (m + 1)) hm := fun h => ((e.uc (by omega)).uc (by omega)).uc (by omega)
  unfold fn_Module_add
  rw [m4]
  by_cases h : m < 64
  · have lt := cz_lat (e1 h).tc.1 hM (c := c) (by simp (disch := omega) only [cz_un]; exact m3) c1 c4
    rw [if_pos h, if_pos h]
    have y2 := bz_w (z := hc (M + 2 + 2 * c) 5 + 1) (by omega) (by omega)
    have y3 := bz_w (z := m + 1) (by omega) (by omega)
    simp (disch := omega) only [bz_ck, bz_bn, cz_un, bz_us, m4, a1, a2, a4, a5, y3, lt, bz_bc, y2, or_true, cz_ckT]
  · rw [if_neg h, if_neg h, bz_ck (by omega)]
theorem cz_emit (e : cz_en t N T M hc0 hm0 hc hm) {m : Int} (m23 : hm 67 23 = m) (m0 : 0 ≤ m) (m64 : m < 64) (x v : Int) : fn_Md_emit 67 x v hm = some (m, qz_up (qz_up (qz_up hm 84 m x) 85 m v) 67 23 (m + 1)) := by
  have L := e.tm.1
  unfold fn_Md_emit
  have y3 := bz_w (z := m + 1) (by omega) (by omega)
  simp (disch := omega) only [bz_ck, bz_bn, cz_un, bz_us, m23, bz_m67_21 L, bz_m67_22 L, bz_m84_m1 L, bz_m85_m1 L, y3]
  rw [show m + 1 - 1 = m by omega, bz_w (by omega) (by omega)]
theorem cz_room (e : cz_en t N T M hc0 hm0 hc hm) : fn_Md_hasRoom 67 hm = if hm 67 23 < 64 then some (1, hm) else some (0, qz_up hm 67 38 2) := by
  unfold fn_Md_hasRoom fn_Md_hasRoom_17 fn_Md_hasRoom_22
  rw [cz_fail e.w0, bz_bc, bz_ck (by omega), bz_ck (by omega), if_pos rfl]
theorem cz_note (e : cz_en t N T M hc0 hm0 hc hm) {l1 : Int} (h1 : -1 ≤ l1) (h2 : l1 ≤ 99) (l2 : Int) : fn_Md_noteCall 67 l1 l2 hm = some (0, if l1 < 0 then hm else qz_up hm 92 l1 l2) := by
  have L := e.tm.1
  unfold fn_Md_noteCall fn_Md_noteCall_11
  by_cases h : l1 < 0
  · rw [if_pos h, if_pos h]
  · rw [if_neg h, if_neg h]
    simp (disch := omega) only [bz_ck, bz_bn, bz_m67_31 L, bz_m92_m1 L]
theorem cz_close {x : Int} (h5 : hc 30 5 = x) (x0 : 1 ≤ x) (x1 : x ≤ 12) : fn_Reader_close 30 hc = some (0, qz_up hc 30 5 (x - 1)) := by
  unfold fn_Reader_close qz_max
  rw [h5, bz_w (by omega) (by omega), bz_ck (by omega), bz_bn]
  split
  · rfl
  · rw [show (0 : Int) = x - 1 by omega]
def cz_lv (hc : qz_H) (x k : Int) : qz_H := qz_up (qz_up (qz_up (qz_up (qz_up (qz_up hc 30 5 (x + 1)) (36 + x) 0 k) (36 + x) 1 0) (36 + x) 2 (-1)) (36 + x) 3 (-2)) (36 + x) 4 0
theorem cz_push (e : cz_en t N T M hc0 hm0 hc hm) {x : Int} (h5 : hc 30 5 = x) (x0 : 0 ≤ x) (x1 : x ≤ 12) (k : Int) : fn_Reader_push 30 k hc = if x < 12 then some (1, cz_lv hc x k) else some (0, hc) := by
  unfold fn_Reader_push
  rw [h5]
  by_cases h : x < 12
  · rw [if_pos h, if_pos h]
    have e1 : cz_en t N T M hc0 hm0 (qz_up hc 30 5 (x + 1)) hm := e.uc (by omega)
    rw [bz_ck (by omega), bz_bn, bz_w (by omega) (by omega), bz_c30_1 e1.tc.1, bz_us, bz_ck (by omega), bz_c31_m1 e1.tc.1, bz_ck (by omega), bz_lev e1.tc.1 (by omega) (by omega), bz_ck (by omega), show 35 + (x + 1) = 36 + x by omega]
    unfold fn_Level_begin
    rw [bz_ck (by omega), bz_bn, bz_ck (by omega), bz_bn, bz_ck (by omega), bz_bn, bz_ck (by omega), bz_bn, bz_ck (by omega), bz_bn, bz_bc, bz_ck (by omega)]
    rfl
  · rw [if_neg h, if_neg h, bz_ck (by omega)]
theorem cz_lv_un {x k o i : Int} (h1 : ¬ (o = 30 ∧ i = 5)) (h2 : ¬ (o = 36 + x ∧ 0 ≤ i ∧ i ≤ 4)) : cz_lv hc x k o i = hc o i := by
  unfold cz_lv
  simp (disch := omega) only [cz_un]
theorem cz_lv_5 {x k : Int} (x0 : 0 ≤ x) : cz_lv hc x k 30 5 = x + 1 := by
  unfold cz_lv
  simp (disch := omega) only [cz_un, bz_us]
theorem cz_lv_k {x k : Int} : cz_lv hc x k (36 + x) 0 = k ∧ cz_lv hc x k (36 + x) 1 = 0 ∧ cz_lv hc x k (36 + x) 2 = -1 ∧ cz_lv hc x k (36 + x) 3 = -2 ∧ cz_lv hc x k (36 + x) 4 = 0 := by
  unfold cz_lv
  refine ⟨?_, ?_, ?_, ?_, ?_⟩ <;> simp (disch := omega) only [cz_un, bz_us]
theorem cz_openC (e : cz_en t N T M hc0 hm0 hc hm) {x : Int} (h5 : hc 30 5 = x) (x0 : 0 ≤ x) (x1 : x ≤ 12) : fn_Reader_open 30 hc = if x < 12 then some (0, cz_lv hc x 1) else some (2, hc) := by
  unfold fn_Reader_open fn_Reader_open_13
  rw [cz_push e h5 x0 x1]
  by_cases h : x < 12
  · rw [if_pos h, if_pos h, bz_bc, if_neg (by omega)]
  · rw [if_neg h, if_neg h, bz_bc, if_pos rfl]
theorem cz_openM (e : cz_en t N T M hc0 hm0 hc hm) {d : Int} (h39 : hm 67 39 = d) (d0 : 0 ≤ d) (d1 : d ≤ 10) : fn_Md_open 67 hm = if d ≤ 9 then (qz_bc (fn_Md_next 67 hm) fun _ h => some (1, h)) else some (0, qz_up hm 67 38 2) := by
  unfold fn_Md_open
  rw [h39, bz_w (by omega) (by omega), cz_fail e.w0, bz_bc, bz_ck (by omega)]
  by_cases h : d ≤ 9
  · rw [if_pos h, if_pos (by omega)]
    cases fn_Md_next 67 hm with
    | none => rfl
    | some p => exact congrArg _ rfl
  · rw [if_neg h, if_neg (by omega)]
/-- a parenthesis opens behind the top level -/
theorem cz_behind (e : cz_en t N T M hc0 hm0 hc hm) {d p : Int} (d0 : 0 ≤ d) (d9 : d ≤ 9) (h5 : hc 30 5 = d + 3) (h6 : hc 30 6 = 0) (b0 : hc (38 + d) 0 = 1) (hk : hc (37 + d) 0 = 7 ∧ p = 0 ∨ (hc (37 + d) 0 = 3 ∨ hc (37 + d) 0 = 8 ∨ hc (37 + d) 0 = 9) ∧ p = 1 ∧ (hc (37 + d) 1 = 4 ∨ hc (37 + d) 1 = 3 ∧ hc (37 + d) 0 ≠ 3)) (k : Nat) : cz_go k hc = cz_rest k (fn_Reader_beginFolded 30 (38 + d) (if p = 0 then hc else qz_up hc (37 + d) 1 4)) := by
  unfold cz_go
  rw [h5, bz_lev e.tc.1 (by omega) (by omega), show 35 + (d + 3) = 38 + d by omega]
  have bb : ∀ x : Option qz_R, (qz_bc x fun r h => some (r, h)) = x := fun x => by cases x <;> rfl
  have mx : qz_max 0 (d + 3 - 1) = d + 2 := by unfold qz_max; rw [if_pos (by omega)]; omega
  unfold fn_Reader_judge
  rw [if_pos h6, bz_ck (by omega), b0]
  simp only [qz_swt]
  rw [if_neg (by omega), if_pos trivial, bb]
  unfold fn_Reader_behindOpening
  rw [bz_c30_1 e.tc.1, bz_ck (by omega), bz_c31_m1 e.tc.1, h5, bz_w (by omega) (by omega), mx, bz_ck (by omega), bz_lev e.tc.1 (by omega) (by omega), show 35 + (d + 2) = 37 + d by omega, bz_bn, bz_ck (by omega)]
  simp only [qz_swt]
  rcases hk with ⟨h7, hp⟩ | ⟨h3, hp, h4⟩
  · rw [h7, hp, if_neg (by omega), if_neg (by omega), if_pos rfl, if_pos rfl, bb]
  · rw [hp, if_neg (by omega), if_neg (by omega), if_neg (by omega), if_neg (show ¬ (1 : Int) = 0 by omega), bb]
    have z119 : fn_Reader_beginPart_119 30 (38 + d) (37 + d) hc = fn_Reader_beginFolded 30 (38 + d) (qz_up hc (37 + d) 1 4) := by
      unfold fn_Reader_beginPart_119
      rw [bz_ck (by omega), bz_ck (by omega), bz_bn, bb]
    unfold fn_Reader_beginPart fn_Reader_beginPart_13 fn_Reader_beginPart_50 fn_Reader_beginPart_83
    rw [bz_ck (by omega)]
    by_cases hf : hc (37 + d) 0 = 3
    · rw [if_neg (by omega), bz_bn, if_neg (by omega), bz_ck (by omega), if_pos (by omega), bz_ck (by omega), if_pos (by omega), if_neg (by omega), bz_ck (by omega), if_pos (by omega), z119]
    · rw [if_pos (by omega), bz_bn, if_pos (by omega), bz_ck (by omega), if_pos (by omega), if_pos (by omega), z119]
end SC
