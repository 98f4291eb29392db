/-! The variables of a function: both readers. -/
section SC
variable {t : Int → Int} {N T M : Int} {hc0 hm0 hc hm hc' hm' : qz_H}
theorem cz_ntty {kd s : Int} {L : Nat} (h : cz_nt t kd s L) : cz_ty t kd s L = 0 := by
  have z : ∀ i : Nat, (i = 5 ∨ i = 6) → cz_kb t kd s L i ≠ 1 := by
    intro i hi hk
    unfold cz_kb at hk
    split at hk
    · rename_i hw
      have h0 : (cz_W t s L).getD 0 0 = t s := by
        obtain ⟨_, _, h2⟩ := h
        obtain ⟨L', rfl⟩ : ∃ L', L = L' + 1 := ⟨L - 1, by omega⟩
        have := cz_W_get (t := t) (s := s) (L := L' + 1) (i := 0) (by omega)
        simpa using this
      rw [hw.2, h.2.1] at h0
      rcases hi with rfl | rfl
      · exact absurd h0 (by decide +kernel)
      · exact absurd h0 (by decide +kernel)
    · omega
  unfold cz_ty
  rw [if_neg (z 5 (Or.inl rfl)), if_neg (z 6 (Or.inr rfl))]
theorem cz_goD (e : cz_en t N T M hc0 hm0 hc hm) (h5 : hc 30 5 = 3) (h6 : hc 30 6 = 0) (kk : hc 38 0 = 4 ∨ hc 38 0 = 5) (k : Nat) : cz_go k hc = cz_rest k (fn_Reader_inDeclaration 30 38 hc) := by
  unfold cz_go
  rw [h5, bz_lev e.tc.1 (by omega) (by omega), show (35 : Int) + 3 = 38 by omega]
  unfold fn_Reader_judge
  rw [if_pos h6, bz_ck (by omega)]
  simp only [qz_swt, cz_bb]
  rcases kk with h | h
  · rw [h, if_neg (by omega), if_neg (by omega), if_neg (by omega), if_neg (by omega), if_pos rfl]
  · rw [h, if_neg (by omega), if_neg (by omega), if_neg (by omega), if_neg (by omega), if_neg (by omega), if_pos rfl]
theorem cz_dclT (e : cz_en t N T M hc0 hm0 hc hm) {kd s : Int} {L : Nat} (tk : cz_tk t N hc hm kd s L) (h5 : hc 30 5 = 3) (h6 : hc 30 6 = 0) (kk : hc 38 0 = 4 ∨ hc 38 0 = 5) (hy : cz_ty t kd s L ≠ 0) (p3 : hc 38 1 ≠ 3) (k : Nat) : cz_go k hc = cz_rest k (qz_bc (fn_Reader_declare 30 38 (cz_ty t kd s L) (qz_up hc 38 1 (if hc 38 1 = 1 then 3 else 2))) fun r h => some (if r = 0 then 2 else 0, h)) := by
  rw [cz_goD e h5 h6 kk]
  congr 1
  unfold fn_Reader_inDeclaration fn_Reader_inDeclaration_34 fn_Reader_inDeclaration_51
  rw [bz_c30_0 e.tc.1, bz_ck (by omega), e.ty tk, bz_bc, bz_bn, if_neg hy, bz_ck (by omega), if_neg p3, bz_ck (by omega)]
  by_cases h1 : hc 38 1 = 1
  · rw [if_neg (show ¬ ¬ hc 38 1 = 1 by omega), if_pos h1, bz_ck (by omega), bz_ck (by omega), bz_bn]
    refine cz_bcc (fun r h _ => ?_)
    split <;> rfl
  · rw [if_pos h1, if_neg h1, bz_ck (by omega), bz_ck (by omega), bz_bn]
    refine cz_bcc (fun r h _ => ?_)
    split <;> rfl
theorem cz_dcl0 (e : cz_en t N T M hc0 hm0 hc hm) {kd s : Int} {L : Nat} (tk : cz_tk t N hc hm kd s L) (h5 : hc 30 5 = 3) (h6 : hc 30 6 = 0) (kk : hc 38 0 = 4 ∨ hc 38 0 = 5) (hy : cz_ty t kd s L = 0 ∨ hc 38 1 = 3) (k : Nat) : cz_go k hc = cz_rest k (if kd = 1 ∧ hc 38 1 ≠ 1 then some (0, qz_up hc 30 5 2) else if hc 38 1 = 0 ∧ cz_nt t kd s L then (qz_bc (fn_Reader_slotNamed 30 hc) fun r3 h4 => if r3 < 0 then qz_bn (qz_up h4 38 1 1) fun h5 => qz_ck ((h5 30 0 : Int) ≠ 0) (some (0, qz_up h5 38 2 (h5 (h5 30 0) 2))) else some (1, h4)) else some (1, hc)) := by
  rw [cz_goD e h5 h6 kk]
  congr 1
  have c30 := bz_c30_0 e.tc.1
  have z52 : fn_Reader_inDeclaration_52 30 38 hc = (if kd = 1 ∧ hc 38 1 ≠ 1 then some (0, qz_up hc 30 5 2) else if hc 38 1 = 0 ∧ cz_nt t kd s L then (qz_bc (fn_Reader_slotNamed 30 hc) fun r3 h4 => if r3 < 0 then qz_bn (qz_up h4 38 1 1) fun h5 => qz_ck ((h5 30 0 : Int) ≠ 0) (some (0, qz_up h5 38 2 (h5 (h5 30 0) 2))) else some (1, h4)) else some (1, hc)) := by
    have z76 : fn_Reader_inDeclaration_76 30 38 hc = (if hc 38 1 = 0 ∧ cz_nt t kd s L then (qz_bc (fn_Reader_slotNamed 30 hc) fun r3 h4 => if r3 < 0 then qz_bn (qz_up h4 38 1 1) fun h5 => qz_ck ((h5 30 0 : Int) ≠ 0) (some (0, qz_up h5 38 2 (h5 (h5 30 0) 2))) else some (1, h4)) else some (1, hc)) := by
      unfold fn_Reader_inDeclaration_76 fn_Reader_inDeclaration_100
      rw [bz_ck (by omega), c30, bz_ck (by omega), tk.nmC e.w e.tc, bz_bc]
      by_cases h0 : hc 38 1 = 0
      · rw [if_neg (show ¬ ¬ hc 38 1 = 0 by omega)]
        by_cases nt : cz_nt t kd s L
        · rw [if_pos nt, if_neg (show ¬ (1 : Int) = 0 by omega), if_pos (show hc 38 1 = 0 ∧ cz_nt t kd s L from ⟨h0, nt⟩)]
          refine cz_bcc (fun r h _ => ?_)
          by_cases hr : r < 0
          · rw [if_pos hr, if_pos hr, bz_ck (by omega), bz_ck (by omega), bz_bn, bz_bn]
            congr 1
          · rw [if_neg hr, if_neg hr]
        · rw [if_neg nt, if_pos rfl, if_neg (show ¬ (hc 38 1 = 0 ∧ cz_nt t kd s L) from fun h => nt h.2)]
      · rw [if_pos h0, if_neg (show ¬ (hc 38 1 = 0 ∧ cz_nt t kd s L) from fun h => h0 h.1)]
    unfold fn_Reader_inDeclaration_52
    rw [c30, bz_ck (by omega), tk.1, z76, bz_ck (by omega), cz_close h5 (by omega) (by omega), bz_bc]
    by_cases h1 : kd = 1
    · rw [if_neg (show ¬ ¬ kd = 1 by omega)]
      by_cases hp : hc 38 1 = 1
      · rw [if_pos hp, if_neg (show ¬ (kd = 1 ∧ hc 38 1 ≠ 1) from fun h => h.2 hp)]
      · rw [if_neg hp, if_pos (show kd = 1 ∧ hc 38 1 ≠ 1 from ⟨h1, hp⟩)]
        rfl
    · rw [if_pos h1, if_neg (show ¬ (kd = 1 ∧ hc 38 1 ≠ 1) from fun h => h1 h.1)]
  unfold fn_Reader_inDeclaration
  rw [c30, bz_ck (by omega), e.ty tk, bz_bc, bz_bn, z52]
  by_cases h0 : cz_ty t kd s L = 0
  · rw [if_pos h0]
  · rw [if_neg h0, bz_ck (by omega), if_pos (by omega)]
def cz_VY (hm : qz_H) (c x a v x5 x6 : Int) : qz_H := qz_up (qz_up (qz_up (qz_up (qz_up hm 82 (8 * (c - 1) + x) v) 88 x x5) 89 x x6) 80 (c - 1) (x + 1)) 79 (c - 1) (hm 79 (c - 1) + a)
theorem cz_vrM (e : cz_en t N T M hc0 hm0 hc hm) {kd s : Int} {L : Nat} (tk : cz_tk t N hc hm kd s L) {c x a : Int} (c1 : 1 ≤ c) (c4 : c ≤ 4) (hx : hm 80 (c - 1) = x) (x0 : 0 ≤ x) (x8 : x ≤ 8) (a79 : 0 ≤ hm 79 (c - 1)) (b79 : hm 79 (c - 1) ≤ 6) (ha : a = 0 ∨ a = 1) (x5 x6 : Int) : fn_Md_variable 67 (c - 1) a x5 x6 hm = if cz_ty t kd s L = 0 then some (0, qz_up hm 67 38 1) else if x = 8 ∨ a = 1 ∧ x = 6 then some (0, qz_up hm 67 38 2) else qz_bc (fn_Md_next 67 (cz_VY hm c x a (cz_ty t kd s L) x5 x6)) fun _ h => some (1, h) := by
  have Lm := e.tm.1
  have e1 : ∀ v, x < 8 → cz_en t N T M hc0 hm0 hc (qz_up hm 82 (8 * (c - 1) + x) v) := fun v h => e.um (by omega)
  have e2 : ∀ v, x < 8 → cz_en t N T M hc0 hm0 hc (qz_up (qz_up hm 82 (8 * (c - 1) + x) v) 88 x x5) := fun v h => (e1 v h).um (by omega)
  have e3 : ∀ v, x < 8 → cz_en t N T M hc0 hm0 hc (qz_up (qz_up (qz_up hm 82 (8 * (c - 1) + x) v) 88 x x5) 89 x x6) := fun v h => (e2 v h).um (by omega)
  have e4 : ∀ v, x < 8 → cz_en t N T M hc0 hm0 hc (qz_up (qz_up (qz_up (qz_up hm 82 (8 * (c - 1) + x) v) 88 x x5) 89 x x6) 80 (c - 1) (x + 1)) := fun v h => (e3 v h).um (by omega)
  have z85 : ∀ v, x < 8 → fn_Md_variable_85 67 (c - 1) a x5 x6 x 82 (8 * (c - 1) + x) v hm = qz_bc (fn_Md_next 67 (cz_VY hm c x a v x5 x6)) fun _ h => some (1, h) := by
    intro v h8
    have f80 : (qz_up (qz_up (qz_up hm 82 (8 * (c - 1) + x) v) 88 x x5) 89 x x6) 80 (c - 1) = x := by simp (disch := omega) only [cz_un]; exact hx
    have f79 : (qz_up (qz_up (qz_up (qz_up hm 82 (8 * (c - 1) + x) v) 88 x x5) 89 x x6) 80 (c - 1) (x + 1)) 79 (c - 1) = hm 79 (c - 1) := by simp (disch := omega) only [cz_un]
    have z129 : ∀ b : Int, b = a → fn_Md_variable_129 67 79 (c - 1) (hm 79 (c - 1)) b (qz_up (qz_up (qz_up (qz_up hm 82 (8 * (c - 1) + x) v) 88 x x5) 89 x x6) 80 (c - 1) (x + 1)) = qz_bc (fn_Md_next 67 (cz_VY hm c x a v x5 x6)) fun _ h => some (1, h) := by
      intro b hb
      unfold fn_Md_variable_129
      rw [hb, bz_ck (by omega), bz_m79_m1 (e4 v h8).tm.1, bz_ck (by omega), bz_w (by omega) (by omega), bz_bn]
      unfold cz_VY
      refine cz_bcc (fun r h _ => ?_)
      rw [bz_ck (by omega)]
    unfold fn_Md_variable_85
    rw [bz_ck (by omega), bz_m82_m1 Lm, bz_ck (by omega), bz_bn, bz_m67_26 (e1 v h8).tm.1, bz_m88_m1 (e1 v h8).tm.1, bz_ck (by omega), bz_ck (by omega), bz_bn, bz_m67_27 (e2 v h8).tm.1, bz_m89_m1 (e2 v h8).tm.1, bz_ck (by omega), bz_ck (by omega), bz_bn, bz_m67_17 (e3 v h8).tm.1, bz_m80_m1 (e3 v h8).tm.1, bz_ck (by omega), bz_ck (by omega), bz_ck (by omega), bz_ck (by omega), bz_bn, f80, bz_w (by omega) (by omega), bz_m67_16 (e4 v h8).tm.1, bz_m79_m1 (e4 v h8).tm.1, bz_ck (by omega), bz_ck (by omega), f79]
    rcases ha with h0 | h1
    · rw [if_pos h0, z129 0 h0.symm]
    · rw [if_neg (by omega), z129 1 h1.symm]
  have z32 : ∀ l5 : Int, fn_Md_variable_32 67 (c - 1) a x5 x6 l5 hm = if x = 8 ∨ a = 1 ∧ x = 6 then some (0, qz_up hm 67 38 2) else qz_bc (fn_Md_next 67 (cz_VY hm c x a (if l5 = 0 then 2 else 1) x5 x6)) fun _ h => some (1, h) := by
    intro l5
    have z58 : fn_Md_variable_58 67 hm = some (0, qz_up hm 67 38 2) := by
      unfold fn_Md_variable_58
      rw [cz_fail e.w0, bz_bc, bz_ck (by omega)]
    have z64 : x < 8 → fn_Md_variable_64 67 (c - 1) a x5 x6 l5 x hm = qz_bc (fn_Md_next 67 (cz_VY hm c x a (if l5 = 0 then 2 else 1) x5 x6)) fun _ h => some (1, h) := by
      intro h8
      unfold fn_Md_variable_64
      rw [bz_m67_19 Lm, bz_w (z := 8 * (c - 1)) (by omega) (by omega), bz_w (by omega) (by omega), z85 _ h8, z85 _ h8]
      split <;> rfl
    unfold fn_Md_variable_32
    rw [bz_m67_17 Lm, bz_ck (by omega), bz_m80_m1 Lm, bz_ck (by omega), hx, bz_bn, z58]
    by_cases h8 : x = 8
    · rw [if_pos h8, if_pos (Or.inl h8)]
    · rw [if_neg h8, z64 (by omega)]
      by_cases h6 : a = 1 ∧ x = 6
      · rw [if_neg (by omega), if_neg (show ¬ ¬ x = 6 by omega), if_pos (show x = 8 ∨ a = 1 ∧ x = 6 from Or.inr h6)]
      · rw [if_neg (show ¬ (x = 8 ∨ a = 1 ∧ x = 6) by omega)]
        by_cases h0 : a = 0
        · rw [if_pos h0]
        · rw [if_neg h0, if_pos (by omega)]
  unfold fn_Md_variable
  rw [(e.is5 tk).1, bz_bc, bz_bn, (e.is5 tk).2, bz_bc, cz_fail e.w0, bz_bc, bz_ck (by omega), z32, ]
  unfold cz_ty
  rcases cz_kb01 (t := t) kd s L 5 with h5 | h5
  · rw [h5, if_neg (show ¬ ¬ (0 : Int) = 0 by omega), if_neg (show ¬ (0 : Int) = 1 by omega), if_pos (show (0 : Int) = 0 from rfl)]
    rcases cz_kb01 (t := t) kd s L 6 with h6 | h6
    · rw [h6, if_neg (show ¬ ¬ (0 : Int) = 0 by omega), if_neg (show ¬ (0 : Int) = 1 by omega), if_pos rfl]
    · rw [h6, if_pos (show ¬ (1 : Int) = 0 by omega), if_pos (show (1 : Int) = 1 from rfl), if_neg (show ¬ (2 : Int) = 0 by omega)]
  · rw [h5, if_pos (show ¬ (1 : Int) = 0 by omega), if_pos (show (1 : Int) = 1 from rfl), if_neg (show ¬ (1 : Int) = 0 by omega), if_neg (show ¬ (1 : Int) = 0 by omega)]
end SC
