/-! (result t): both readers. -/
section SC
variable {t : Int → Int} {N T M : Int} {hc0 hm0 hc hm hc' hm' : qz_H}
theorem cz_ty012 (kd s : Int) (L : Nat) : cz_ty t kd s L = 0 ∨ cz_ty t kd s L = 1 ∨ cz_ty t kd s L = 2 := by
  unfold cz_ty
  (repeat' split) <;> omega
theorem cz_ty2 {kd s : Int} {L : Nat} (h : cz_ty t kd s L ≠ 0) : kd = 2 := by
  unfold cz_ty at h
  split at h
  · rename_i h1; exact cz_kb2 h1
  · split at h
    · rename_i h1; exact cz_kb2 h1
    · omega
theorem cz_en.is5 (e : cz_en t N T M hc0 hm0 hc hm) {kd s : Int} {L : Nat} (tk : cz_tk t N hc hm kd s L) : fn_Md_is 67 6894386 3 hm = some (cz_kb t kd s L 5, hm) ∧ fn_Md_is 67 6895156 3 hm = some (cz_kb t kd s L 6, hm) := by
  obtain ⟨_, _, _, _, _, _, _, _, _, _, _, k5, n5, k6, n6⟩ := cz_kws
  exact ⟨e.isM tk (by omega) k5 n5, e.isM tk (by omega) k6 n6⟩
theorem cz_rtM (e : cz_en t N T M hc0 hm0 hc hm) {kd s : Int} {L : Nat} (tk : cz_tk t N hc hm kd s L) : fn_Md_readType 67 hm = if cz_ty t kd s L = 0 then some (0, hm) else qz_bc (fn_Md_next 67 hm) fun _ h => some (cz_ty t kd s L, h) := by
  unfold fn_Md_readType fn_Md_readType_31 fn_Md_readType_40
  rw [(e.is5 tk).1, bz_bc, (e.is5 tk).2, bz_bc]
  unfold cz_ty
  rcases cz_kb01 (t := t) kd s L 5 with h5 | h5
  · rw [h5, if_pos rfl, if_neg (show ¬ (0 : Int) = 1 by omega)]
    rcases cz_kb01 (t := t) kd s L 6 with h6 | h6
    · rw [h6, if_pos rfl, if_neg (show ¬ (0 : Int) = 1 by omega), bz_bn, if_pos (by omega), if_pos rfl]
    · rw [h6, if_neg (by omega), if_pos rfl, bz_bn, if_neg (by omega), if_neg (by omega)]
  · rw [h5, if_neg (by omega), if_pos rfl, bz_bn, if_neg (by omega), if_neg (by omega)]
theorem cz_passM (e : cz_en t N T M hc0 hm0 hc hm) {kd s : Int} {L : Nat} (tk : cz_tk t N hc hm kd s L) (k0 : 0 ≤ kd) (k4 : kd ≤ 4) : fn_Md_pass 67 2 hm = if kd = 1 then qz_bc (fn_Md_next 67 hm) fun _ h => some (1, h) else some (0, qz_up hm 67 38 1) := by
  unfold fn_Md_pass
  have t33 := tk.2.2.2.1
  rw [cz_fail e.w0, bz_bc, bz_ck (show (0 : Int) = 0 ∨ (0 : Int) = 1 by omega)]
  by_cases h : kd = 1
  · rw [if_pos h, if_pos (by rw [t33, if_neg (by omega)]; omega)]
    cases fn_Md_next 67 hm with
    | none => rfl
    | some p => rfl
  · rw [if_neg h, if_neg (by rw [t33]; split <;> omega)]
theorem cz_resC (e : cz_en t N T M hc0 hm0 hc hm) {kd s : Int} {L : Nat} (tk : cz_tk t N hc hm kd s L) {d : Int} (d0 : 0 ≤ d) (d9 : d ≤ 9) (h5 : hc 30 5 = d + 3) (h6 : hc 30 6 = 0) (b0 : hc (38 + d) 0 = 6) (k : Nat) : cz_go k hc = cz_rest k (if cz_ty t kd s L ≠ 0 ∧ hc (38 + d) 1 = 0 then (qz_bc (fn_Reader_setResult 30 (cz_ty t kd s L) (qz_up hc (38 + d) 1 3)) fun _ h => some (0, h)) else if kd = 1 ∧ hc (38 + d) 1 = 3 then some (0, qz_up hc 30 5 (d + 2)) else some (1, hc)) := by
  unfold cz_go
  rw [h5, bz_lev e.tc.1 (by omega) (by omega), show 35 + (d + 3) = 38 + d by omega]
  unfold fn_Reader_judge
  rw [if_pos h6, bz_ck (by omega)]
  simp only [qz_swt, cz_bb]
  rw [b0, if_neg (by omega), if_neg (by omega), if_neg (by omega), if_neg (by omega), if_neg (by omega), if_neg (by omega), if_pos rfl]
  have r31 : fn_Reader_inResult_31 30 (38 + d) hc = if kd = 1 ∧ hc (38 + d) 1 = 3 then some (0, qz_up hc 30 5 (d + 2)) else some (1, hc) := by
    unfold fn_Reader_inResult_31 fn_Reader_inResult_57 fn_Reader_inResult_58
    rw [bz_c30_0 e.tc.1, bz_ck (by omega), tk.1, bz_ck (by omega), cz_close h5 (by omega) (by omega), bz_bc, show d + 3 - 1 = d + 2 by omega]
    (repeat' split) <;> first | rfl | omega
  unfold fn_Reader_inResult
  rw [bz_c30_0 e.tc.1, bz_ck (by omega), e.ty tk, bz_bc, bz_bn, r31]
  by_cases h : cz_ty t kd s L = 0
  · rw [if_pos h, if_neg (show ¬ (cz_ty t kd s L ≠ 0 ∧ hc (38 + d) 1 = 0) by omega)]
  · rw [if_neg h, bz_ck (by omega)]
    by_cases hp : hc (38 + d) 1 = 0
    · rw [if_neg (show ¬ ¬ hc (38 + d) 1 = 0 by omega), if_pos ⟨h, hp⟩, bz_ck (by omega), bz_ck (by omega), bz_bn]
    · rw [if_pos hp, if_neg (show ¬ (cz_ty t kd s L ≠ 0 ∧ hc (38 + d) 1 = 0) by omega)]
/-- from the word result on: the type, then the closing parenthesis -/
theorem cz_resS {k : Nat} {kd s : Int} {L : Nat} (S : cz_S t N T M hc0 hm0 k hc hm kd s L) {d A I o' I' : Int} (d0 : 0 ≤ d) (d9 : d ≤ 9) (h5 : hc 30 5 = d + 3) (h6 : hc 30 6 = 0) (b0 : hc (38 + d) 0 = 6) (b1 : hc (38 + d) 1 = 0) (hA : cz_oc M A I) (hA' : A ≠ 34) (hA3 : A ≠ 30) (hA8 : A ≠ 38 + d) (ho : cz_om o' I') (ho' : o' ≠ 67) (sr : ∀ v, fn_Reader_setResult 30 v (qz_up hc (38 + d) 1 3) = some (0, qz_up (qz_up hc (38 + d) 1 3) A I v)) (K1 : qz_H → Option qz_R) {D : Option qz_R} (hD : D = qz_bc (fn_Md_readType 67 hm) fun r h8 => if r = 0 then (qz_bc (fn_Md_fail 67 1 (qz_up h8 o' I' r)) fun r1 h2 => if r1 = 0 then some (0, h2) else none) else (qz_bc (fn_Md_pass 67 2 (qz_up h8 o' I' r)) fun r9 h => if ¬ r9 = 0 then K1 h else (qz_bc (fn_Md_fail 67 1 h) fun r1 h2 => if r1 = 0 then some (0, h2) else none))) :
    cz_bad M hc0 hm0 (cz_go k hc) D ∨ ∃ k' hc' hm' kd' s' L' v, cz_go k hc = cz_go k' hc' ∧ D = K1 hm' ∧ cz_S t N T M hc0 hm0 k' hc' hm' kd' s' L' ∧ s < s' ∧ (v = 1 ∨ v = 2) ∧ hc' A I = v ∧ hm' o' I' = v ∧ (∀ o i : Int, o ≠ 34 → ¬ (o = 30 ∧ (i = 5 ∨ i = 9)) → ¬ (o = 38 + d ∧ i = 1) → ¬ (o = A ∧ i = I) → hc' o i = hc o i) ∧ hc' 30 5 = d + 2 ∧ (∀ o i : Int, ¬ (o = 67 ∧ 32 ≤ i ∧ i ≤ 37) → ¬ (o = o' ∧ i = I') → hm' o i = hm o i) := by
  have e := S.en
  rw [cz_resC e S.tk d0 d9 h5 h6 b0, hD, cz_rtM e S.tk]
  by_cases h0 : cz_ty t kd s L = 0
  · left
    have e1 : cz_en t N T M hc0 hm0 hc (qz_up hm o' I' 0) := e.um ho
    rw [if_pos h0, if_neg (show ¬ (cz_ty t kd s L ≠ 0 ∧ hc (38 + d) 1 = 0) by omega), if_neg (show ¬ (kd = 1 ∧ hc (38 + d) 1 = 3) by omega), bz_bc, if_pos rfl, cz_fail e1.w0, bz_bc, if_pos rfl]
    exact cz_badI e1 (Or.inl rfl) (by rw [cz_un (by omega)]; exact S.sm)
  · have kd2 := cz_ty2 h0
    have v12 : cz_ty t kd s L = 1 ∨ cz_ty t kd s L = 2 := by have := cz_ty012 (t := t) kd s L; omega
    generalize cz_ty t kd s L = v at h0 v12 ⊢
    rw [if_neg h0, if_pos ⟨h0, b1⟩, sr, bz_bc]
    have e1 : cz_en t N T M hc0 hm0 (qz_up (qz_up hc (38 + d) 1 3) A I v) hm := (e.uc (by omega)).uc hA
    obtain ⟨hc2, hm2, kd', s', L', n1, n2, S2, ss, Fc, Fm⟩ := cz_adv S (by omega) e1 (by simp (disch := omega) only [cz_un]) (by simp (disch := omega) only [cz_un]) rfl (by simp (disch := omega) only [cz_un]; omega) (by simp (disch := omega) only [cz_un]; omega)
    rw [n1, n2, bz_bc, bz_bc, if_neg h0]
    have a5 : hc2 30 5 = d + 3 := by rw [Fc _ _ (by omega) (by omega)]; simp (disch := omega) only [cz_un]; exact h5
    have a6 : hc2 30 6 = 0 := by rw [Fc _ _ (by omega) (by omega)]; simp (disch := omega) only [cz_un]; exact h6
    have y0 : hc2 (38 + d) 0 = 6 := by rw [Fc _ _ (by omega) (by omega)]; simp (disch := omega) only [cz_un]; exact b0
    have y1 : hc2 (38 + d) 1 = 3 := by rw [Fc _ _ (by omega) (by omega)]; simp (disch := omega) only [cz_un, bz_us]
    have e2 : cz_en t N T M hc0 hm0 hc2 (qz_up hm2 o' I' v) := S2.en.um ho
    have t2 : cz_tk t N hc2 (qz_up hm2 o' I' v) kd' s' L' := S2.tk.fM (fun i _ _ => cz_un (by omega))
    have sm2 : hc2 30 9 = (qz_up hm2 o' I' v) 67 34 := by rw [cz_un (by omega)]; exact S2.sm
    rw [cz_resC S2.en S2.tk d0 d9 a5 a6 y0, if_neg (show ¬ (cz_ty t kd' s' L' ≠ 0 ∧ hc2 (38 + d) 1 = 0) by omega), cz_passM e2 t2 S2.k0 S2.k4]
    by_cases h1 : kd' = 1
    · right
      rw [if_pos ⟨h1, y1⟩, if_pos h1]
      have e3 : cz_en t N T M hc0 hm0 (qz_up hc2 30 5 (d + 2)) (qz_up hm2 o' I' v) := e2.uc (by omega)
      obtain ⟨hc3, hm3, kd3, s3, L3, m1, m2, S3, ss3, Fc3, Fm3⟩ := cz_adv S2 (by omega) e3 (cz_un (by omega)) (cz_un (by omega)) (cz_un (by omega)) (by rw [bz_us]; omega) (by rw [bz_us]; omega)
      rw [m1, m2, bz_bc, bz_bc, if_pos (show ¬ (1 : Int) = 0 by omega)]
      refine ⟨_, hc3, hm3, kd3, s3, L3, v, rfl, rfl, S3, by omega, v12, ?_, ?_, fun o i x1 x2 x3 x4 => ?_, ?_, fun o i x1 x2 => ?_⟩
      · rw [Fc3 _ _ (by omega) (by omega), cz_un (by omega), Fc _ _ (by omega) (by omega), bz_us]
      · rw [Fm3 _ _ (by omega), bz_us]
      · rw [Fc3 _ _ (by omega) (by omega), cz_un (by omega), Fc _ _ (by omega) (by omega), cz_un x4, cz_un x3]
      · rw [Fc3 _ _ (by omega) (by omega), bz_us]
      · rw [Fm3 _ _ x1, cz_un x2, Fm _ _ x1]
    · left
      rw [if_neg (show ¬ (kd' = 1 ∧ hc2 (38 + d) 1 = 3) by omega), if_neg h1, bz_bc, if_neg (show ¬ ¬ (0 : Int) = 0 by omega), cz_fail2 (show (1 : Int) ≠ 0 by omega), bz_bc, if_pos rfl]
      exact cz_badI e2 (Or.inl rfl) sm2
end SC
