/-! A plain instruction in a body. -/
section SC
variable {t : Int → Int} {N T M : Int} {hc0 hm0 hc hm hc' hm' : qz_H}
theorem cz_plainF {c m d q s : Int} (g : cz_G t hc hm M c m d d q (-1) s) (m64 : m < 64) {j : Nat} (hj : j < 30) (np : ¬ (2 ≤ kz_dt (-((j : Int) + 1)) 1 ∧ kz_dt (-((j : Int) + 1)) 1 ≤ 5 ∨ kz_dt (-((j : Int) + 1)) 1 = 11)) {k : Nat} {kd s' v : Int} {L : Nat} (S : cz_S t N T M hc0 hm0 k hc' hm' kd s' L) (ss : s < s') (fc : ∀ o i : Int, o ≠ 34 → o ≠ 30 → ¬ (o = 37 + d ∧ i = 1) → ¬ ((o = M + 2 ∨ o = M + 3) ∧ i = m) → ¬ (o = M ∧ i = 4) → ¬ (o = M + 2 + 2 * c ∧ i = 5) → hc' o i = hc o i) (x4 : hc' M 4 = m + 1) (x5 : hc' (M + 2 + 2 * c) 5 = hc (M + 2 + 2 * c) 5 + 1) (y1 : hc' (M + 2) m = -((j : Int) + 1)) (y2 : hc' (M + 3) m = v) (a5 : hc' 30 5 = d + 2) (a6 : hc' 30 6 = 0) (a7 : hc' 30 7 = -2) (p4 : hc' (37 + d) 1 = 4)
    (hv : (cz_vl (-((j : Int) + 1)) v ∧ hm' 67 47 = v ∧ hm' 67 48 = -1 ∧ ∀ o i : Int, ¬ (o = 67 ∧ (32 ≤ i ∧ i ≤ 37 ∨ i = 47 ∨ i = 48)) → hm' o i = hm o i) ∨ (j = 10 ∧ ∃ (s1 : Int) (L1 : Nat), cz_wd t s1 L1 ∧ s ≤ s1 ∧ s1 < s' ∧ v = -1 - s1 ∧ hm' 67 47 = 0 ∧ hm' 67 48 = q ∧ hm' 67 28 = q + 1 ∧ hm' 90 q = s1 ∧ hm' 91 q = (L1 : Int) ∧ hm' 92 q = -1 ∧ ∀ o i : Int, ¬ (o = 67 ∧ (32 ≤ i ∧ i ≤ 37 ∨ i = 47 ∨ i = 48 ∨ i = 28)) → ¬ ((o = 90 ∨ o = 91 ∨ o = 92) ∧ i = q) → hm' o i = hm o i)) :
    ∃ h, (qz_bc (fn_Md_emit 67 (kz_dt (-((j : Int) + 1)) 1) (hm' 67 47) hm') fun r7 h8 => qz_bc (fn_Md_noteCall 67 (hm' 67 48) r7 h8) fun _ h10 => qz_ck ((1 : Int) = 0 ∨ (1 : Int) = 1) (some (1, h10))) = some (1, h) ∧ cz_bd t N T M hc0 hm0 c k hc' h kd s' L := by
  have hM := S.en.hM
  obtain ⟨gH, g5, gq⟩ := g
  have c1 : 1 ≤ c := gH.2.2.2.2.2
  have c4 : c ≤ 4 := gH.1.2.2.2.1
  have q0 := gH.2.2.2.1.2.1
  have m0 : 0 ≤ m := gH.1.2.2.2.2.2.2.1
  have m23 : hm 67 23 = m := gH.1.2.2.2.2.2.1
  have d0 : 0 ≤ d := g5.2.1
  have d10 : d ≤ 10 := g5.2.2.2.1
  rw [if_pos rfl] at gq
  have dl : bz_dl (kz_dt (-((j : Int) + 1)) 1) = 0 := by
    unfold bz_dl
    rw [if_neg (by clear hv; omega), if_neg (by clear hv; omega)]
  have x30 : -30 ≤ -((j : Int) + 1) ∧ -((j : Int) + 1) ≤ -1 := by clear hv; omega
  have m23' : hm' 67 23 = m := by
    rcases hv with h | ⟨_, s1, L1, h⟩
    · rw [h.2.2.2 _ _ (by omega)]; exact m23
    · rw [h.2.2.2.2.2.2.2.2.2.2 _ _ (by omega) (by omega)]; exact m23
  have q48 : -1 ≤ hm' 67 48 ∧ hm' 67 48 ≤ 99 := by
    rcases hv with h | ⟨_, s1, L1, h⟩
    · rw [h.2.2.1]; omega
    · rw [h.2.2.2.2.2.1]; omega
  rw [cz_emit S.en m23' m0 m64, bz_bc]
  have e1 : cz_en t N T M hc0 hm0 hc' (qz_up (qz_up (qz_up hm' 84 m (kz_dt (-((j : Int) + 1)) 1)) 85 m (hm' 67 47)) 67 23 (m + 1)) := ((S.en.um (by omega)).um (by omega)).um (by omega)
  rw [cz_note e1 q48.1 q48.2, bz_bc, bz_ck (by omega)]
  generalize hY : qz_up (qz_up (qz_up hm' 84 m (kz_dt (-((j : Int) + 1)) 1)) 85 m (hm' 67 47)) 67 23 (m + 1) = Y at e1 ⊢
  have w_ : ∀ o i : Int, ¬ ((o = 84 ∨ o = 85) ∧ i = m) → ¬ (o = 67 ∧ i = 23) → Y o i = hm' o i := by
    intro o i n1 n2
    rw [← hY]; simp (disch := omega) only [cz_un]
  have w1 : Y 84 m = kz_dt (-((j : Int) + 1)) 1 := by rw [← hY]; simp (disch := omega) only [cz_un, bz_us]
  have w2 : Y 85 m = hm' 67 47 := by rw [← hY]; simp (disch := omega) only [cz_un, bz_us]
  have w3 : Y 67 23 = m + 1 := by rw [← hY]; simp (disch := omega) only [cz_un, bz_us]
  have SY : cz_S t N T M hc0 hm0 k hc' Y kd s' L := S.fM (fun o i n => w_ o i (by omega) (by omega)) (fun i n1 n2 => w_ 67 i (by omega) (by omega))
  refine ⟨_, rfl, m + 1, d, d, ?_⟩
  rcases hv with ⟨v1, v2, v3, v4⟩ | ⟨j10, s1, L1, v1, v2, v3, v4, v5, v6, v7, v8, v9, v10, v11⟩
  · rw [v3, if_pos (by omega)]
    refine ⟨q, SY, ⟨?_, ?_, by rw [if_pos rfl]; omega⟩, a5, a6, Or.inl a7, fun _ => Or.inl p4⟩
    · have := gH.rowV (hc' := hc') (hm' := Y) hM m64 (fun o i n1 n2 n3 n4 => fc o i (by omega) (by omega) (by omega) n2 n3 n4) x4 x5 (fun o i n1 n2 n3 => by rw [w_ o i n3 (by omega)]; exact v4 o i (by omega)) (by rw [w_ _ _ (by omega) (by omega)]; exact v4 _ _ (by omega)) w3 (by rw [w_ _ _ (by omega) (by omega)]; exact v4 _ _ (by omega)) (by rw [y1]; exact x30) (by rw [y1]; exact w1) (by rw [y2, w2]; exact v2.symm) (by rw [y1, w2, v2]; exact v1) (by rw [w1]; omega) (by rw [w1]; omega) (u' := s') (by omega)
      rw [w1, dl, Int.add_zero] at this
      exact this
    · exact g5.same (fun o i n1 n2 n3 => fc o i (by omega) (by omega) n3 (by omega) (by omega) (by omega)) (by rw [w_ _ _ (by omega) (by omega)]; exact v4 _ _ (by omega)) (fun o i n1 n2 => by rw [w_ _ _ (by omega) (by omega)]; exact v4 _ _ (by omega))
  · rw [v6, if_neg (by omega)]
    have gH' : cz_H t hc hm' M c m d (q + 1) (s1 + 1) := gH.call hM v1 v2 (fun o i n => rfl) (fun o i n1 n2 n3 => v11 o i (by omega) n3) v8 v9 v10 (v11 _ _ (by omega) (by omega)) (v11 _ _ (by omega) (by omega)) v7
    have g5' : cz_G5 t hc hm' d d (q + 1) q := g5.call q0 (fun o i n1 n2 n3 => rfl) (v11 _ _ (by omega) (by omega)) (fun o i n1 n2 n3 => v11 o i (by omega) n3) v10
    have SZ : cz_S t N T M hc0 hm0 k hc' (qz_up Y 92 q m) kd s' L := SY.fM (fun o i n => cz_un (by omega)) (fun i n1 n2 => cz_un (by omega))
    refine ⟨q + 1, SZ, ⟨?_, ?_, by rw [if_pos rfl]; omega⟩, a5, a6, Or.inl a7, fun _ => Or.inl p4⟩
    · exact gH'.rowC (hc' := hc') (hm' := qz_up Y 92 q m) hM m64 q0 (by omega) v10 (fun o i n1 n2 n3 n4 => fc o i (by omega) (by omega) (by omega) n2 n3 n4) x4 x5 (fun o i n1 n2 n3 n4 => by rw [cz_un n4]; exact w_ o i n3 (by omega)) (by rw [cz_un (by omega)]; exact w_ _ _ (by omega) (by omega)) (by rw [cz_un (by omega)]; exact w3) (by rw [cz_un (by omega)]; exact w_ _ _ (by omega) (by omega)) (by rw [y1, j10]; rfl) (by rw [cz_un (by omega), w1, j10]; decide +kernel) (by rw [y2, v8]; exact v4) (bz_us _ _ _ _) (u' := s') (by omega)
    · exact g5'.res q0 (fun o i n1 n2 n3 => fc o i (by omega) (by omega) n3 (by omega) (by omega) (by omega)) (by rw [cz_un (by omega)]; exact w_ _ _ (by omega) (by omega)) (fun o i n1 n2 n3 => by rw [cz_un n3]; exact w_ _ _ (by omega) (by omega)) (by rw [bz_us]; omega)
/-- the operand of a plain instruction -/
theorem cz_inOpP (e : cz_en t N T M hc0 hm0 hc hm) {kd s : Int} {L : Nat} (tk : cz_tk t N hc hm kd s L) {d m : Int} (d0 : 0 ≤ d) (d9 : d ≤ 10) (h5 : hc 30 5 = d + 2) (h6 : hc 30 6 = 1) (b0 : hc (37 + d) 0 ≠ 7) {j : Nat} (hj : j < 30) (m4 : hc M 4 = m + 1) (m0 : 0 ≤ m) (m64 : m < 64) (b3 : hc (M + 2) m = -((j : Int) + 1)) (rf : ∀ h r, fn_Reader_readOperand 30 (kz_dt (-((j : Int) + 1)) 2) (qz_up hc 30 6 0) = some (r, h) → ∀ o i : Int, o ≠ 34 → o ≠ 30 → h o i = hc o i) (rf4 : ∀ h r, fn_Reader_readOperand 30 (kz_dt (-((j : Int) + 1)) 2) (qz_up hc 30 6 0) = some (r, h) → h 30 4 = M) (k : Nat) : cz_go k hc = cz_rest k (if ¬ kd = 2 then some (1, qz_up hc 30 6 0) else qz_bc (fn_Reader_readOperand 30 (kz_dt (-((j : Int) + 1)) 2) (qz_up hc 30 6 0)) fun r3 h4 => if ¬ r3 = 0 then some (0, qz_up h4 (M + 3) m (h4 30 8)) else some (1, h4)) := by
  unfold cz_go
  have hM := e.hM
  obtain ⟨u0, u1, u2, u3, u4, u5⟩ := bz_mod e.tc.1 hM
  have e1 : cz_en t N T M hc0 hm0 (qz_up hc 30 6 0) hm := e.uc (by omega)
  have c30 := bz_c30_0 e1.tc.1
  rw [h5, bz_lev e.tc.1 (by omega) (by omega), show 35 + (d + 2) = 37 + d by omega]
  unfold fn_Reader_judge fn_Reader_inOperand fn_Reader_inOperand_14 fn_Reader_inOperand_53 fn_Reader_inOperand_81 fn_Reader_inOperand_106
  rw [if_neg (by omega), bz_ck (by omega), if_pos b0, bz_bn, if_neg (by omega), e.m4, bz_ck (by omega), m4, if_pos (by omega), bz_ck (by omega), bz_ck (by omega), u1, bz_ck (by omega), show m + 1 - 1 = m by omega, bz_w (by omega) (by omega), u4, bz_ck (by omega), b3, bz_bn, bz_ck (by omega), bz_ck (by omega), bz_bn, c30, bz_ck (by omega), show (qz_up hc 30 6 0) 34 1 = kd by rw [bz_uo (by omega)]; exact tk.1, e1.tc.1.2 _ _ (by omega) (by omega) (by omega) (by omega)]
  by_cases h : kd = 2
  · rw [if_neg (show ¬ ¬ kd = 2 by omega), if_neg (show ¬ ¬ kd = 2 by omega), bz_ck (by omega)]
    cases hR : fn_Reader_readOperand 30 (kz_dt (-((j : Int) + 1)) 2) (qz_up hc 30 6 0) with
    | none => rfl
    | some p =>
      obtain ⟨r, h4⟩ := p
      have f := rf h4 r hR
      have f4 := rf4 h4 r hR
      simp only [bz_bc]
      by_cases h : r = 0
      · rw [if_neg (show ¬ ¬ r = 0 by omega), if_neg (show ¬ ¬ r = 0 by omega)]; rfl
      · rw [if_pos h, if_pos h, if_pos trivial]
        unfold fn_Reader_setLatestOperand fn_Reader_setLatestOperand_28
        rw [f4, f M 4 (by omega) (by omega), f M 2 (by omega) (by omega), m4, u2, f (M + 3) (-1) (by omega) (by omega), u5, bz_ck (by omega), if_neg (by omega), bz_ck (by omega), bz_ck (by omega), bz_ck (by omega), show m + 1 - 1 = m by omega, bz_w (by omega) (by omega), bz_ck (by omega), bz_bn]; rfl
  · rw [if_pos h, if_pos h]; rfl
end SC
