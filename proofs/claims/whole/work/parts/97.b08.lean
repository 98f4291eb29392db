/-! A folded instruction: both readers. -/
section SC
variable {t : Int → Int} {N T M : Int} {hc0 hm0 hc hm hc' hm' : qz_H}
theorem cz_foldF {c m d b q s : Int} (g : cz_G t hc hm M c m d b q (-1) s) (d9 : d ≤ 9) (ph : b = d → hc (37 + d) 1 = 4) {j : Nat} (hj : j < 30) (np : ¬ (2 ≤ kz_dt (-((j : Int) + 1)) 1 ∧ kz_dt (-((j : Int) + 1)) 1 ≤ 5 ∨ kz_dt (-((j : Int) + 1)) 1 = 11)) {x3 : Int} (x0 : 0 ≤ x3) (x1 : x3 < 30) {k : Nat} {kd s' v : Int} {L : Nat} (S : cz_S t N T M hc0 hm0 k hc' hm' kd s' L) (ss : s < s') (h70 : hm' 70 x3 = kz_dt (-((j : Int) + 1)) 1) (fc : ∀ o i : Int, o ≠ 34 → o ≠ 30 → o ≠ 38 + d → hc' o i = hc o i) (a5 : hc' 30 5 = d + 3) (a6 : hc' 30 6 = 0) (a7 : hc' 30 7 = -2) (b0 : hc' (38 + d) 0 = 7) (b3 : hc' (38 + d) 3 = -((j : Int) + 1)) (b4 : hc' (38 + d) 4 = v)
    (hv : (cz_vl (-((j : Int) + 1)) v ∧ hm' 67 47 = v ∧ hm' 67 48 = -1 ∧ ∀ o i : Int, ¬ (o = 67 ∧ (32 ≤ i ∧ i ≤ 37 ∨ i = 47 ∨ i = 48)) → hm' o i = hm o i) ∨ (j = 10 ∧ ∃ (s1 : Int) (L1 : Nat), cz_wd t s1 L1 ∧ s ≤ s1 ∧ s1 < s' ∧ v = -1 - s1 ∧ hm' 67 47 = 0 ∧ hm' 67 48 = q ∧ hm' 67 28 = q + 1 ∧ hm' 90 q = s1 ∧ hm' 91 q = (L1 : Int) ∧ hm' 92 q = -1 ∧ ∀ o i : Int, ¬ (o = 67 ∧ (32 ≤ i ∧ i ≤ 37 ∨ i = 47 ∨ i = 48 ∨ i = 28)) → ¬ ((o = 90 ∨ o = 91 ∨ o = 92) ∧ i = q) → hm' o i = hm o i)) :
    ∃ h, cz_FT x3 d hm' = some (1, h) ∧ cz_bd t N T M hc0 hm0 c k hc' h kd s' L := by
  have hM := S.en.hM
  obtain ⟨gH, g5, gq⟩ := g
  have q0 := gH.2.2.2.1.2.1
  have d0 : 0 ≤ d := by have := g5.2.1; have := g5.2.2.1; omega
  have p39 := g5.1
  have m39 : hm' 67 39 = d := by
    rcases hv with h | ⟨_, s1, L1, h⟩
    · rw [h.2.2.2 _ _ (by omega)]; exact p39
    · rw [h.2.2.2.2.2.2.2.2.2.2 _ _ (by omega) (by omega)]; exact p39
  rw [if_pos rfl] at gq
  refine ⟨_, cz_FT_eq S.en.tm.1 x0 x1 d0 d9 m39, ?_⟩
  generalize hh : qz_up (qz_up (qz_up (qz_up (qz_up (qz_up hm' 94 d 1) 93 d (hm' 70 x3)) 98 d (hm' 67 47)) 99 d (hm' 67 48)) 97 d 0) 67 39 (d + 1) = h
  have z94 : h 94 d = 1 := by rw [← hh]; simp (disch := omega) only [cz_un, bz_us]
  have z93 : h 93 d = kz_dt (-((j : Int) + 1)) 1 := by rw [← hh]; simp (disch := omega) only [cz_un, bz_us]; exact h70
  have z98 : h 98 d = hm' 67 47 := by rw [← hh]; simp (disch := omega) only [cz_un, bz_us]
  have z99 : h 99 d = hm' 67 48 := by rw [← hh]; simp (disch := omega) only [cz_un, bz_us]
  have z39 : h 67 39 = d + 1 := by rw [← hh]; simp (disch := omega) only [cz_un, bz_us]
  have zf : ∀ o i : Int, ¬ (93 ≤ o ∧ o ≤ 99 ∧ i = d) → ¬ (o = 67 ∧ i = 39) → h o i = hm' o i := by
    intro o i n1 n2
    rw [← hh]; simp (disch := omega) only [cz_un]
  have S' : cz_S t N T M hc0 hm0 k hc' h kd s' L := S.fM (fun o i n => zf o i (by omega) (by omega)) (fun i n1 n2 => zf 67 i (by omega) (by omega))
  have isp : cz_isp (-((j : Int) + 1)) := ⟨by clear hv; omega, by clear hv; omega, by clear hv; omega, by clear hv; omega⟩
  rcases hv with ⟨v1, v2, v3, v4⟩ | ⟨j10, s1, L1, w1, w2, w3, w4, w5, w6, w7, w8, w9, w10, w11⟩
  · have fm : ∀ o i : Int, (79 ≤ o ∧ o ≤ 99) → ¬ (93 ≤ o ∧ i = d) → h o i = hm o i := fun o i n1 n2 => by rw [zf o i (by omega) (by omega)]; exact v4 o i (by omega)
    refine ⟨m, d + 1, b, q, S', ⟨gH.same hM (fun o i n => fc o i (by omega) (by omega) (by omega)) (fun o i n1 n2 => fm o i (by omega) (by omega)) ?_ ?_ ?_ (by omega), g5.pushF d9 (fun o i n1 n2 n3 => fc o i (by omega) (by omega) (by omega)) (fun n => by rw [fc _ _ (by omega) (by omega) (by omega)]; exact ph n) z39 (fun o i n1 n2 n3 => fm o i (by omega) n3) (by rw [z99]; exact v3) ?_, by rw [if_pos rfl]; omega⟩, by omega, a6, Or.inl a7, by have := g5.2.2.1; omega⟩
    · rw [zf _ _ (by omega) (by omega)]; exact v4 _ _ (by omega)
    · rw [zf _ _ (by omega) (by omega)]; exact v4 _ _ (by omega)
    · rw [zf _ _ (by omega) (by omega)]; exact v4 _ _ (by omega)
    · refine ⟨z94, b0, by rw [b3]; exact isp, by rw [b3]; exact z93, Or.inl ⟨by rw [z99]; exact v3, by rw [b4, z98, v2], by rw [b3, z98, v2]; exact v1⟩⟩
  · have fm : ∀ o i : Int, (79 ≤ o ∧ o ≤ 99) → ¬ (93 ≤ o ∧ i = d) → ¬ ((o = 90 ∨ o = 91 ∨ o = 92) ∧ i = q) → h o i = hm o i := fun o i n1 n2 n3 => by rw [zf o i (by omega) (by omega)]; exact w11 o i (by omega) n3
    have g5' : cz_G5 t hc' hm' d b (q + 1) q := g5.call q0 (fun o i n1 n2 n3 => fc o i (by omega) (by omega) (by omega)) (w11 _ _ (by omega) (by omega)) (fun o i n1 n2 n3 => w11 o i (by omega) n3) w10
    have y90 : h 90 q = s1 := by rw [zf _ _ (by omega) (by omega)]; exact w8
    have y91 : h 91 q = (L1 : Int) := by rw [zf _ _ (by omega) (by omega)]; exact w9
    have y92 : h 92 q = -1 := by rw [zf _ _ (by omega) (by omega)]; exact w10
    have gH' : cz_H t hc' h M c m b (q + 1) (s1 + 1) := gH.call hM w1 w2 (fun o i n => fc o i (by omega) (by omega) (by omega)) (fun o i n1 n2 n3 => fm o i (by omega) (by omega) n3) y90 y91 y92 (by rw [zf _ _ (by omega) (by omega)]; exact w11 _ _ (by omega) (by omega)) (by rw [zf _ _ (by omega) (by omega)]; exact w11 _ _ (by omega) (by omega)) (by rw [zf _ _ (by omega) (by omega)]; exact w7)
    refine ⟨m, d + 1, b, q + 1, S', ⟨gH'.same hM (fun o i n => rfl) (fun o i n1 n2 => rfl) rfl rfl rfl (by omega), g5'.pushF d9 (fun o i n1 n2 n3 => rfl) (fun n => by rw [fc _ _ (by omega) (by omega) (by omega)]; exact ph n) z39 (fun o i n1 n2 n3 => zf o i (by omega) (by omega)) (by rw [z99]; exact w6) ?_, by rw [if_pos rfl]; omega⟩, by omega, a6, Or.inl a7, by have := g5.2.2.1; omega⟩
    refine ⟨z94, b0, by rw [b3]; exact isp, by rw [b3]; exact z93, Or.inr ⟨by rw [b3]; omega, by rw [z99, w6]; exact q0, by rw [z99, w6]; omega, by rw [z99, w6]; exact y92, by rw [b4, z99, w6, y90, w4]⟩⟩
theorem cz_foldM {x3 : Int} (e : bz_LM hm) (iw : fn_Md_instructionWord 67 hm = some (x3, hm)) (x0 : 0 ≤ x3) (x1 : x3 < 30) (l1 : Int) : fn_Md_fold 67 l1 hm = if 2 ≤ hm 70 x3 ∧ hm 70 x3 ≤ 5 ∨ hm 70 x3 = 11 then fn_Md_fold_21 67 hm else qz_bc (fn_Md_readImmediate 67 (hm 70 x3) l1 hm) fun r7 h8 => if ¬ r7 = 0 then cz_FT x3 (hm 67 39) h8 else some (0, h8) := by
  unfold fn_Md_fold
  have m2 := bz_m67_2 e
  have m70 := bz_m70_m1 e
  rw [iw, bz_bc, bz_bn, if_neg (by omega), bz_ck (by omega), m2, bz_ck (by omega), cz_plM, bz_bc]
  split
  · rw [if_neg (by omega)]
  · rw [if_pos (by omega), bz_bn, bz_ck (by omega), m2, bz_ck (by omega)]
    rfl
theorem cz_folC (e : cz_en t N T M hc0 hm0 hc hm) {d : Int} (d0 : 0 ≤ d) (d9 : d ≤ 9) {j : Nat} (hj : j < 30) (hop : hc 34 4 = -((j : Int) + 1)) : fn_Reader_beginFolded 30 (38 + d) hc = if 2 ≤ kz_dt (-((j : Int) + 1)) 1 ∧ kz_dt (-((j : Int) + 1)) 1 ≤ 5 ∨ kz_dt (-((j : Int) + 1)) 1 = 11 then some (1, hc) else some (0, qz_up (qz_up (qz_up hc (38 + d) 0 7) (38 + d) 3 (-((j : Int) + 1))) 30 6 (if kz_dt (-((j : Int) + 1)) 2 = 0 ∨ kz_dt (-((j : Int) + 1)) 2 = 1 then 0 else 1)) := by
  unfold fn_Reader_beginFolded fn_Reader_beginFolded_19
  have c30 := bz_c30_0 e.tc.1
  have e1 : cz_en t N T M hc0 hm0 (qz_up (qz_up hc (38 + d) 0 7) (38 + d) 3 (-((j : Int) + 1))) hm := (e.uc (by omega)).uc (by omega)
  rw [c30, bz_ck (by omega), hop, bz_bn, if_neg (by omega), bz_ck (by omega), cz_plC e.tc.1 hj, bz_bc]
  split
  · rw [if_neg (by omega)]
  · rw [if_pos (by omega), bz_ck (by omega), bz_ck (by omega), bz_bn, bz_ck (by omega), bz_ck (by omega), bz_bn, bz_ck (by omega), cz_awC e1.tc.1 hj, bz_bc, bz_ck (by split <;> omega), bz_ck (by omega), bz_bn]
/-- the operand of a folded instruction -/
theorem cz_inOpF (e : cz_en t N T M hc0 hm0 hc hm) {kd s : Int} {L : Nat} (tk : cz_tk t N hc hm kd s L) {d : Int} (d0 : 0 ≤ d) (d9 : d ≤ 9) (h5 : hc 30 5 = d + 3) (h6 : hc 30 6 = 1) (b0 : hc (38 + d) 0 = 7) {j : Nat} (hj : j < 30) (b3 : hc (38 + d) 3 = -((j : Int) + 1)) (k : Nat) : cz_go k hc = cz_rest k (if ¬ kd = 2 then some (1, qz_up hc 30 6 0) else qz_bc (fn_Reader_readOperand 30 (kz_dt (-((j : Int) + 1)) 2) (qz_up hc 30 6 0)) fun r3 h4 => if ¬ r3 = 0 then some (0, qz_up h4 (38 + d) 4 (h4 30 8)) else some (1, h4)) := by
  unfold cz_go
  have e1 : cz_en t N T M hc0 hm0 (qz_up hc 30 6 0) hm := e.uc (by omega)
  have c30 := bz_c30_0 e1.tc.1
  rw [h5, bz_lev e.tc.1 (by omega) (by omega), show 35 + (d + 3) = 38 + d by omega]
  unfold fn_Reader_judge fn_Reader_inOperand fn_Reader_inOperand_14 fn_Reader_inOperand_29 fn_Reader_inOperand_53 fn_Reader_inOperand_81 fn_Reader_inOperand_106
  rw [if_neg (by omega), bz_ck (by omega), if_neg (by omega), bz_bn, if_pos (by omega), bz_ck (by omega), b3, bz_bn, bz_ck (by omega), bz_ck (by omega), bz_bn, c30, bz_ck (by omega), show (qz_up hc 30 6 0) 34 1 = kd by rw [bz_uo (by omega)]; exact tk.1, e1.tc.1.2 _ _ (by omega) (by omega) (by omega) (by omega)]
  by_cases h : kd = 2
  · rw [if_neg (by omega), if_neg (by omega), bz_ck (by omega)]
    cases fn_Reader_readOperand 30 (kz_dt (-((j : Int) + 1)) 2) (qz_up hc 30 6 0) with
    | none => rfl
    | some p =>
      obtain ⟨r, h4⟩ := p
      simp only [bz_bc]
      by_cases h : r = 0
      · rw [if_neg (show ¬ ¬ r = 0 by omega), if_neg (show ¬ ¬ r = 0 by omega)]; rfl
      · rw [if_pos h, if_pos h, if_neg (show ¬ (1 : Int) = 0 by omega), bz_ck (by omega), bz_ck (by omega), bz_bn]; rfl
  · rw [if_pos h, if_pos h]; rfl
end SC
