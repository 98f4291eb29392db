/-! A folded instruction. -/
section SC
variable {t : Int → Int} {N T M : Int} {hc0 hm0 hc hm hc' hm' : qz_H}
theorem cz_ckT (x : Option qz_R) : qz_ck True x = x := if_pos trivial
theorem cz_en.fC (e : cz_en t N T M hc0 hm0 hc hm) (f : ∀ o i : Int, ¬ cz_oc M o i → hc' o i = hc o i) : cz_en t N T M hc0 hm0 hc' hm := by
  have hM := e.hM
  refine ⟨?_, e.tm, by rw [f _ _ (by omega)]; exact e.m4, e.w0, fun a b h1 h2 => by rw [f _ _ (by omega)]; exact e.cr a b h1 h2, e.mr, hM, e.w⟩
  obtain ⟨hL, a1, hT, a3, a4⟩ := e.tc
  refine ⟨⟨fun q hq => ?_, fun x j x1 x2 x3 x4 => by rw [f _ _ (by omega)]; exact hL.2 x j x1 x2 x3 x4⟩, by rw [f _ _ (by omega)]; exact a1, hT, by rw [f _ _ (by omega)]; exact a3, fun k k0 k1 => by rw [f _ _ (by omega)]; exact a4 k k0 k1⟩
  have z6 : ∀ q ∈ bz_TC, ¬ cz_oc 6 q.1 q.2.1 := by decide +kernel
  have z18 : ∀ q ∈ bz_TC, ¬ cz_oc 18 q.1 q.2.1 := by decide +kernel
  rw [f, hL.1 q hq]
  rcases hM with rfl | rfl
  · exact z6 q hq
  · exact z18 q hq
theorem cz_en.fM (e : cz_en t N T M hc0 hm0 hc hm) (f : ∀ o i : Int, ¬ cz_om o i → hm' o i = hm o i) : cz_en t N T M hc0 hm0 hc hm' := by
  refine ⟨e.tc, ?_, e.m4, by rw [f _ _ (by omega)]; exact e.w0, e.cr, ⟨fun a b h1 h2 => by rw [f _ _ (by omega)]; exact e.mr.1 a b h1 h2, fun i h => by rw [f _ _ (by omega)]; exact e.mr.2 i h⟩, e.hM, e.w⟩
  obtain ⟨hL, a1, a2⟩ := e.tm
  refine ⟨fun q hq => ?_, ?_, ?_⟩
  · have z : ∀ q ∈ bz_TM, ¬ cz_om q.1 q.2.1 := by decide +kernel
    rw [f _ _ (z q hq)]; exact hL q hq
  · rw [f _ _ (by omega)]; exact a1
  · intro k k0 k1
    rw [f _ _ (by omega)]; exact a2 k k0 k1
theorem cz_tk.fC {kd s : Int} {L : Nat} (k : cz_tk t N hc hm kd s L) (f : ∀ i : Int, 1 ≤ i → i ≤ 4 → hc' 34 i = hc 34 i) : cz_tk t N hc' hm kd s L := by
  unfold cz_tk at *
  rw [f 1 (by omega) (by omega), f 2 (by omega) (by omega), f 3 (by omega) (by omega), f 4 (by omega) (by omega)]
  exact k
theorem cz_tk.fM {kd s : Int} {L : Nat} (k : cz_tk t N hc hm kd s L) (f : ∀ i : Int, 32 ≤ i → i ≤ 37 → hm' 67 i = hm 67 i) : cz_tk t N hc hm' kd s L := by
  unfold cz_tk at *
  rw [f 32 (by omega) (by omega), f 33 (by omega) (by omega), f 34 (by omega) (by omega), f 35 (by omega) (by omega), f 36 (by omega) (by omega), f 37 (by omega) (by omega)]
  exact k
theorem cz_S.fC {k : Nat} {kd s : Int} {L : Nat} (S : cz_S t N T M hc0 hm0 k hc hm kd s L) (f : ∀ o i : Int, ¬ cz_oc M o i → hc' o i = hc o i) (f1 : ∀ i : Int, 1 ≤ i → i ≤ 4 → hc' 34 i = hc 34 i) (f9 : hc' 30 9 = hc 30 9) : cz_S t N T M hc0 hm0 k hc' hm kd s L := ⟨S.en.fC f, S.tk.fC f1, by rw [f9]; exact S.st, S.ks, S.k0, S.k4⟩
theorem cz_S.fM {k : Nat} {kd s : Int} {L : Nat} (S : cz_S t N T M hc0 hm0 k hc hm kd s L) (f : ∀ o i : Int, ¬ cz_om o i → hm' o i = hm o i) (f1 : ∀ i : Int, 32 ≤ i → i ≤ 37 → hm' 67 i = hm 67 i) : cz_S t N T M hc0 hm0 k hc hm' kd s L := ⟨S.en.fM f, S.tk.fM f1, S.st, S.ks, S.k0, S.k4⟩
theorem cz_awC (a : bz_LC hc) {j : Nat} (hj : j < 30) : fn_Op_awaitsOperand (-((j : Int) + 1)) hc = some (if kz_dt (-((j : Int) + 1)) 2 = 0 ∨ kz_dt (-((j : Int) + 1)) 2 = 1 then 0 else 1, hc) := by
  unfold fn_Op_awaitsOperand fn_Op_awaitsOperand_19 fn_Op_awaitsOperand_20
  rw [a.2 _ _ (by omega) (by omega) (by omega) (by omega), bz_ck (by omega), bz_ck (by omega)]
  (repeat' split) <;> first | rfl | omega
theorem cz_obC (a : bz_LC hc) {j : Nat} (hj : j < 30) : fn_Op_opensBlock (-((j : Int) + 1)) hc = some (if kz_dt (-((j : Int) + 1)) 2 = 1 then 1 else 0, hc) := by
  unfold fn_Op_opensBlock fn_Op_opensBlock_13
  rw [a.2 _ _ (by omega) (by omega) (by omega) (by omega), bz_ck (by omega), bz_ck (by omega)]
  (repeat' split) <;> first | rfl | omega
def cz_opR (t : Int → Int) (c q : Int) (j : Nat) (kd s : Int) (L : Nat) (hc hm : qz_H) : Prop :=
    (∃ hm1, cz_RI (kz_dt (-((j : Int) + 1)) 1) (c - 1) hm = some (0, qz_up hm1 67 38 1) ∧ (∀ o i : Int, ¬ (o = 67 ∧ (i = 47 ∨ i = 48)) → hm1 o i = hm o i) ∧ (kd ≠ 2 ∨ ∃ hc1, fn_Reader_readOperand 30 (kz_dt (-((j : Int) + 1)) 2) hc = some (0, hc1) ∧ ∀ o i : Int, ¬ (o = 34 ∧ i = 5) → ¬ (o = 30 ∧ i = 8) → hc1 o i = hc o i)) ∨
    (kd = 2 ∧ ∃ hc1 hm1 v, fn_Reader_readOperand 30 (kz_dt (-((j : Int) + 1)) 2) hc = some (1, hc1) ∧ (∀ o i : Int, ¬ (o = 34 ∧ i = 5) → ¬ (o = 30 ∧ i = 8) → hc1 o i = hc o i) ∧ hc1 30 8 = v ∧ cz_RI (kz_dt (-((j : Int) + 1)) 1) (c - 1) hm = (qz_bc (fn_Md_next 67 hm1) fun _ h => some (1, h)) ∧ ((cz_vl (-((j : Int) + 1)) v ∧ hm1 67 47 = v ∧ hm1 67 48 = -1 ∧ ∀ o i : Int, ¬ (o = 67 ∧ (i = 47 ∨ i = 48)) → hm1 o i = hm o i) ∨ (j = 10 ∧ cz_wd t s L ∧ v = -1 - s ∧ hm1 67 47 = 0 ∧ hm1 67 48 = q ∧ hm1 67 28 = q + 1 ∧ hm1 90 q = s ∧ hm1 91 q = (L : Int) ∧ hm1 92 q = -1 ∧ ∀ o i : Int, ¬ (o = 67 ∧ (i = 47 ∨ i = 48 ∨ i = 28)) → ¬ ((o = 90 ∨ o = 91 ∨ o = 92) ∧ i = q) → hm1 o i = hm o i)))
theorem cz_opdG {c m d b q u : Int} (g : cz_G t hc hm M c m d b q (-1) u) (e : cz_en t N T M hc0 hm0 hc' hm') {kd s : Int} {L : Nat} (tk : cz_tk t N hc' hm' kd s L) (h48 : hm' 67 48 = -1) {j : Nat} (hj : j < 30) (h2 : 2 ≤ kz_dt (-((j : Int) + 1)) 2) (fc : ∀ o i : Int, (o = M ∧ i = 3 ∨ o = M + 2 + 2 * c ∧ i = 2 ∨ o = 33 ∨ 35 ≤ o ∧ o ≤ 37 + d ∧ ¬ (o = 37 + d ∧ i = 1)) → hc' o i = hc o i) (fm : ∀ o i : Int, (79 ≤ o ∧ o ≤ 99 ∨ o = 67 ∧ (i = 28 ∨ i = 39)) → hm' o i = hm o i) (h5 : hc' 30 5 = d + 2 ∨ d ≤ 9 ∧ hc' 30 5 = d + 3 ∧ hc' (38 + d) 0 = 7) : cz_opR t c q j kd s L hc' hm' := by
  obtain ⟨⟨g1, g2, g3, g4, g6, c1⟩, g5, gq⟩ := g
  obtain ⟨a1, a2, a3, a4, a5, a6, a7, a8, a9⟩ := g1
  obtain ⟨p1, p2, p3, p4, p5, p6, p7, p8, p9, p10, p11, p12, p13, p14⟩ := g5
  have ff := (a9 (c - 1) (by omega) (by omega)).1
  rw [if_pos rfl] at gq
  refine cz_opd e tk h48 hj h2 c1 a4 (by rw [fc _ _ (by omega)]; exact a1) ?_ (by rw [fm _ _ (by omega)]; have := ff.2.2.2.2.1; have := ff.2.2.2.2.2.2.1; omega) (by rw [fm _ _ (by omega)]; exact ff.2.2.2.2.2.2.2.1) (g3.same (fun i => fc _ _ (by omega)) (fun o i h => fm _ _ (by omega))) (by omega) p4 (by rw [fm _ _ (by omega)]; exact p1) (by rw [fc _ _ (by omega)]; exact p5) (by rw [fc _ _ (by omega)]; exact p6) ?_ h5 (by rw [fm _ _ (by omega)]; exact g4.1) g4.2.1 (by omega)
  · rw [fc _ _ (by omega), fm _ _ (by omega)]
    have := ff.2.1
    rw [show M + 4 + 2 * (c - 1) = M + 2 + 2 * c by omega] at this
    exact this
  · intro i i0 i1
    have x1 : ∀ o : Int, (79 ≤ o ∧ o ≤ 99) → hm' o i = hm o i := fun o h => fm _ _ (by omega)
    rw [fc (38 + i) 0 (by omega), fc (38 + i) 2 (by omega), x1 94 (by omega), x1 96 (by omega), x1 97 (by omega)]
    by_cases hb : i < b
    · have z := p9 i i0 hb
      exact Or.inl ⟨z.1, by have := z.2.1; omega, z.2.2⟩
    · have z := p10 i (by omega) i1
      exact Or.inr ⟨by have := z.1; omega, z.2.1⟩
def cz_bd (t : Int → Int) (N T M : Int) (hc0 hm0 : qz_H) (c : Int) (k : Nat) (hc hm : qz_H) (kd s : Int) (L : Nat) : Prop := ∃ m d b q : Int, cz_S t N T M hc0 hm0 k hc hm kd s L ∧ cz_G t hc hm M c m d b q (-1) s ∧ hc 30 5 = d + 2 ∧ hc 30 6 = 0 ∧ (hc 30 7 = -2 ∨ b = d ∧ ¬ cz_nt t kd s L) ∧ (b = d → hc (37 + d) 1 = 4 ∨ (kd ≠ 0 ∧ (hc (37 + d) 1 = 0 → ¬ cz_nt t kd s L)) ∨ (hc (37 + d) 1 = 3 ∧ 1 ≤ d))
def cz_out (t : Int → Int) (N T M : Int) (hc0 hm0 : qz_H) (c s : Int) (C D : Option qz_R) : Prop := cz_bad M hc0 hm0 C D ∨ ∃ k' hc' hm' kd' s' L', C = cz_go k' hc' ∧ D = some (1, hm') ∧ s < s' ∧ cz_bd t N T M hc0 hm0 c k' hc' hm' kd' s' L'
def cz_FT (x3 x6 : Int) (h8 : qz_H) : Option qz_R :=
        qz_ck ((h8 67 41 : Int) ≠ 0) <|
        qz_ck (0 < h8 67 41 ∧ (0 : Int) ≤ x6 ∧ x6 < h8 (h8 67 41) (-1)) <|
        qz_bn (qz_up h8 (h8 67 41) x6 (qz_nz 1)) fun h9 =>
        qz_ck ((h9 67 2 : Int) ≠ 0) <|
        qz_ck ((0 : Int) ≤ x3 ∧ x3 < h9 (h9 67 2) (-1)) <|
        qz_ck ((h9 67 40 : Int) ≠ 0) <|
        qz_ck (0 < h9 67 40 ∧ (0 : Int) ≤ x6 ∧ x6 < h9 (h9 67 40) (-1)) <|
        qz_bn (qz_up h9 (h9 67 40) x6 (h9 (h9 67 2) x3)) fun h10 =>
        qz_ck ((h10 67 45 : Int) ≠ 0) <|
        qz_ck (0 < h10 67 45 ∧ (0 : Int) ≤ x6 ∧ x6 < h10 (h10 67 45) (-1)) <|
        qz_bn (qz_up h10 (h10 67 45) x6 (h10 67 47)) fun h11 =>
        qz_ck ((h11 67 46 : Int) ≠ 0) <|
        qz_ck (0 < h11 67 46 ∧ (0 : Int) ≤ x6 ∧ x6 < h11 (h11 67 46) (-1)) <|
        qz_bn (qz_up h11 (h11 67 46) x6 (h11 67 48)) fun h12 =>
        qz_ck ((h12 67 44 : Int) ≠ 0) <|
        qz_ck (0 < h12 67 44 ∧ (0 : Int) ≤ x6 ∧ x6 < h12 (h12 67 44) (-1)) <|
        qz_bn (qz_up h12 (h12 67 44) x6 0) fun h13 =>
        qz_ck ((0 : Int) < 67) <|
        qz_bn (qz_up h13 67 39 (qz_w ((h13 67 39) + 1))) fun h14 =>
        qz_ck ((1 : Int) = 0 ∨ (1 : Int) = 1) (some (1, h14))
theorem cz_FT_eq (L : bz_LM hm) {x3 d : Int} (x0 : 0 ≤ x3) (x1 : x3 < 30) (d0 : 0 ≤ d) (d9 : d ≤ 9) (h39 : hm 67 39 = d) : cz_FT x3 d hm = some (1, qz_up (qz_up (qz_up (qz_up (qz_up (qz_up hm 94 d 1) 93 d (hm 70 x3)) 98 d (hm 67 47)) 99 d (hm 67 48)) 97 d 0) 67 39 (d + 1)) := by
  unfold cz_FT
  simp (disch := omega) only [bz_bn, bz_ck, cz_ckT, bz_bc, cz_un, bz_us, bz_w, if_pos, if_neg, or_true, true_or, and_true, true_and, ne_eq, not_false_eq_true, not_true_eq_false, if_true, if_false, bz_m67_2 L, bz_m67_16 L, bz_m67_17 L, bz_m67_18 L, bz_m67_19 L, bz_m67_20 L, bz_m67_21 L, bz_m67_22 L, bz_m67_24 L, bz_m67_25 L, bz_m67_26 L, bz_m67_27 L, bz_m67_29 L, bz_m67_30 L, bz_m67_31 L, bz_m67_40 L, bz_m67_41 L, bz_m67_42 L, bz_m67_43 L, bz_m67_44 L, bz_m67_45 L, bz_m67_46 L, bz_m70_m1 L, bz_m79_m1 L, bz_m80_m1 L, bz_m81_m1 L, bz_m82_m1 L, bz_m83_m1 L, bz_m84_m1 L, bz_m85_m1 L, bz_m86_m1 L, bz_m87_m1 L, bz_m88_m1 L, bz_m89_m1 L, bz_m90_m1 L, bz_m91_m1 L, bz_m92_m1 L, bz_m93_m1 L, bz_m94_m1 L, bz_m95_m1 L, bz_m96_m1 L, bz_m97_m1 L, bz_m98_m1 L, bz_m99_m1 L, h39, show qz_nz 1 = 1 by decide +kernel]
end SC
