/-! The body of a function. -/
section SC
variable {t : Int → Int} {N T M : Int} {hc0 hm0 hc hm hc' hm' : qz_H}
theorem cz_ri {k : Nat} {kd s : Int} {L : Nat} {c m d q : Int} (S : cz_S t N T M hc0 hm0 k hc hm kd s L) (g : cz_G t hc hm M c m d d q (-1) s) (h5 : hc 30 5 = d + 2) (h6 : hc 30 6 = 0) (h7 : hc 30 7 = -2 ∨ ¬ cz_nt t kd s L) (k0 : kd ≠ 0) (k1 : ¬ (kd = 1 ∧ d = 0)) (ph : cz_nt t kd s L → hc (37 + d) 1 ≠ 0) : cz_out t N T M hc0 hm0 c s (cz_go k hc) (fn_Md_readInstruction 67 (c - 1) hm) := by
  have e := S.en
  have hM := e.hM
  obtain ⟨iw, ho⟩ := e.op S.tk
  unfold fn_Md_readInstruction
  rw [iw, bz_bc, bz_bn]
  have Lm := e.tm.1
  rcases ho with ⟨h0, hx⟩ | ⟨j, hj, hop, kd2, nn, i0, i30, hcd⟩
  · left
    obtain ⟨d0, d10, _, _, kk, kf⟩ := g.2.1.kind
    have hk1 : hc (37 + d) 0 = 3 ∨ hc (37 + d) 0 = 8 ∨ hc (37 + d) 0 = 9 := by have := kk rfl; omega
    have hkd : d ≠ 0 → hc (37 + d) 0 ≠ 3 := by have := kk rfl; omega
    clear kk kf
    rw [hx, if_neg (by omega), cz_fail e.w0, bz_bc, bz_ck (by omega)]
    have e7 : cz_en t N T M hc0 hm0 (qz_up hc 30 7 (-2)) hm := e.uc (by omega)
    have t7 : cz_tk t N (qz_up hc 30 7 (-2)) hm kd s L := S.tk.fC (fun i _ _ => cz_un (by omega))
    have sm7 : (qz_up hc 30 7 (-2)) 30 9 = hm 67 34 := by rw [cz_un (by omega)]; exact S.sm
    rw [cz_goB e d0 d10 h5 h6 hk1]
    have C : fn_Reader_inBody 30 (37 + d) hc = some (1, qz_up hc 30 7 (-2)) := by
      by_cases h1 : kd = 1
      · unfold fn_Reader_inBody fn_Reader_inBody_53
        rw [bz_bn, bz_ck (by omega), bz_bn, bz_c30_0 e7.tc.1, bz_ck (by omega), t7.1, if_pos k0, bz_ck (by omega), if_neg (show ¬ ¬ kd = 1 by omega), bz_ck (by omega), cz_un (show ¬ (37 + d = 30 ∧ (0 : Int) = 7) by omega), if_pos (hkd (by omega))]
      · by_cases nt : cz_nt t kd s L
        · have x2 : hc 30 7 = -2 := by
            rcases h7 with h | h
            · exact h
            · exact absurd nt h
          have p0 := ph nt
          unfold fn_Reader_inBody
          rw [bz_bn, bz_ck (by omega), bz_bn, bz_c30_0 e7.tc.1, bz_ck (by omega), t7.1, if_pos k0, bz_ck (by omega), if_pos h1, bz_ck (by omega), t7.nmC e7.w e7.tc, bz_bc, if_pos nt, if_pos (show ¬ (1 : Int) = 0 by omega), if_neg (show ¬ ¬ hc 30 7 = -2 by omega), cz_bb]
          have z : ∀ x, fn_Reader_giveName_13 30 (37 + d) x (qz_up hc 30 7 (-2)) = some (1, qz_up hc 30 7 (-2)) := by
            intro x
            unfold fn_Reader_giveName_13 fn_Reader_giveName_39
            rw [bz_bn, bz_ck (by omega), cz_un (show ¬ (37 + d = 30 ∧ (1 : Int) = 7) by omega), if_pos p0]
          unfold fn_Reader_giveName
          rw [bz_ck (by omega), z, z]
          split <;> rfl
        · rw [cz_inB e S.tk k0 h1 nt]
          unfold fn_Reader_instructionIn fn_Reader_instructionIn_42
          rw [bz_c30_0 e7.tc.1, bz_ck (by omega), show (qz_up hc 30 7 (-2)) 34 4 = 0 by rw [cz_un (by omega)]; exact h0, bz_bn, if_pos rfl]
    rw [C]
    exact cz_badI e7 (Or.inl rfl) sm7
  · rw [hop] at hcd iw i0 i30 ⊢
    rw [if_pos i0, bz_m67_2 Lm, bz_m70_m1 Lm, bz_ck (by omega), bz_ck (by omega), bz_bn, hcd]
    subst kd2
    have fin : ∀ x, cz_out t N T M hc0 hm0 c s (cz_go k hc) x → cz_out t N T M hc0 hm0 c s (cz_go k hc) (qz_bc x fun r5 h6 => qz_ck ((r5 : Int) = 0 ∨ (r5 : Int) = 1) (some (r5, h6))) := by
      intro x hx
      rcases hx with ⟨w, hc', hm', r1, r2, r3, r4⟩ | ⟨k', hc', hm', kd', s', L', r1, r2, r3⟩
      · exact Or.inl ⟨w, hc', hm', r1, r2, by rw [r3, bz_bc, bz_ck (by omega)], r4⟩
      · exact Or.inr ⟨k', hc', hm', kd', s', L', r1, by rw [r2, bz_bc, bz_ck (by omega)], r3⟩
    have o30 := cz_o30 j hj
    have op1 := o30.1
    have op2 := o30.2.1
    have op3 := o30.2.2.1
    clear o30
    by_cases hb : 2 ≤ kz_dt (-((j : Int) + 1)) 1 ∧ kz_dt (-((j : Int) + 1)) 1 ≤ 4
    · rw [if_neg (by omega), if_neg (by omega)]
      exact fin _ (cz_block S g h5 h6 nn hj hop (op1.mpr hb))
    · have : (if kz_dt (-((j : Int) + 1)) 1 < 2 then fn_Md_readInstruction_39 67 (c - 1) (kz_dt (-((j : Int) + 1)) 1) hm else if 4 < kz_dt (-((j : Int) + 1)) 1 then fn_Md_readInstruction_39 67 (c - 1) (kz_dt (-((j : Int) + 1)) 1) hm else qz_bc (fn_Md_beginBlock 67 (kz_dt (-((j : Int) + 1)) 1) (c - 1) hm) fun r5 h6 => qz_ck ((r5 : Int) = 0 ∨ (r5 : Int) = 1) (some (r5, h6))) = fn_Md_readInstruction_39 67 (c - 1) (kz_dt (-((j : Int) + 1)) 1) hm := by
        split
        · rfl
        · rw [if_pos (by omega)]
      rw [this]
      by_cases h56 : j = 5 ∨ j = 6
      · exact cz_turn S g h5 h6 nn h56 hop
      · exact cz_plain S g h5 h6 nn hj hop (by omega)
/-- the function is read: both stand in the module again -/
def cz_mo (t : Int → Int) (N T M : Int) (hc0 hm0 : qz_H) (c : Int) (k : Nat) (hc hm : qz_H) (kd s : Int) (L : Nat) : Prop := ∃ m q : Int, cz_S t N T M hc0 hm0 k hc hm kd s L ∧ cz_G1 hc hm M c m ∧ cz_G2 t hc hm c ∧ cz_G4 t hc hm M m q s ∧ cz_G6 hm c m 0 ∧ (∀ j : Int, 0 ≤ j → j < q → hm 92 j ≠ -1) ∧ q ≤ m ∧ hc 36 0 = 2 ∧ hc 35 0 = 0 ∧ hc 35 1 = 3 ∧ hc 30 5 = 1 ∧ hc 30 6 = 0 ∧ hc 30 7 = -2
def cz_end (t : Int → Int) (N T M : Int) (hc0 hm0 : qz_H) (c s : Int) (C D : Option qz_R) : Prop := cz_bad M hc0 hm0 C D ∨ ∃ k' hc' hm' kd' s' L', C = cz_go k' hc' ∧ D = some (1, hm') ∧ s < s' ∧ cz_mo t N T M hc0 hm0 c k' hc' hm' kd' s' L'
theorem cz_end.mono {c s s' : Int} {C D : Option qz_R} (h : cz_end t N T M hc0 hm0 c s C D) (hs : s' ≤ s) : cz_end t N T M hc0 hm0 c s' C D := by
  rcases h with h | ⟨k', hc', hm', kd', s2, L', h1, h2, h3, h4⟩
  · exact Or.inl h
  · exact Or.inr ⟨k', hc', hm', kd', s2, L', h1, h2, by omega, h4⟩
theorem cz_b114 (k16 : Int → Int → Int → qz_H → Option qz_R) (l1 l3 x : Int) (h : qz_H) (hx : x ≠ 0) : fn_Md_body_114 k16 67 l1 l3 x h = k16 67 l1 l3 h := by
  unfold fn_Md_body_114
  rw [if_pos hx]
theorem cz_b114z (k16 : Int → Int → Int → qz_H → Option qz_R) (l1 l3 : Int) (h : qz_H) : fn_Md_body_114 k16 67 l1 l3 0 h = some (0, h) := by
  unfold fn_Md_body_114
  rw [if_neg (show ¬ ¬ (0 : Int) = 0 by omega), bz_ck (by omega)]
theorem cz_body {c : Int} : ∀ (n : Nat) {k : Nat} {hc hm : qz_H} {kd s : Int} {L : Nat}, cz_bd t N T M hc0 hm0 c k hc hm kd s L → N - s + 3 ≤ n → cz_end t N T M hc0 hm0 c s (cz_go k hc) (fn_Md_body_16 n 67 (c - 1) 1 hm)
  | 0, k, hc, hm, kd, s, L, ⟨m, d, b, q, S, _⟩, hn => by
    have := S.tk.2.2.2.2.2.1
    omega
  | n + 1, k, hc, hm, kd, s, L, ⟨m, d, b, q, S, g, h5, h6, h7, ph⟩, hn => by
    have e := S.en
    have sN := S.tk.2.2.2.2.2.1
    obtain ⟨d0, d10, b0, bd, _, _⟩ := g.2.1.kind
    have r39 : hm 67 39 = d := g.2.1.1
    have Lm := e.tm.1
    have t33 := S.tk.2.2.2.1
    have k0 := S.k0
    have k4 := S.k4
    have IH : ∀ {k : Nat} {hc hm : qz_H} {kd s : Int} {L : Nat}, cz_bd t N T M hc0 hm0 c k hc hm kd s L → N - s + 3 ≤ n → cz_end t N T M hc0 hm0 c s (cz_go k hc) (fn_Md_body_16 n 67 (c - 1) 1 hm) := fun a b => cz_body n a b
    have fin : ∀ x, cz_out t N T M hc0 hm0 c s (cz_go k hc) x → cz_end t N T M hc0 hm0 c s (cz_go k hc) (qz_bc x fun r4 h5 => qz_bn (r4 : Int) fun x6 => fn_Md_body_114 (fn_Md_body_16 n) 67 (c - 1) 1 x6 h5) := by
      intro x hx
      rcases hx with ⟨w, hc', hm', r1, r2, r3, r4⟩ | ⟨k', hc', hm', kd', s', L', r1, r2, r3, r4⟩
      · exact Or.inl ⟨w, hc', hm', r1, r2, by rw [r3, bz_bc, bz_bn, cz_b114z], r4⟩
      · rw [r1, r2, bz_bc, bz_bn, cz_b114 _ _ _ _ _ (by omega)]
        exact (IH r4 (by omega)).mono (by omega)
    show cz_end t N T M hc0 hm0 c s (cz_go k hc) (fn_Md_body_16_b (fn_Md_body_16 n) 67 (c - 1) 1 hm)
    unfold fn_Md_body_16_b
    rw [if_neg (show ¬ (1 : Int) = 0 by omega), bz_bn]
    by_cases hb : b < d
    · have l94 : hm 94 (d - 1) = 1 := (g.2.1.2.2.2.2.2.2.2.2.2.1 (d - 1) (by omega) (by omega)).1
      rw [r39, if_neg (by omega), bz_m67_41 Lm, bz_w (by omega) (by omega), bz_m94_m1 Lm, bz_ck (by omega), bz_ck (by omega), if_neg (by omega)]
      refine fin _ (cz_inFold S g hb h5 h6 ?_)
      rcases h7 with h | h
      · exact h
      · omega
    · have hbd : b = d := by omega
      subst hbd
      have B54 : (if hm 67 39 ≤ 0 then fn_Md_body_54 (fn_Md_body_16 n) 67 (c - 1) 1 1 hm else qz_ck ((hm 67 41 : Int) ≠ 0) <| qz_ck ((0 : Int) ≤ qz_w ((hm 67 39) - 1) ∧ qz_w ((hm 67 39) - 1) < hm (hm 67 41) (-1)) <| if hm (hm 67 41) (qz_w ((hm 67 39) - 1)) = 0 then fn_Md_body_54 (fn_Md_body_16 n) 67 (c - 1) 1 1 hm else qz_bc (fn_Md_inFold 67 (c - 1) hm) fun r4 h5 => qz_bn (r4 : Int) fun x6 => fn_Md_body_114 (fn_Md_body_16 n) 67 (c - 1) 1 x6 h5) = fn_Md_body_54 (fn_Md_body_16 n) 67 (c - 1) 1 1 hm := by
        rw [r39]
        by_cases hd : b = 0
        · rw [if_pos (by omega)]
        · have l94 : hm 94 (b - 1) = 0 := (g.2.1.2.2.2.2.2.2.2.2.1 (b - 1) (by omega) (by omega)).1
          rw [if_neg (by omega), bz_m67_41 Lm, bz_w (by omega) (by omega), bz_m94_m1 Lm, bz_ck (by omega), bz_ck (by omega), if_pos l94]
      rw [B54]
      unfold fn_Md_body_54 fn_Md_body_81 fn_Md_body_82 fn_Md_body_107
      have ph' := ph rfl
      by_cases h0 : kd = 0
      · subst h0
        rw [if_neg (show ¬ ¬ hm 67 33 = 1 by rw [t33, if_neg (by omega)]; omega)]
        have R := cz_opf S g h5 h6 (fun h => by omega) (fun _ => by omega)
        rcases R with ⟨w, hc', hm', r1, r2, r3, r4⟩ | ⟨k', hc', hm', kd', s', L', r1, r2, r3, r4⟩
        · left
          refine ⟨w, hc', hm', r1, r2, ?_, r4⟩
          cases hO : fn_Md_open 67 hm with
          | none => rw [hO] at r3; simp [qz_bc] at r3
          | some p =>
            obtain ⟨r, h⟩ := p
            rw [hO, bz_bc] at r3
            rw [bz_bc]
            by_cases hr : r = 0
            · rw [if_pos hr] at r3 ⊢
              rw [bz_bn, cz_b114z]; exact r3
            · rw [if_neg hr] at r3 ⊢
              rw [r3, bz_bc, if_pos rfl, bz_bn, cz_b114z]
        · have D : (qz_bc (fn_Md_open 67 hm) fun r2 h3 => if r2 = 0 then qz_bn (0 : Int) fun x1 => fn_Md_body_114 (fn_Md_body_16 n) 67 (c - 1) 1 x1 h3 else qz_bc (fn_Md_fold 67 (c - 1) h3) fun r4 h5 => if r4 = 0 then qz_bn (0 : Int) fun x1 => fn_Md_body_114 (fn_Md_body_16 n) 67 (c - 1) 1 x1 h5 else qz_bn (1 : Int) fun x1 => fn_Md_body_114 (fn_Md_body_16 n) 67 (c - 1) 1 x1 h5) = fn_Md_body_16 n 67 (c - 1) 1 hm' := by
            cases hO : fn_Md_open 67 hm with
            | none => rw [hO] at r2; simp [qz_bc] at r2
            | some p =>
              obtain ⟨r, h⟩ := p
              rw [hO, bz_bc] at r2
              rw [bz_bc]
              by_cases hr : r = 0
              · rw [if_pos hr] at r2
                simp at r2
              · rw [if_neg hr] at r2 ⊢
                rw [r2, bz_bc, if_neg (by omega), bz_bn, cz_b114 _ _ _ _ _ (by omega)]
          rw [D, r1]
          exact (IH r4 (by omega)).mono (by omega)
      · rw [if_pos (show ¬ hm 67 33 = 1 by rw [t33]; split <;> omega)]
        by_cases h1 : kd = 1 ∧ b = 0
        · obtain ⟨h1, hb0⟩ := h1
          subst h1
          subst hb0
          have hM := e.hM
          have h37 : hc 37 0 = 3 := g.2.1.2.2.2.2.2.1
          rw [if_neg (show ¬ ¬ hm 67 33 = 2 by rw [t33, if_neg (by omega)]; omega), r39, if_neg (show ¬ ¬ (0 : Int) = 0 by omega), bz_bn, cz_b114 _ _ _ _ _ (by omega)]
          have hn1 : ∃ n', n = n' + 1 := ⟨n - 1, by omega⟩
          obtain ⟨n', rfl⟩ := hn1
          show cz_end t N T M hc0 hm0 c s (cz_go k hc) (fn_Md_body_16_b (fn_Md_body_16 n') 67 (c - 1) 0 hm)
          unfold fn_Md_body_16_b
          rw [if_pos rfl, cz_goB e (d := 0) (by omega) (by omega) h5 h6 (Or.inl h37)]
          have e7 : cz_en t N T M hc0 hm0 (qz_up hc 30 7 (-2)) hm := e.uc (by omega)
          have t7 : cz_tk t N (qz_up hc 30 7 (-2)) hm 1 s L := S.tk.fC (fun i _ _ => cz_un (by omega))
          have C : fn_Reader_inBody 30 (37 + 0) hc = some (0, qz_up (qz_up hc 30 7 (-2)) 30 5 1) := by
            unfold fn_Reader_inBody fn_Reader_inBody_53
            rw [bz_bn, bz_ck (by omega), bz_bn, bz_c30_0 e7.tc.1, bz_ck (by omega), t7.1, if_pos (by omega), bz_ck (by omega), if_neg (show ¬ ¬ (1 : Int) = 1 by omega), bz_ck (by omega), cz_un (show ¬ ((37 : Int) + 0 = 30 ∧ (0 : Int) = 7) by omega), if_neg (show ¬ ¬ hc (37 + 0) 0 = 3 by rw [show (37 : Int) + 0 = 37 by omega]; omega), cz_close (x := 2) (by rw [cz_un (by omega)]; omega) (by omega) (by omega), bz_bc]
            rfl
          rw [C]
          have e8 : cz_en t N T M hc0 hm0 (qz_up (qz_up hc 30 7 (-2)) 30 5 1) hm := e7.uc (by omega)
          obtain ⟨hc2, hm2, kd', s', L', n1, n2, S2, ss, Fc, Fm⟩ := cz_adv S (by omega) e8 (by simp (disch := omega) only [cz_un]) (by simp (disch := omega) only [cz_un]) rfl (by rw [bz_us]; omega) (by rw [bz_us]; omega)
          rw [n1, n2, bz_bc, bz_ck (by omega)]
          have fc2 : ∀ o i : Int, o ≠ 34 → o ≠ 30 → hc2 o i = hc o i := by
            intro o i x1 x2
            rw [Fc o i (by omega) (by omega)]
            simp (disch := omega) only [cz_un]
          have g2 : cz_G t hc2 hm2 M c m 0 0 q (-1) s' := g.same hM (fun o i h => fc2 o i (by omega) (by omega)) (fun o i h => Fm o i (by omega)) (by omega)
          obtain ⟨⟨u1, u2, u3, u4, u6, u7⟩, u5, uq⟩ := g2
          rw [if_pos rfl] at uq
          refine Or.inr ⟨_, _, _, _, _, _, rfl, rfl, by omega, m, q, S2, u1, u2, u4, u6, fun j j0 jq hj => ?_, by omega, u5.2.2.2.2.1, u5.2.2.2.2.2.2.1, u5.2.2.2.2.2.2.2.1, ?_, ?_, ?_⟩
          · rcases u5.2.2.2.2.2.2.2.2.2.2.2.2.1 j j0 jq hj with h | ⟨i, i0, i1, _⟩
            · omega
            · omega
          · rw [Fc _ _ (by omega) (by omega), bz_us]
          · rw [Fc _ _ (by omega) (by omega)]; simp (disch := omega) only [cz_un]; exact h6
          · rw [Fc _ _ (by omega) (by omega)]; simp (disch := omega) only [cz_un, bz_us]
        · have R := fin _ (cz_ri S g h5 h6 (by rcases h7 with h | h; exact Or.inl h; exact Or.inr h.2) h0 h1 (fun nt => by
            rcases ph' with h | h | h
            · omega
            · exact fun hh => h.2 hh nt
            · omega))
          by_cases h2 : kd = 1
          · rw [if_neg (show ¬ ¬ hm 67 33 = 2 by rw [t33, if_neg (by omega)]; omega), if_pos (show ¬ hm 67 39 = 0 by omega)]
            exact R
          · rw [if_pos (show ¬ hm 67 33 = 2 by rw [t33]; split <;> omega)]
            exact R
end SC
