def kz_P (s : State) (c : Nat) (q : vw_C) (p : ClassId × (Nat → Nat)) : Prop := (∀ k, k < q.2.2 → SlotIs s (q.2.1 k).1 (q.2.1 k).2.1 (q.2.1 k).2.2.1 (p.2 k)) ∧ s.vm.findClass q.1 = some p.1 ∧ ∃ kC : Class, s.vm.classes[p.1]? = some kC ∧ (c ∈ kz_kK ∨ kC.kind = .ordinary)
theorem kz_one {args : Array Value} {s : State} (hts : ∀ w ∈ kz_TT, w.before args s = true) {k idx : Nat} {own : String} (hw : qz_cw k) (hi : ∃ q : vw_C, kz_cl[k]? = some q ∧ Cond.classLink own idx q.1 ∈ kz_TT ∧ Cond.instantiable q.1 (kz_N k) ∈ kz_TT ∧ Cond.initialized q.1 ∈ kz_TT) : ∃ p : ClassId × (Nat → Nat), ∀ q, kz_cl[k]? = some q → kz_P s k q p := by
  obtain ⟨q, f1, -, f3, -⟩ := hi
  obtain ⟨cC, iS, g1, g2, kC, g3, g4⟩ := kz_cls hts hw f1 f3
  refine ⟨(cC, iS), fun q' hq' => ?_⟩
  cases f1.symm.trans hq'
  exact ⟨g1, g2, kC, g3, Or.inr g4⟩
theorem kz_two {args : Array Value} {s : State} {t : Term} {k : Nat} {q : vw_C} (hk : k ∈ kz_kK) (hq : kz_cl[k]? = some q) (hex : (Cond.exactly t q.1).before args s = true) (hf : ∀ k, k < q.2.2 → ∃ v, (Term.field t (q.2.1 k).1 (q.2.1 k).2.1 (q.2.1 k).2.2.1).eval args s none [] s = some v) : ∃ p : ClassId × (Nat → Nat), ∀ q, kz_cl[k]? = some q → kz_P s k q p := by
  obtain ⟨cC, iS, g1, g2, kC, g3⟩ := kz_kn_of hex hf
  refine ⟨(cC, iS), fun q' hq' => ?_⟩
  cases hq.symm.trans hq'
  exact ⟨g1, g2, kC, g3, Or.inl hk⟩
theorem kz_D {s : State} {b : Nat} (hts : ∀ w ∈ kz_TT, w.before #[Value.ref b] s = true) (hn : ∀ w ∈ kz_wnw, w.before #[Value.ref b] s = true) : ∃ D : va_G, ∀ (c : Nat) (q : vw_C), kz_cl[c]? = some q → kz_P s c q (D.1 c, D.2 c) := by
  have h : ∀ c : Nat, ∃ p : ClassId × (Nat → Nat), ∀ q, kz_cl[c]? = some q → kz_P s c q p := by
    intro c
    match c with
    | 0 => exact kz_one hts kw_0 nw_Law_8
    | 1 => exact kz_one hts kw_1 nw_SA_38
    | 2 => exact kz_one hts kw_2 nw_SA_47
    | 3 => exact kz_one hts kw_3 nw_Checker_15
    | 4 => exact kz_one hts kw_4 nw_Module_9
    | 5 => exact kz_one hts kw_5 nw_Reader_9
    | 6 => exact kz_one hts kw_6 nw_SA_19
    | 7 =>
      refine kz_two (t := kz_opT 0) (by decide) rfl (hn _ (kz_m_op (i := 0) (by decide) (List.mem_of_getElem? (i := 0) rfl))) fun k hk => ?_
      cases k with
      | zero =>
        obtain ⟨a, ha, -⟩ := kz_ev_ex (hn _ (kz_m_st (i := kz_opw.getD 0 0) (kz_opw_lt 0 (by decide)) (List.mem_append_left _ (List.mem_of_getElem? (i := 0) rfl))))
        exact ⟨_, kz_opW hn (i := 0) (by decide) ha⟩
      | succ k => exact ⟨_, kz_opE hn (i := 0) (by decide) k (Nat.lt_of_succ_lt_succ hk)⟩
    | 8 => exact kz_one hts kw_8 nw_SA_54
    | 9 => exact kz_one hts kw_9 nw_SA_29
    | 10 => exact kz_one hts kw_10 nw_Reader_28
    | 11 => exact kz_one hts kw_11 nw_SA_7
    | 12 => exact kz_one hts kw_12 nw_Law_23
    | 13 =>
      refine kz_two (t := kz_sT 0) (by decide) rfl (hn _ (kz_m_st (i := 0) (by decide) (List.mem_append_left _ (List.mem_of_getElem? (i := 0) rfl)))) fun k hk => ?_
      match k, hk with
      | 0, _ =>
        obtain ⟨a, ha, -⟩ := kz_ev_len (hn _ (kz_m_st (i := 0) (by decide) (List.mem_append_left _ (List.mem_of_getElem? (i := 3) rfl))))
        exact ⟨_, ha⟩
      | 1, _ => exact ⟨_, va_eqt (hn _ (kz_m_st (i := 0) (by decide) (List.mem_append_left _ (List.mem_of_getElem? (i := 1) rfl))))⟩
      | n + 2, h => exact absurd h (by show ¬ n + 2 < 2; omega)
    | n + 14 => exact ⟨(0, fun _ => 0), fun q hq => by cases hq⟩
  obtain ⟨p, hp⟩ := Classical.axiomOfChoice h
  exact ⟨(fun c => (p c).1, fun c => (p c).2), fun c q hq => hp c q hq⟩
