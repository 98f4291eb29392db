/-! The heap of numbers at the law's entry, and where its objects lie. -/
def kz_dt (x j : Int) : Int :=
  if -30 ≤ x then (if j = -2 then 7 else if j = 0 then -35 - 2 * ((kz_opw.getD (-x - 1).toNat 0 : Nat) : Int) else if 1 ≤ j then kz_ov (-x - 1).toNat (j - 1).toNat else 0)
  else if x = -31 then (if j = -1 then 30 else if j = -2 then 46 else -(j + 1))
  else if x = -32 then (if j = -1 then (kz_hdr.length : Int) else if j = -2 then 40 else kz_hdr.getD j.toNat 0)
  else if x = -33 then (if j = -1 then (kz_swm.length : Int) else if j = -2 then 40 else kz_swm.getD j.toNat 0)
  else if x % 2 = 1 then (if j = -2 then 13 else if j = 0 then x - 1 else 0)
  else (if j = -1 then ((kz_sb ((-36 - x) / 2).toNat).length : Int) else if j = -2 then 43 else (kz_sb ((-36 - x) / 2).toNat).getD j.toNat 0)
def kz_h0 (ad : Int → Nat) (sz L : Nat) (xs : Nat → Int32) : qz_H := fun x j => if j = -3 then (ad x : Int) else if x = 0 then (if j = 1 then (sz : Int) else 0) else if 0 < x then 0 else if x = -34 then (if j = -1 then (L : Int) else if j = -2 then 40 else (xs j.toNat).toInt) else kz_dt x j
def kz_tm (x : Int) : Term := if -30 ≤ x then kz_opT (-x - 1).toNat else if x = -31 then kz_tAL else if x = -32 then kz_tHD else if x = -33 then kz_tSW else if x = -34 then .arg 0 else if x % 2 = 1 then kz_sT ((-35 - x) / 2).toNat else kz_sV ((-36 - x) / 2).toNat
theorem kz_m_op {i : Nat} (hi : i < 30) {w : Cond} (hw : w ∈ kz_wop i) : w ∈ kz_wnw := List.mem_append_left _ (List.mem_flatMap.mpr ⟨i, List.mem_range.mpr hi, hw⟩)
theorem kz_m_st {i : Nat} (hi : i < 46) {w : Cond} (hw : w ∈ kz_wst i) : w ∈ kz_wnw := List.mem_append_right _ (List.mem_append_left _ (List.mem_flatMap.mpr ⟨i, List.mem_range.mpr hi, hw⟩))
theorem kz_m_al {w : Cond} (hw : w ∈ kz_wal) : w ∈ kz_wnw := List.mem_append_right _ (List.mem_append_right _ (List.mem_append_left _ hw))
theorem kz_m_hd {w : Cond} (hw : w ∈ kz_whd) : w ∈ kz_wnw := List.mem_append_right _ (List.mem_append_right _ (List.mem_append_right _ (List.mem_append_left _ hw)))
theorem kz_m_sw {w : Cond} (hw : w ∈ kz_wsw) : w ∈ kz_wnw := List.mem_append_right _ (List.mem_append_right _ (List.mem_append_right _ (List.mem_append_right _ (List.mem_append_left _ hw))))
theorem kz_m_ot {w : Cond} (hw : w ∈ kz_wot) : w ∈ kz_wnw := List.mem_append_right _ (List.mem_append_right _ (List.mem_append_right _ (List.mem_append_right _ (List.mem_append_right _ hw))))
theorem kz_elw_in {t : Term} {vs : List Int} {j : Nat} (hj : j < vs.length) : Cond.eq (.elem t (.int (Int32.ofNat j))) (.int (Int32.ofInt (vs.getD j 0))) ∈ kz_elw t vs := List.mem_map.mpr ⟨j, List.mem_range.mpr hj, rfl⟩
section QS
variable {s : State} {b L : Nat} {xs : Nat → Int32}
theorem kz_ev_ex {args : Array Value} {t : Term} {C : String} (h : (Cond.exactly t C).before args s = true) : ∃ a, t.eval args s none [] s = some (.ref a) ∧ a < s.heap.size := by
  obtain ⟨a, c, cell, k, q1, q2, q3, -⟩ := Cond.exactly_spec h
  exact ⟨a, q1, (Array.getElem?_eq_some_iff.mp q3).1⟩
theorem kz_ev_len {args : Array Value} {t : Term} {z : Int32} (h : (Cond.eq (.length t) (.int z)).before args s = true) : ∃ a, t.eval args s none [] s = some (.ref a) ∧ a < s.heap.size := by
  obtain ⟨a, cell, q1, q2, -⟩ := Term.length_spec (va_eqt h)
  exact ⟨a, q1, (Array.getElem?_eq_some_iff.mp (State.arrayAt?_spec q2).1).1⟩
theorem kz_ev (hn : ∀ w ∈ kz_wnw, w.before #[Value.ref b] s = true) (hb : b < s.heap.size) (x : Int) (h1 : -126 ≤ x) (h2 : x ≤ -1) : ∃ a, (kz_tm x).eval #[Value.ref b] s none [] s = some (.ref a) ∧ a < s.heap.size := by
  unfold kz_tm
  by_cases c1 : -30 ≤ x
  · rw [if_pos c1]
    exact kz_ev_ex (hn _ (kz_m_op (i := (-x - 1).toNat) (by omega) (List.mem_of_getElem? (i := 0) rfl)))
  rw [if_neg c1]
  by_cases c2 : x = -31
  · rw [if_pos c2]
    exact kz_ev_len (hn _ (kz_m_al (List.mem_of_getElem? (i := 1) rfl)))
  rw [if_neg c2]
  by_cases c3 : x = -32
  · rw [if_pos c3]
    exact kz_ev_len (hn _ (kz_m_hd (List.mem_of_getElem? (i := 1) rfl)))
  rw [if_neg c3]
  by_cases c4 : x = -33
  · rw [if_pos c4]
    exact kz_ev_len (hn _ (kz_m_sw (List.mem_of_getElem? (i := 1) rfl)))
  rw [if_neg c4]
  by_cases c5 : x = -34
  · rw [if_pos c5]
    exact ⟨b, rfl, hb⟩
  rw [if_neg c5]
  by_cases c6 : x % 2 = 1
  · rw [if_pos c6]
    exact kz_ev_ex (hn _ (kz_m_st (i := ((-35 - x) / 2).toNat) (by omega) (List.mem_append_left _ (List.mem_of_getElem? (i := 0) rfl))))
  · rw [if_neg c6]
    exact kz_ev_len (hn _ (kz_m_st (i := ((-36 - x) / 2).toNat) (by omega) (List.mem_append_left _ (List.mem_of_getElem? (i := 3) rfl))))
/-- an int field of an object that a term names -/
theorem kz_fd {args : Array Value} {t : Term} {O f d : String} {v : Value} {a : Nat} (ht : t.eval args s none [] s = some (.ref a)) (hv : (Term.field t O f d).eval args s none [] s = some v) : ∃ cf k i fd cell, s.fieldFound? O f d = some (cf, k, i, fd) ∧ fd.isStatic = false ∧ s.heap[a]? = some cell ∧ cell.vm ≠ .unknown ∧ cell.vm.isStatics = false ∧ cell.slots[fd.slot]? = some v := by
  cases hfo : s.fieldFound? O f d with
  | none =>
    rw [va_fe ht] at hv
    simp [State.fieldOf?, State.fieldNamed?, hfo] at hv
  | some q =>
    obtain ⟨cf, k, i, fd⟩ := q
    obtain ⟨g1, cell, g2, g3, g4, -, g6⟩ := Term.field_spec hfo ht hv
    exact ⟨cf, k, i, fd, cell, rfl, g1, g2, g3, g4, g6⟩
end QS
theorem kz_h0_ad (ad : Int → Nat) (sz L : Nat) (xs : Nat → Int32) (x : Int) : qz_ad (kz_h0 ad sz L xs) x = ad x := by
  unfold qz_ad kz_h0
  rw [if_pos rfl]
  exact Int.toNat_natCast _
theorem kz_h0_kd (ad : Int → Nat) (sz L : Nat) (xs : Nat → Int32) : qz_kd (kz_h0 ad sz L xs) := by
  intro x h1 h2
  have e : ((kz_nC : Nat) : Int) = 126 := rfl
  rw [e] at h1
  unfold kz_h0
  rw [if_neg (by decide : ¬ ((-2 : Int) = -3)), if_neg (by omega : ¬ x = 0), if_neg (by omega : ¬ 0 < x)]
  by_cases c5 : x = -34
  · subst c5; rfl
  rw [if_neg c5]
  unfold kz_dt kz_kc
  by_cases c1 : -30 ≤ x
  · rw [if_pos c1, if_pos c1]; rfl
  rw [if_neg c1, if_neg c1]
  by_cases c2 : x = -31
  · rw [if_pos c2, if_pos c2]; rfl
  rw [if_neg c2, if_neg c2]
  by_cases c3 : x = -32
  · rw [if_pos c3, if_pos (by omega : -34 ≤ x)]; rfl
  rw [if_neg c3]
  by_cases c4 : x = -33
  · rw [if_pos c4, if_pos (by omega : -34 ≤ x)]; rfl
  rw [if_neg c4, if_neg (by omega : ¬ -34 ≤ x)]
  by_cases c6 : x % 2 = 1
  · rw [if_pos c6, if_pos c6]; rfl
  · rw [if_neg c6, if_neg c6]; rfl
/-! The classes at the law's entry. -/
theorem kz_ac {args : Array Value} {s : State} {ty : FieldType} (hno : ∀ C, ty ≠ .object C) (h : (Cond.arrayClass ty).before args s = true) : ∃ cA, ArrOfT s cA ty ∧ va_RA s cA ty := by
  obtain ⟨c, k, comp, h1, h2, h3⟩ := Cond.arrayClass_spec h
  refine ⟨c, fun n z => ⟨fun k hk => (by cases hk), k, h2, comp, h3⟩, ?_⟩
  cases ty with
  | object C => exact absurd rfl (hno C)
  | _ => exact h1
theorem kz_ao1 {args : Array Value} {s : State} {C : String} (h : (Cond.arrayOver (.object C)).before args s = true) : ∃ cA, ArrOfT s cA (.object C) ∧ va_RA s cA (.object C) := by
  obtain ⟨comp, c, k, h1, h2, h3, h4, h5⟩ := Cond.arrayOver_spec h
  exact ⟨c, fun n z => ⟨fun k hk => (by cases hk), k, h3, comp, h4⟩, k, comp, h3, h4, h1, h5⟩
theorem kz_arr {args : Array Value} {s : State} (hts : ∀ w ∈ kz_TT, w.before args s = true) (hall : ∀ w ∈ tables_1, w.before args s = true) : ∃ dA : Nat → ClassId, ∀ (k : Nat) (q : ClassId × FieldType), (qz_tys dA)[k]? = some q → ArrOfT s q.1 q.2 ∧ va_RA s q.1 q.2 := by
  have h : ∀ k : Nat, ∃ c : ClassId, k ∈ kz_ak → ArrOfT s c (kz_aT k) ∧ va_RA s c (kz_aT k) := by
    intro k
    by_cases hk : k ∈ kz_ak
    · have key : ∃ c, ArrOfT s c (kz_aT k) ∧ va_RA s c (kz_aT k) := by
        simp only [kz_ak, List.mem_cons, List.not_mem_nil, or_false] at hk
        rcases hk with rfl | rfl | rfl | rfl | rfl | rfl | rfl | rfl | rfl
        · exact kz_ac (ty := .int) (fun _ z => by cases z) (hts _ wa_int)
        · exact kz_ac (ty := .long) (fun _ z => by cases z) (hts _ wa_long)
        · exact kz_ac (ty := .char) (fun _ z => by cases z) (hts _ wa_char)
        · exact kz_ac (ty := .byte) (fun _ z => by cases z) (hts _ wa_byte)
        · exact kz_ac (ty := .boolean) (fun _ z => by cases z) (hts _ wa_boolean)
        · exact kz_ao1 (hall _ (kz_in1 (List.mem_of_getElem? (i := 60) rfl)))
        · exact kz_ao1 (hall _ (kz_in1 (List.mem_of_getElem? (i := 62) rfl)))
        · exact kz_ao1 (hall _ (kz_in1 (List.mem_of_getElem? (i := 160) rfl)))
        · exact kz_ao1 (hall _ (kz_in2 (List.mem_of_getElem? (i := 16) rfl)))
      obtain ⟨c, hc⟩ := key
      exact ⟨c, fun _ => hc⟩
    · exact ⟨0, fun z => absurd z hk⟩
  obtain ⟨dA, hd⟩ := Classical.axiomOfChoice h
  refine ⟨dA, fun k q hq => ?_⟩
  unfold qz_tys at hq
  rw [List.getElem?_map] at hq
  obtain ⟨k', hk', rfl⟩ := Option.map_eq_some_iff.mp hq
  exact hd k' (List.mem_of_getElem? hk')
/-- the classes that are made anew -/
theorem kz_cls {args : Array Value} {s : State} (hts : ∀ w ∈ kz_TT, w.before args s = true) {k n : Nat} (hw : qz_cw k) {q : vw_C} (hq : kz_cl[k]? = some q) (hi : Cond.instantiable q.1 n ∈ kz_TT) : ∃ (cC : ClassId) (iS : Nat → Nat), u_Kn s q.1 q.2.1 q.2.2 cC iS := by
  obtain ⟨q', c1, c2, c3, c4, -⟩ := hw
  cases c1.symm.trans hq
  exact u_known hts c4 (hts _ hi)
/-- a class of which objects were there before: its fields' places -/
def kz_kn (s : State) (q : vw_C) (cC : ClassId) (iS : Nat → Nat) : Prop := (∀ k, k < q.2.2 → SlotIs s (q.2.1 k).1 (q.2.1 k).2.1 (q.2.1 k).2.2.1 (iS k)) ∧ s.vm.findClass q.1 = some cC ∧ ∃ kC : Class, s.vm.classes[cC]? = some kC
theorem kz_kn_of {args : Array Value} {s : State} {t : Term} {q : vw_C} (hex : (Cond.exactly t q.1).before args s = true) (hf : ∀ k, k < q.2.2 → ∃ v, (Term.field t (q.2.1 k).1 (q.2.1 k).2.1 (q.2.1 k).2.2.1).eval args s none [] s = some v) : ∃ (cC : ClassId) (iS : Nat → Nat), kz_kn s q cC iS := by
  obtain ⟨a, c, cell, kC, q1, q2, q3, q4, -⟩ := Cond.exactly_spec hex
  have h : ∀ k : Nat, ∃ i : Nat, k < q.2.2 → SlotIs s (q.2.1 k).1 (q.2.1 k).2.1 (q.2.1 k).2.2.1 i := by
    intro k
    by_cases hk : k < q.2.2
    · obtain ⟨v, hv⟩ := hf k hk
      obtain ⟨cf, kf, fi, fd, cell', g1, -⟩ := kz_fd q1 hv
      exact ⟨fd.slot, fun _ => ⟨cf, kf, fi, fd, g1, rfl⟩⟩
    · exact ⟨0, fun z => absurd z hk⟩
  obtain ⟨iS, hS⟩ := Classical.axiomOfChoice h
  exact ⟨c, iS, hS, q2, kC, q4⟩
/-- the values of an Op's fields, of a string's, as the start says -/
theorem kz_opE {s : State} {b : Nat} (hn : ∀ w ∈ kz_wnw, w.before #[Value.ref b] s = true) {i : Nat} (hi : i < 30) : ∀ k, k < 6 → (Term.field (kz_opT i) (kz_T7 (k + 1)).1 (kz_T7 (k + 1)).2.1 (kz_T7 (k + 1)).2.2.1).eval #[Value.ref b] s none [] s = some (.int (Int32.ofInt (kz_ov i k)))
  | 0, _ => va_eqt (hn _ (kz_m_op hi (List.mem_of_getElem? (i := 2) rfl)))
  | 1, _ => va_eqt (hn _ (kz_m_op hi (List.mem_of_getElem? (i := 3) rfl)))
  | 2, _ => va_eqt (hn _ (kz_m_op hi (List.mem_of_getElem? (i := 4) rfl)))
  | 3, _ => va_eqt (hn _ (kz_m_op hi (List.mem_of_getElem? (i := 5) rfl)))
  | 4, _ => va_eqt (hn _ (kz_m_op hi (List.mem_of_getElem? (i := 6) rfl)))
  | 5, _ => va_eqt (hn _ (kz_m_op hi (List.mem_of_getElem? (i := 7) rfl)))
  | n + 6, h => absurd h (by omega)
theorem kz_opW {s : State} {b a : Nat} (hn : ∀ w ∈ kz_wnw, w.before #[Value.ref b] s = true) {i : Nat} (hi : i < 30) (ha : (kz_sT (kz_opw.getD i 0)).eval #[Value.ref b] s none [] s = some (.ref a)) : (Term.field (kz_opT i) (kz_T7 0).1 (kz_T7 0).2.1 (kz_T7 0).2.2.1).eval #[Value.ref b] s none [] s = some (.ref a) :=
  va_eqv (hn _ (kz_m_op hi (List.mem_of_getElem? (i := 1) rfl))) ha
theorem kz_opw_lt : ∀ i, i < 30 → kz_opw.getD i 0 < 46 := by decide +kernel
