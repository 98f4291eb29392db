/-- an object that was there before, as the start's words say -/
theorem kz_obj {args : Array Value} {s : State} {k a : Nat} {q : vw_C} {p : ClassId × (Nat → Nat)} {t : Term} (hP : kz_P s k q p) (hex : (Cond.exactly t q.1).before args s = true) (ht : t.eval args s none [] s = some (.ref a)) (f : Nat → Value) (hf : ∀ j, j < q.2.2 → (Term.field t (q.2.1 j).1 (q.2.1 j).2.1 (q.2.1 j).2.2.1).eval args s none [] s = some (f j)) (hN : 0 < q.2.2) :
    ∃ cell : Cell, s.heap[a]? = some cell ∧ cell.cls = p.1 ∧ cell.vm ≠ .unknown ∧ cell.vm.isStatics = false ∧ ∀ j, j < q.2.2 → cell.slots[p.2 j]? = some (f j) := by
  obtain ⟨a', c, cell, kC, q1, q2, q3, q4, q5, q6, -⟩ := Cond.exactly_spec hex
  cases ht.symm.trans q1
  obtain ⟨h1, h2, -⟩ := hP
  cases h2.symm.trans q2
  obtain ⟨cf, kf, fi, fd, cell', g1, g2, g3, g4, -⟩ := kz_fd ht (hf 0 hN)
  cases q3.symm.trans g3
  refine ⟨cell, q3, q6, g4, q5, fun j hj => ?_⟩
  obtain ⟨cf', kf', fi', fd', cell', e1, e2, e3, e4, e5, e6⟩ := kz_fd ht (hf j hj)
  cases q3.symm.trans e3
  obtain ⟨c9, k9, i9, d9, s1, s2⟩ := h1 j hj
  cases e1.symm.trans s1
  rw [← s2]
  exact e6
/-- an array that was there before -/
theorem kz_aro {args : Array Value} {s : State} {a N : Nat} {t : Term} {ty : FieldType} {f : Nat → Value} (hN : N < 2 ^ 31) (harr : (Cond.arrayOf t ty).before args s = true) (hlen : (Cond.eq (.length t) (.int (Int32.ofNat N))).before args s = true) (hel : ∀ j : Nat, j < N → (Term.elem t (.int (Int32.ofNat j))).eval args s none [] s = some (f j)) (ht : t.eval args s none [] s = some (.ref a)) :
    ∃ cell : Cell, s.heap[a]? = some cell ∧ s.isArrayOf cell ty ∧ cell.vm ≠ .unknown ∧ N ≤ cell.slots.size ∧ cell.slots.size.toInt32 = Int32.ofNat N ∧ ∀ j : Nat, j < N → cell.slots[j]? = some (f j) := by
  obtain ⟨a', ha, cell, h1, h2, h3, h4, h5, h6, -⟩ := va_Tof (A := fun _ => False) hN harr (va_eqt hlen) hel (fun _ _ z => z)
  cases ht.symm.trans ha
  exact ⟨cell, h1, h2, h3, h4, h5, h6⟩
