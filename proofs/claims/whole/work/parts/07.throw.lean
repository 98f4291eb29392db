/-- the method's start moved up to where it stands -/
theorem qz_root {p : Program} {l : Launch} {e : Env} {R : Room} {s : State} {m : MethodId} {args : Array Value} {below : List Frame} {meth : Method} {c : Code} {T : State} {locs : List Loc} {cells slots : Nat} (X : Stand p l e R s m args below meth c T locs cells slots) (hc : cells ≤ R.cells) (hsl : slots ≤ R.slots) :
    Stand p l e { R with cells := R.cells - cells, slots := R.slots - slots } ({ s with heap := T.heap, slotsUsed := T.slotsUsed } : State) m args below meth c T [] 0 0 := by
  refine ⟨X.admits, X.cas, X.clock, X.frames, ?_, X.hears, X.method, X.code, X.here, X.tail, X.warmed, X.limits, X.bytes, ?_⟩
  · have h := X.room
    have g1 := X.cellsAbove (n := R.cells - cells) (by omega)
    have g2 := X.slotsAbove (n := R.slots - slots) (by omega)
    have g3 : T.slotsTrue = true := X.book
    simp only [State.hasRoom, Bool.and_eq_true, decide_eq_true_eq] at h ⊢
    exact ⟨⟨⟨h.1.1.1, g1⟩, g2⟩, g3⟩
  · refine ⟨?_, Nat.le_refl _, Nat.le_refl _, ?_, ?_, fun a cc ha => ⟨cc, ha, rfl, rfl, fun _ _ => rfl⟩⟩
    · exact X.same.1
    · show T.slotsUsed = T.slotsUsed + ((T.heap.toList.drop T.heap.size).map (·.slots.size)).sum
      rw [List.drop_of_length_le (by simp)]
      simp
    · show ((T.heap.toList.drop T.heap.size).map (·.slots.size)).sum ≤ 0
      rw [List.drop_of_length_le (by simp)]
      simp
def qz_th (h : qz_H) : qz_H := qz_up h 0 1 (h 0 1 + 1)
theorem qz_th_at {h : qz_H} {x j : Int} (hn : ¬ (x = 0 ∧ j = 1)) : qz_th h x j = h x j := qz_up_ne hn
/-- a cell more, that is no object of mine -/
theorem qz_W_th {D : va_G} {dA : Nat → ClassId} {B0 : Nat} {hc h0 h : qz_H} {U : State} {H H' : Heap} (hW : qz_W D dA B0 hc h0 U h H) (hz : H'.size = H.size + 1) (hq : ∀ q, q < H.size → H'[q]? = H[q]?) : qz_W D dA B0 hc h0 U (qz_th h) H' := by
  have ad : ∀ x, qz_ad (qz_th h) x = qz_ad h x := fun x => by unfold qz_ad; rw [qz_th_at (by omega)]
  have ok : ∀ k x, qz_ok (qz_th h) k x ↔ qz_ok h k x := fun k x => by unfold qz_ok; rw [qz_th_at (by omega), qz_th_at (by omega)]
  have tv : ∀ t x, qz_tv (qz_th h) t x = qz_tv h t x := fun t x => by unfold qz_tv qz_rf; rw [ad]
  have rg : ∀ t x, qz_rg (qz_th h) t x ↔ qz_rg h t x := fun t x => by unfold qz_rg; rw [ok]
  obtain ⟨⟨w0, w1⟩, w2, w3, w4, w5, w6, w7⟩ := hW
  refine ⟨⟨by rw [qz_th_at (by omega)]; exact w0, by show qz_up h 0 1 (h 0 1 + 1) 0 1 = _; rw [qz_up_eq, w1, hz]; omega⟩, fun y k hy => ?_, fun y g1 g2 => ?_, fun y z g1 g2 g3 g4 g5 => ?_, fun y g1 g2 => ?_, fun y g1 i => ?_, fun a b g => ?_⟩
  · have hy0 := (ok k y).mp hy
    have hval : ∀ i : Int, qz_th h y i = h y i := fun i => qz_th_at (fun z => qz_ok_ne hy0 z.1)
    obtain ⟨a1, a2⟩ := w2 y k hy0
    refine ⟨fun hlt => ?_, fun hge => ?_⟩
    · obtain ⟨⟨cell, b1, b2, b3, b4, b5, b6⟩, b7⟩ := a1 hlt
      refine ⟨⟨cell, by rw [ad, hq _ (Array.getElem?_eq_some_iff.mp b1).1]; exact b1, b2, b3, b4, b5, fun i hi => ?_⟩, fun i hi => ?_⟩
      · rw [tv, hval]; exact b6 i hi
      · rw [rg, hval]; exact b7 i hi
    · obtain ⟨⟨cell, b1, b2, b3, b4, b5, b6, b7⟩, b8, b9, b10⟩ := a2 hge
      refine ⟨⟨cell, by rw [ad, hq _ (Array.getElem?_eq_some_iff.mp b1).1]; exact b1, b2, b3, b4, by rw [hval]; exact b5, by rw [hval]; exact b6, fun i hi => ?_⟩, by rw [hval]; exact b8, by rw [hval]; exact b9, fun i hi => ?_⟩
      · rw [hval] at hi ⊢
        rw [tv]; exact b7 i hi
      · rw [hval] at hi ⊢
        rw [rg]; exact b10 i hi
  · rw [qz_th_at (by omega)] at g2
    rw [ad, qz_th_at (by omega)]
    exact w3 y g1 g2
  · rw [qz_th_at (by omega)] at g2 g4
    rw [ad, ad] at g5
    exact w4 y z g1 g2 g3 g4 g5
  · rw [ad]; exact w5 y g1 g2
  · rw [qz_th_at (by omega)]; exact w6 y g1 i
  · exact ⟨(ok a b).mpr (w7 a b g).1, by rw [qz_th_at (by omega)]; exact (w7 a b g).2⟩
/-- the words of a throw: each among the tables' words, the carried ones, or about the two statics -/
def qz_oa (own : String) (ic : Nat) (cls : String) (names : List String) : Prop := ∀ w ∈ Bundle.ownAtoms own ic cls names, w ∈ kz_TT ∨ w ∈ kz_NT ∨ ∃ q ∈ kz_sl, w = .isRef (.static q.1 q.2.1 q.2.2) ∨ w = .laysStatic q.1 q.2.1 q.2.2
section QT
variable {Y : qz_Y} {G : qz_G} {is : List (Instr × Nat)} {pc : Nat} {ls : List qz_V} {h : qz_H} {cs sl : Nat}
theorem qz_throw {i1 i2 i3 : Nat} {cls tx : String} {names : List String} {x k : Int} (hoa : qz_oa Y.1.cls i3 cls names) (hfit : (Bundle.fit cls && names.all Bundle.fit) = true) (hnw : Cond.classLink Y.1.cls i1 cls ∈ kz_TT ∧ Cond.instantiable cls 6 ∈ kz_TT ∧ Cond.initialized cls ∈ kz_TT) (hss : (Y.1.cls, i2, tx, x) ∈ kz_ss) (hex : kz_ex k = cls) (h99 : Y.2.2.2.2.1 = 99) (hcd : Cond.code Y.1 Y.2.1 Y.2.2.1 Y.2.2.2.1 ∈ kz_TT)
    (hrm : (decide (names.length + 3 < Y.2.2.2.2.2.frames) && decide (1 + (13 * (names.length + 1) + 42) ≤ Y.2.2.2.2.2.locals) && decide (cs + 1 ≤ Y.2.2.2.2.2.cells) && decide (sl + 6 ≤ Y.2.2.2.2.2.slots)) = true) :
    qz_J Y G ((.new i1, 3) :: (.dup, 1) :: (.ldc i2, 2) :: (.invokespecial i3, 3) :: (.athrow, 1) :: is) pc ls [] h cs sl (some (k, qz_th h)) := by
  obtain ⟨p, l, e, s, m, args, below, meth, c, D, dA, B0, hc, h0⟩ := G
  intro r hr hx lsC stC H locs hca hl hs hW hS
  obtain ⟨h1, h2, h3, h4, h5, h6, h7, h8, h9⟩ := id hx
  have hs0 : stC = [] := hs
  subst hs0
  cases hr
  simp only [Bool.and_eq_true, decide_eq_true_eq] at hrm
  obtain ⟨⟨⟨m1, m2⟩, m3⟩, m4⟩ := hrm
  rw [Bool.and_eq_true, List.all_eq_true] at hfit
  rw [qz_FQ_thr h99]
  intro T hT X
  subst hT
  have X' := qz_root X (by omega) (by omega)
  have hWs : s.WarmedH ({ s with heap := T.heap, slotsUsed := T.slotsUsed } : State).vm := State.WarmedH.refl s
  have hE := qz_E_at (U := ({ s with heap := T.heap, slotsUsed := T.slotsUsed } : State)) h9 hS rfl hWs
  have hts : ∀ w ∈ kz_TT, w.before args ({ s with heap := T.heap, slotsUsed := T.slotsUsed } : State) = true := fun w hw => word_at hWs (kz_TTok w hw) (h8 w hw)
  have hat : ∀ w ∈ Bundle.ownAtoms Y.1.cls i3 cls names, w.before args ({ s with heap := T.heap, slotsUsed := T.slotsUsed } : State) = true := by
    intro w hw
    rcases hoa w hw with z | z | ⟨q, hq, z | z⟩
    · exact hts w z
    · exact va_Nw.use (qz_nst_tab (kz_NTok w z)) (hE.2.2.1.1 w z)
    · rw [z]; exact (hE.2.2.2.2.1.2 q hq).ref
    · rw [z]; exact (hE.2.2.2.2.1.2 q hq).lays
  have hvm : ({ s with heap := T.heap, slotsUsed := T.slotsUsed } : State).vm = s.vm := rfl
  have hhp : ({ s with heap := T.heap, slotsUsed := T.slotsUsed } : State).heap = T.heap := rfl
  generalize hs' : ({ s with heap := T.heap, slotsUsed := T.slotsUsed } : State) = s' at X' hWs hE hts hat hvm hhp
  have hout : ∀ x ∈ c.exceptionTable.toList, ∀ n, covers x n = false := by
    obtain ⟨meth', c', g1, g2, -, -, -, -, g3, -⟩ := Cond.code_spec h6.2 (h8 _ hcd)
    cases X.method.symm.trans g1
    cases X.code.symm.trans g2
    intro x hx
    have : c.exceptionTable = #[] := by simpa using g3
    rw [this] at hx
    cases hx
  have htr : e.platform.stackTraces = false := h5.2 e X.admits
  have hsz : lsC.size = c.maxLocals := by obtain ⟨lv, g1, -⟩ := hl; rw [h3]; exact g1.1
  have h7' : s'.vm.findClass Y.1.cls = some m.cls := by rw [hvm]; exact h7
  obtain ⟨cC, hfc⟩ : ∃ cC, s'.vm.findClass cls = some cC := by
    obtain ⟨cC, kC, g1, -⟩ := Cond.instantiable_spec (hts _ hnw.2.1)
    exact ⟨cC, g1⟩
  have hZ := hE.2.2.2.2.1.1 _ hss
  have w : W p l e { Y.2.2.2.2.2 with cells := Y.2.2.2.2.2.cells - cs, slots := Y.2.2.2.2.2.slots - sl } s' m args below meth c T.heap [] 0 0 (fun t => ∃ o, t.status = .running ∧ Ended t below o ∧ qz_ET D dA B0 hc h0 s Y.2.2.2.2.2.cells Y.2.2.2.2.2.slots (k, qz_th h) o t) (F0 m pc lsC []) := by
    refine W.newcK h1 h2 h7' (hts _ hnw.1) (hts _ hnw.2.1) (hts _ hnw.2.2) rfl hca.1 (by show 0 + 1 ≤ _ - cs; omega) (by show 0 + 6 ≤ _ - sl; omega) hfc rfl fun H1 kC hkC e1 e2 e3 => ?_
    refine lv_dup h1 h2 hca.2.1 rfl ?_
    refine va_ldcS h1 h2 h7' hZ hca.2.2.1 ?_
    intro T2 hT2 X2
    subst hT2
    obtain ⟨U, st, run, ended, hWU, hsame, ce, hce, OC⟩ := X2.ctorThrowS h1 htr h7' hfit.1 hfit.2 hat (fun _ q => by cases q) hfc hkC e1 (by rw [hhp]; exact Nat.le_refl _) (msg := .ref (qz_ad hc x)) rfl (g := F0 m (pc + 3 + 1 + 2) lsC [.ref (qz_ad hc x), .ref T.heap.size, .ref T.heap.size]) rfl hsz rfl rfl (rest := []) rfl (by rw [h2]; exact hca.2.2.2.1) (by rw [h2]; exact hca.2.2.2.2.1) (fun x hx => hout x hx _) m1 (by simp [JFrame.monitorRoom, F0, Value.category]; omega) h5.1
    obtain ⟨s1, s2, s3, s4, s5, s6⟩ := hsame
    subst hs'
    have hUz : U.heap.size = T.heap.size + 1 := by
      have a1 : T.heap.size ≤ U.heap.size := s2
      have a2 : U.heap.size ≤ T.heap.size + (0 + 1) := s3
      have a3 : T.heap.size < U.heap.size := (Array.getElem?_eq_some_iff.mp hce).1
      omega
    have hUq : ∀ q, q < T.heap.size → U.heap[q]? = T.heap[q]? := by
      intro q hq
      have g0 : T.heap[q]? = some T.heap[q] := Array.getElem?_eq_getElem hq
      obtain ⟨c', g1, g2, g3, g4⟩ := s6 q T.heap[q] g0
      have g1 : U.heap[q]? = some c' := g1
      rw [g1, g0]
      congr 1
      rw [g2]
      have : c'.slots = T.heap[q].slots := Array.ext_getElem? fun i => g4 i (by simp)
      rw [this]
    refine ⟨U, st, .threw T.heap.size, run, ended, ⟨T.heap.size, rfl, ce, hce, by rw [hex]; exact OC.cls, OC.vm, OC.self⟩, hWU, ?_, ?_, ?_⟩
    · refine ⟨locs, ?_, hS.2.2⟩
      have q1 : s.sameButNew (T.setVm s.vm) locs cs sl := X.same
      have q2 : (T.setVm s.vm).sameButNew ({ U with vm := s.vm } : State) [] (0 + 1) (0 + 6) := by
        refine ⟨?_, s2, s3, s4, s5, s6⟩
        have q0 : T.setVm s.vm = ({ s.setFrames T.frames with heap := T.heap, slotsUsed := T.slotsUsed } : State) := q1.1
        have q9 : ∀ fr, (T.setVm s.vm).setFrames fr = ({ s.setFrames fr with heap := T.heap, slotsUsed := T.slotsUsed } : State) := by
          intro fr
          rw [q0]
          show ({ (s.setFrames T.frames).setFrames fr with heap := T.heap, slotsUsed := T.slotsUsed } : State) = _
          rw [State.setFrames_setFrames]
        rw [q9]
        exact s1
      have q3 := q1.trans q2
      rw [List.append_nil] at q3
      exact q3.mono (by omega) (by omega)
    · exact (qz_W_th hW hUz hUq).moved hWU.alike
    · refine ⟨by rw [hUz]; exact Nat.le_trans hS.1 (by omega), fun q g1 g2 => ?_⟩
      rw [hUq q (Nat.lt_of_lt_of_le g1 hS.1)]
      exact hS.2.1 q g1 g2
  exact w T rfl X'
end QT
