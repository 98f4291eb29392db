def R_law : String := "StackAssemblerLaw"
def lw_P (b : Addr) (xs : List Int32) (args : Array Value) (s : State) : Prop := args = #[.ref b] ∧ s.IntsAt b xs ∧ xs.length ≤ 1536 ∧ (Jvm.Cond.and given_1 narrow_1).before args s = true
def lw_Q (_ : Array Value) (s : State) (o : Outcome) (t : State) : Prop := o = .returned (some (.int 1)) ∧ Framed s o t [] 601024 7293034
def lw_Z (below : List Frame) (a : Array Value) (s : State) : State → Prop := fun t => ∃ o, t.status = .running ∧ Ended t below o ∧ lw_Q a s o t
/-- new cells alone are named: nothing is -/
theorem qz_new_only {s t : State} {L : List Loc} {k n : Nat} (h : s.sameButNew t L k n) (hL : ∀ q ∈ L, s.heap.size ≤ q.base) : s.sameButNew t [] k n := by
  obtain ⟨h1, h2, h3, h4, h5, h6⟩ := h
  refine ⟨h1, h2, h3, h4, h5, fun a c ha => ?_⟩
  obtain ⟨c', g1, g2, g3, g4⟩ := h6 a c ha
  refine ⟨c', g1, g2, g3, fun i _ => g4 i fun hm => ?_⟩
  have z1 := hL _ hm
  have z2 := (Array.getElem?_eq_some_iff.mp ha).1
  simp only at z1
  omega
/-- from the world at the law's entry, and the answer of the function that the law is, to the law's end -/
theorem qz_begin {p : Program} {l : Launch} {e : Env} {s : State} {m : MethodId} {below : List Frame} {meth : Method} {c : Code} {b : Nat} {D : va_G} {dA : Nat → ClassId} {hc h' : qz_H} (hnt : qz_nt l)
    (b1 : p.tables.exec = Jvm.exec) (b2 : c.code = code) (b3 : c.maxLocals = 7) (b4 : meth.sig.returnType = ret) (b5 : meth.locks = false) (b6 : s.methodNamed? x = some m) (b7 : s.vm.method? m = some meth) (b8 : ∀ w ∈ kz_TT, w.before #[Value.ref b] s = true)
    (hE : qz_E D dA s.heap.size hc s) (hW : qz_W D dA s.heap.size hc hc s hc s.heap) (hb : qz_ad hc (-34) = b) (hk : qz_ok hc 40 (-34)) (hp : fn_Law_law (-34) hc = some (1, h')) :
    W p l e room_1 s m #[Value.ref b] below meth c s.heap [] 0 0 (lw_Z below #[Value.ref b] s) (entryFrame m ([Value.ref b] : List Value).toArray 7) := by
  have hv : qz_cv hc (qz_r false 40 (-34)) = Value.ref b := by rw [← hb]; rfl
  have hvs : ∀ v ∈ [qz_r false 40 (-34)], qz_vo hc v := by
    intro v hv
    rcases List.mem_cons.mp hv with z | z
    · rw [z]; exact Or.inr hk
    · cases z
  have w := qz_ent (Y := yd_Law_law) (is := bk_Law_law_0) (vs := [qz_r false 40 (-34)]) (ls := [qz_r false 40 (-34), qz_u, qz_u, qz_u, qz_u, qz_u, qz_u]) (h := hc) (t := fn_Law_law (-34) hc) ca_Law_law_0 rfl rfl (fun G => jl_Law_law G (-34) hc) hp hnt (D := D) (dA := dA) (B0 := s.heap.size) (hc := hc) (p := p) (e := e) (s := s) (m := m) (args := #[Value.ref b]) (below := below) (meth := meth) (c := c) b1 b2 b3 b4 b5 b6 b7 b8
    ⟨by rw [List.map_cons, hv]; rfl, hvs, hW, hE⟩
  intro T hT X
  obtain ⟨t, a1, q⟩ := w T hT X
  rw [qz_FQ_ret (by decide)] at q
  obtain ⟨o, q1, q2, ⟨⟨q3, -⟩, L, ⟨f1, f2, f3⟩, hL⟩⟩ := q
  refine ⟨t, a1, o, q1, q2, ?_, f1, f2, qz_new_only f3 hL⟩
  have : qz_rv yd_Law_law (1, h') = some (.int 1) := rfl
  rw [← this]
  exact q3.1
