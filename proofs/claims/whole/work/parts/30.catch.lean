/-- one entry of a table whose class links -/
theorem qz_go1 {Q : Handler → Pre} {E : CtlPost} {e : Env} {d : Bool} {acts : List Action} {s : State} {f : JFrame} {a : Addr} {y : ExceptionTableEntry} {t : List ExceptionTableEntry} {vm : Vm} {cy : ClassId} {cell : Cell} (hy : covers y f.pc = true) (h0 : y.catchType ≠ 0) (hl : vm.ClassLinks e.platform f.method.cls y.catchType cy) (hcell : s.heap[a]? = some cell) (hobj : ∀ k, cell.vm ≠ .statics k) (hk : ∃ k, vm.classes[cell.cls]? = some k) (hc : ∃ k, vm.classes[cy]? = some k) :
    wp (findHandler.go f a (y :: t)) Q E e d acts (s.setVm vm) ↔ if vm.assignable cell.cls cy = true then Q (.found y.handlerPc) d acts (s.setVm (vm.noted f.method.cls y.catchType (.cls cy))) else wp (findHandler.go f a t) Q E e d acts (s.setVm (vm.noted f.method.cls y.catchType (.cls cy))) := by
  simp only [covers] at hy
  obtain ⟨g1, g2⟩ := (resolveClass_links e.toSetting hl).op (op := VmOp.resolveClass f.method.cls y.catchType) rfl
  have al : vm.Alike (vm.noted f.method.cls y.catchType (.cls cy)) := (Vm.Alike.refl vm).noted _ _ _
  obtain ⟨k1, hk1⟩ := hk
  obtain ⟨k2, hk2⟩ := hc
  obtain ⟨k1', b1, -⟩ := al.2.2 _ _ hk1
  obtain ⟨k2', b2, -⟩ := al.2.2 _ _ hk2
  have as := al.assignable cell.cls cy
  have hv : (s.setVm vm).vm = vm := rfl
  have hh : (s.setVm vm).heap[a]? = some cell := hcell
  have ss : ∀ v, (s.setVm vm).setVm v = s.setVm v := fun _ => rfl
  cases hfit : vm.assignable cell.cls cy <;> rw [hfit] at as <;> simp [findHandler.go, hy, h0, g1, g2, hcell, hobj, b1, b2, as, ss, VmOp.dirties, VmOp.acts]
/-- the search: entries passed, then one that catches -/
theorem qz_go {e : Env} {s0 s : State} {f : JFrame} {a : Addr} {cell : Cell} (hcell : s.heap[a]? = some cell) (hobj : ∀ k, cell.vm ≠ .statics k) (hk : ∃ k, s0.vm.classes[cell.cls]? = some k) {x : ExceptionTableEntry} {rest : List ExceptionTableEntry} {cx : ClassId} (hx : covers x f.pc = true) (h0 : x.catchType ≠ 0) (hl : s0.vm.ClassLinks e.platform f.method.cls x.catchType cx) (hkx : ∃ k, s0.vm.classes[cx]? = some k) (hfit : s0.vm.assignable cell.cls cx = true) :
    ∀ (pre : List ExceptionTableEntry), (∀ y ∈ pre, covers y f.pc = true ∧ y.catchType ≠ 0 ∧ ∃ cy, s0.vm.ClassLinks e.platform f.method.cls y.catchType cy ∧ (∃ k, s0.vm.classes[cy]? = some k) ∧ s0.vm.assignable cell.cls cy = false) → ∀ vm, s0.WarmedH vm →
      ∃ vm', s0.WarmedH vm' ∧ ∀ (Q : Handler → Pre) (E : CtlPost) (d : Bool) (acts : List Action), wp (findHandler.go f a (pre ++ x :: rest)) Q E e d acts (s.setVm vm) ↔ Q (.found x.handlerPc) d acts (s.setVm vm')
  | [], _, v0, hW => by
    have hkv : ∃ k, v0.classes[cell.cls]? = some k := by obtain ⟨k, q⟩ := hk; obtain ⟨k', q', -⟩ := hW.alike.2.2 _ _ q; exact ⟨k', q'⟩
    have hkw : ∃ k, v0.classes[cx]? = some k := by obtain ⟨k, q⟩ := hkx; obtain ⟨k', q', -⟩ := hW.alike.2.2 _ _ q; exact ⟨k', q'⟩
    refine ⟨_, (State.classEntry (e := e) hW hl).2.1, fun Q E d acts => ?_⟩
    rw [List.nil_append, qz_go1 hx h0 (hW.classLinks hl) hcell hobj hkv hkw, if_pos (by rw [hW.alike.assignable]; exact hfit)]
  | y :: pre, hp, v0, hW => by
    obtain ⟨hy, y0, cy, yl, yk, yf⟩ := hp y List.mem_cons_self
    have hkv : ∃ k, v0.classes[cell.cls]? = some k := by obtain ⟨k, q⟩ := hk; obtain ⟨k', q', -⟩ := hW.alike.2.2 _ _ q; exact ⟨k', q'⟩
    have hkw : ∃ k, v0.classes[cy]? = some k := by obtain ⟨k, q⟩ := yk; obtain ⟨k', q', -⟩ := hW.alike.2.2 _ _ q; exact ⟨k', q'⟩
    obtain ⟨vm', w', hq⟩ := qz_go hcell hobj hk hx h0 hl hkx hfit (rest := rest) pre (fun z hz => hp z (List.mem_cons_of_mem _ hz)) _ (State.classEntry (e := e) hW yl).2.1
    refine ⟨vm', w', fun Q E d acts => ?_⟩
    rw [List.cons_append, qz_go1 hy y0 (hW.classLinks yl) hcell hobj hkv hkw, if_neg (by rw [hW.alike.assignable, yf]; decide)]
    exact hq Q E d acts
/-- the step that catches, where the search warms the tables -/
theorem qz_caught {tb : Tables} {e : Env} {s target : State} {g : JFrame} {c : Code} {below : List Frame} {a : Addr} (h : At s g.method c below) {pc : Nat} {vm' : Vm}
    (hfind : ∀ (Q : Handler → Pre) (E : CtlPost) (d : Bool) (acts : List Action), wp (findHandler g a) Q E e d acts ((s.setTop g).pushFrame (.throwing a)) ↔ Q (.found pc) d acts (((s.setTop g).pushFrame (.throwing a)).setVm vm'))
    (hrest : Steps tb e below ((s.setVm vm').setTop { g with pc := pc, stack := [.ref a] }) target) : Steps tb e below ((s.setTop g).pushFrame (.throwing a)) target := by
  obtain ⟨hgo, hw⟩ := h.throwing a
  refine Steps.head hgo hw ?_
  have q : (stepThrowing e ((s.setTop g).pushFrame (.throwing a)) a (.java g :: s.frames.tail)).Is ((((s.setTop g).pushFrame (.throwing a)).setVm vm').setFrames (.java { g with pc := pc, stack := [.ref a] } :: s.frames.tail)) [] := by
    simp only [stepThrowing, searchFrame, vmDo]
    generalize hr : Sem.go _ e false [] _ = res
    obtain ⟨as, rfl, ha⟩ := Sem.eq_ok_of hr (a := Handler.found pc) (s' := ((s.setTop g).pushFrame (.throwing a)).setVm vm') (acts' := []) (by simp [hfind _ _ _ _])
    exact ⟨rfl, ha⟩
  rw [stepThread_throwing (frames_entered h.top _), q.1]
  obtain ⟨g₀, hg⟩ := Option.isSome_iff_exists.mp h.top
  obtain ⟨r, hr⟩ := State.topJava?_eq_some.mp hg
  have hr' : (s.setVm vm').frames = .java g₀ :: r := hr
  rw [State.setTop_of_frames _ hr'] at hrest
  have e1 : ∀ (u : State) (F F2 : List Frame), ((u.setFrames F).setVm vm').setFrames F2 = (u.setVm vm').setFrames F2 := by
    intro u F F2
    show ((u.setVm vm').setFrames F).setFrames F2 = _
    rw [State.setFrames_setFrames]
  rw [State.pushFrame, e1, State.setTop_of_frames _ hr, e1, hr]
  exact hrest
section QK
variable {Y Y2 : qz_Y} {G : qz_G} {is is2 : List (Instr × Nat)} {pc : Nat} {ls st : List qz_V} {h : qz_H} {cs sl : Nat} {t : Option qz_R}
theorem qz_catch {idx n hp ct a0 b0 : Nat} {k0 : Nat} {x k : Int} {h2 : qz_H} {pre post : List (Nat × Nat × Nat × Nat)} (as : List qz_V) {stk : List qz_V} (hst : stk = as.reverse ++ qz_r true k0 x :: st) (hm : qz_CT Y2 (qz_r true k0 x :: as) h (some (k, h2))) (hw : qz_mw Y2 n) (hv : qz_vw Y2) (hk0 : ∃ q : vw_C, kz_cl[k0]? = some q ∧ Y2.1.cls = q.1 ∧ k0 < 40) (hn : ((as.length == n) && (qz_sz st).ble 8) = true) (hrm : qz_rm Y Y2 cs sl = true) (hln : Cond.methodLink Y.1.cls idx Y2.1 ∈ kz_TT)
    (hcd : Cond.codeWith Y.1 Y.2.1 Y.2.2.1 Y.2.2.2.1 (pre ++ (a0, b0, hp, ct) :: post) ∈ kz_TT) (hcv : a0 ≤ pc ∧ pc < b0 ∧ ct ≠ 0 ∧ Cond.classLink Y.1.cls ct (kz_ex k) ∈ kz_TT)
    (hpr : ∀ q ∈ pre, q.1 ≤ pc ∧ pc < q.2.1 ∧ q.2.2.2 ≠ 0 ∧ ∃ nm, Cond.classLink Y.1.cls q.2.2.2 nm ∈ kz_TT ∧ (kz_ex k, nm) ∈ kz_nc) (hca2 : qz_ca Y.2.1 hp is2)
    (kk : ∀ o, qz_J Y G is2 hp ls [qz_o o] h2 (cs + Y2.2.2.2.2.2.cells) (sl + Y2.2.2.2.2.2.slots) t) : qz_J Y G ((.invokevirtual idx, 3) :: is) pc ls stk h cs sl t := by
  obtain ⟨p, l, e, s, m, args, below, meth, c, D, dA, B0, hc, h0⟩ := G
  intro r hr hx lsC stC H locs hca hl hs hW hS
  obtain ⟨h1, hb, h3, h4, h5, h6, h7, h8, h9⟩ := id hx
  subst hst
  obtain ⟨r1, q1, v1, hs2⟩ := qz_sr_app _ _ _ hs
  clear hs
  obtain ⟨r2, q2, v2, hs⟩ := hs2
  have hok := qz_vot v2
  rw [qz_cvr (qz_ok_ne hok)] at q2
  subst q2
  subst q1
  obtain ⟨m1, m2, m3, m4⟩ := hw
  obtain ⟨⟨rm1, rm2⟩, rm3, rm4⟩ := qz_rm_ok hrm
  simp only [Bool.and_eq_true, beq_iff_eq] at hn
  have hroom : 2 * (F0 m pc lsC ([] : List Value)).monitorRoom + (r2.map fun v => v.category).sum ≤ 8 := lv_room (Nat.le_trans (qz_sz_ok _ _ hs) (Nat.le_of_ble_eq_true hn.2))
  have hsize : lsC.size = c.maxLocals := by obtain ⟨lv, g1, -⟩ := hl; rw [h3]; exact g1.1
  have hvo : ∀ v ∈ as, qz_vo h v := fun v hv => v1 v (List.mem_reverse.mpr hv)
  have htt : ∀ w ∈ kz_TT, w.before args s = true := h8
  have hstk : as.reverse.map (qz_cv h) = (as.map (qz_cv h)).reverse := List.map_reverse
  rw [hstk]
  obtain ⟨qc, k1', k2', k3'⟩ := hk0
  obtain ⟨⟨cellB, c1, c2, c3, c4, -⟩, -⟩ := (hW.2.1 x k0 hok).1 k3'
  have hclsB : s.vm.findClass Y2.1.cls = some cellB.cls := by rw [c2, k2']; exact (h9.2.1.1 k0 qc k1').2.1
  have hM := hm (k, h2) rfl l h5.2 D dA B0 hc
  intro T hT X
  subst hT
  obtain ⟨mk, methM, hnamed, hmethM, hstM, habM⟩ := Cond.instanceMethod_spec (htt _ hv.1)
  obtain ⟨methM', cM, hmethM', hcM, -, hlM, -, -, -, hsigM⟩ := Cond.code_spec hnamed (htt _ m1)
  cases hmethM.symm.trans hmethM'
  obtain ⟨c9, r9, m9, u1, u2, u3, u4, kP, hkP, hkPi⟩ := Cond.selects_spec (htt _ hv.2)
  cases hclsB.symm.trans u1
  cases (State.methodFound?_of_named hnamed ⟨m3.1, m3.2.1⟩).symm.trans u2
  cases hnamed.symm.trans u3
  have hselP : selectMethod e.platform s.vm cellB.cls mk = .method mk := by rw [Launch.admits_selectMethod X.admits]; exact u4
  have hlenS : (as.map (qz_cv h)).length = methM.sig.parameters.length := by
    have z := m3.2.2
    rw [hsigM] at z
    rw [List.length_map, hn.1]
    exact (Option.some.inj z).symm
  obtain ⟨vm₁, X₁, hstep₁⟩ := X.invokevirtual h1 h7 (htt _ hln) hnamed hmethM hstM hkP hkPi ⟨m3.1, m3.2.1⟩ (a := qz_ad h x) (cell := cellB) c1
    (fun z hz => by rw [hz] at c4; cases c4) hselP hmethM habM hkP hkPi (g := F0 m pc lsC ((as.map (qz_cv h)).reverse ++ .ref (qz_ad h x) :: r2)) rfl (argsL := as.map (qz_cv h)) (rest := r2) hlenS rfl (by rw [hb]; exact hca.1)
  have hdg1 : decode c.code (F0 m pc lsC r2).pc = .ok (.invokevirtual idx, 3) := by rw [hb]; exact hca.1
  have hat : At (T.setVm vm₁) (F0 m pc lsC r2).method c below := X₁.here
  have al1 : s.vm.Alike vm₁ := X₁.warmed.alike
  obtain ⟨kP1, hkP1, eP1⟩ := al1.2.2 _ _ hkP
  have hinit : kP1.init = .initialized := by
    have z : (Cond.initialized Y2.1.cls).before args (T.setVm vm₁) = true := word_at (U := T.setVm vm₁) X₁.warmed (kz_TTok _ m2) (htt _ m2)
    exact Cond.initialized_spec (findClass_of_methodNamed (X₁.named hnamed)) hkP1 z
  have happ : (headSpec (qz_ws Y2) Y2.2.2.2.2.2).appliesLoose Y2.1 e.platform ((T.setVm vm₁).calling (F0 m pc lsC r2) mk (Value.ref (qz_ad h x) :: as.map (qz_cv h)).toArray) = true :=
    Spec.appliesLoose_calling (g := F0 m pc lsC r2) hat hdg1 (X₁.named hnamed) hkP1 hinit
      (X₁.room_calling (g := F0 m pc lsC r2) (R' := Y2.2.2.2.2.2) hsize (by show vm₁.method? mk = _; rw [al1.method?]; exact hmethM) hcM rm1 (by rw [hlM]; have := hroom; simp only [F0] at this ⊢; omega) rm3 rm4)
      (atoms_intro fun w hw => by
        obtain ⟨g1, g2⟩ := qz_good m1 w hw
        exact word_at (U := T.setVm vm₁) X₁.warmed g2 (htt _ g1))
  obtain ⟨mid, hmid⟩ := hat.above
  have hfr : ((T.setVm vm₁).setTop (F0 m pc lsC r2)).frames = (.java (F0 m pc lsC r2) :: mid) ++ below := by rw [State.frames_setTop' _ hat.top, hmid]; rfl
  have hPc : qz_P D dA B0 hc (qz_r true k0 x :: as) h (Value.ref (qz_ad h x) :: as.map (qz_cv h)).toArray (T.setVm vm₁) := by
    refine ⟨by rw [List.map_cons, qz_cvr (qz_ok_ne hok)], ?_, ?_, qz_E_at h9 hS rfl X₁.warmed⟩
    · intro v hv
      rcases List.mem_cons.mp hv with z | z
      · rw [z]; exact v2
      · exact hvo v z
    · exact (hW.moved al1).re (qz_ex.rf h)
  obtain ⟨o, s₂, hsteps, -, hend, hq⟩ := Steps.callFree hM p X.admits X.cas X.clock (acts := []) hfr happ (qz_blind _ _ _ _ hPc) trivial
  rw [State.frames_setTop' _ hat.top] at hend
  obtain ⟨⟨ax, rfl, ce, g1, g2, g3, g4⟩, hWm, ⟨L, hsame, hL⟩, hw2, hz, hkp⟩ := hq
  have hend' : Ended s₂ (.java (F0 m pc lsC r2) :: below) (.threw ax) := by rw [X₁.tail] at hend; exact hend
  obtain ⟨T', X', hW', hsm, ht⟩ := X₁.outOfThrown (g := F0 m pc lsC r2) rfl hend' hWm hsame
  have hT'h : T'.heap = s₂.heap := by rw [ht, Stand.throwing_heap]
  have hT'v : T'.vm = s₂.vm := by rw [ht, Stand.throwing_vm]
  have g2' : s.vm.findClass (kz_ex k) = some ce.cls := by rw [← al1.findClass]; exact g2
  have hkc : ∃ kk, s.vm.classes[ce.cls]? = some kk := Vm.classAt_of_findClass g2'
  have hpl : e.platform.magicAccessors = ({} : Platform).magicAccessors := by rw [X.admits.platform]
  obtain ⟨cx, f1, f2⟩ := Cond.classLink_spec h7 (htt _ hcv.2.2.2) e.platform hpl
  cases f1.symm.trans g2'
  obtain ⟨m8, meth8, c8, n1, n2, n3, -, -, n4, -⟩ := Cond.codeWith_spec (htt _ hcd)
  cases h6.2.symm.trans n1
  cases X.method.symm.trans n2
  cases X.code.symm.trans n3
  obtain ⟨es1, es2, ee, ep1, ep2⟩ := List.map_eq_append_iff.mp n4
  obtain ⟨ex, es3, ee2, ep3, ep4⟩ := List.map_eq_cons_iff.mp ep2
  subst ee2
  simp only [Prod.mk.injEq] at ep3
  obtain ⟨t1, t2, t3, t4⟩ := ep3
  have hself : s.vm.assignable ce.cls ce.cls = true := by rw [← al1.assignable]; exact g4
  obtain ⟨vm₂, hW2, hfind⟩ := qz_go (e := e) (s0 := s) (s := ((T'.setTop (F0 m pc lsC r2)).pushFrame (.throwing ax))) (f := F0 m pc lsC r2) (a := ax) (cell := ce) (by rw [Stand.throwing_heap, hT'h]; exact g1) (fun z hz => by rw [hz] at g3; cases g3) hkc (x := ex) (rest := es3) (cx := ce.cls)
    (by simp only [covers, t1, t2, Bool.and_eq_true, decide_eq_true_eq]; exact ⟨hcv.1, hcv.2.1⟩) (by rw [t4]; exact hcv.2.2.1) (by rw [t4]; exact f2) hkc hself es1
    (fun y hy => by
      have hy2 : (y.startPc, y.endPc, y.handlerPc, y.catchType) ∈ pre := by rw [← ep1]; exact List.mem_map.mpr ⟨y, hy, rfl⟩
      obtain ⟨p1, p2, p3, nm, p4, p5⟩ := hpr _ hy2
      obtain ⟨cy, y1, y2⟩ := Cond.classLink_spec h7 (htt _ p4) e.platform hpl
      obtain ⟨i9, j9, z1, z2, z3⟩ := h9.2.2.1.2.1.2 _ p5
      cases z1.symm.trans g2'
      cases z2.symm.trans y1
      exact ⟨by simp only [covers, Bool.and_eq_true, decide_eq_true_eq]; exact ⟨p1, p2⟩, p3, cy, y2, Vm.classAt_of_findClass y1, z3⟩)
    T'.vm X'.warmed
  have hsv : ((T'.setTop (F0 m pc lsC r2)).pushFrame (.throwing ax)).setVm T'.vm = (T'.setTop (F0 m pc lsC r2)).pushFrame (.throwing ax) := by
    rw [← Stand.throwing_vm T' (F0 m pc lsC r2) ax]
    rfl
  rw [hsv] at hfind
  have X2 : Stand p l e Y.2.2.2.2.2 s m args below meth c (T'.setVm vm₂) (locs ++ L) (cs + Y2.2.2.2.2.2.cells) (sl + Y2.2.2.2.2.2.slots) :=
    ⟨X'.admits, X'.cas, X'.clock, X'.frames, X'.room, X'.hears, X'.method, X'.code, X'.here.setVm (X'.warmed.alike.symm.trans hW2.alike), X'.tail, hW2, X'.limits, X'.bytes, X'.same⟩
  have hwx := hw2.2.2.2.2.2.2
  have hal : s.vm.Alike s₂.vm := by rw [← hT'v]; exact X'.warmed.alike
  have hwS : qz_W D dA B0 hc h0 s h2 s₂.heap := (hw2.moved hal.symm).re (hW.2.2.2.2.2.2.tr hwx)
  have hSS : va_S (qz_A B0) s.heap s₂.heap (locs ++ L) := ⟨Nat.le_trans hS.1 hz, fun q b1 b2 => by rw [hkp q (Nat.lt_of_lt_of_le b1 hS.1) b2]; exact hS.2.1 q b1 b2, fun q hq => by
    rcases List.mem_append.mp hq with z | z
    · exact hS.2.2 q z
    · exact hL q z⟩
  obtain ⟨t2, a1, b1⟩ := kk (some ax) r hr hx lsC [.ref ax] s₂.heap (locs ++ L) hca2 (hwx.lr hl) ⟨[], rfl, trivial, rfl⟩ hwS hSS (T'.setVm vm₂) hT'h X2
  refine ⟨t2, hstep₁ _ fun acts => ?_, b1⟩
  rw [doInvoke_state]
  refine hsteps.trans ?_
  rw [ht]
  refine qz_caught (c := c) (by exact X'.here) (pc := hp) (vm' := vm₂) (fun Q E d acts => ?_) a1
  rw [W.findHandler_eq (meth := meth) (code := c) (by rw [Stand.throwing_vm]; show T'.vm.method? m = _; rw [X'.warmed.alike.method?]; exact X.method) X.code, ee, ← t3]
  exact hfind Q E d acts
/-- store what is no number -/
theorem qz_astore_nO {q : Fin 4} {o : Option Nat} (hn : (q : Nat) < Y.2.2.1) (k : qz_J Y G is (pc + 1) (qz_st (q : Nat) (qz_o o) ls) st h cs sl t) : qz_J Y G ((.astore_n q, 1) :: is) pc ls (qz_o o :: st) h cs sl t := by
  obtain ⟨p, l, e, s, m, args, below, meth, c, D, dA, B0, hc, h0⟩ := G
  intro r hr hx lsC stC H locs hca hl hs hW hS
  obtain ⟨h1, h2, h3, h4, h5, h6, h7, h8, h9⟩ := id hx
  obtain ⟨r1, rfl, ha, hs⟩ := hs
  obtain ⟨lv, g1, g2⟩ := hl
  have fin := fun ls' g3 => k r hr hx ls' _ H locs hca.2 (qz_lr_st1 (v := qz_o o) (a := lsC) g2 ha rfl g3) hs hW hS
  have e9 : qz_cv h (qz_o o) = va_rf o := rfl
  rw [e9] at fin
  show W p l e Y.2.2.2.2.2 s m args below meth c H locs cs sl _ (F0 m pc lsC (va_rf o :: r1))
  cases o with
  | none => exact lv_astore_nN h1 h2 hca.1 rfl g1 hn rfl fin
  | some a => exact lv_astore_n h1 h2 hca.1 rfl g1 hn rfl fin
end QK
/-- the contract of a method with a table of handlers -/
def qz_CW (hh : List (Nat × Nat × Nat × Nat)) (Y : qz_Y) (vs : List qz_V) (h : qz_H) (t : Option qz_R) : Prop := ∀ r, t = some r → ∀ (l : Launch), qz_nt l → ∀ (D : va_G) (dA : Nat → ClassId) (B0 : Nat) (hc : qz_H), Met l Y.1 (Cond.codeWith Y.1 Y.2.1 Y.2.2.1 Y.2.2.2.1 hh :: kz_TT) Y.2.2.2.2.2 (qz_P D dA B0 hc vs h) (qz_Q Y D dA B0 hc h r) Y.2.2.2.2.2.cells Y.2.2.2.2.2.slots (qz_A B0)
section QW
variable {Y Y2 : qz_Y} {G : qz_G} {is : List (Instr × Nat)} {pc : Nat} {ls st : List qz_V} {h : qz_H} {cs sl : Nat} {t : Option qz_R}
theorem qz_conW {hh : List (Nat × Nat × Nat × Nat)} {vs ls : List qz_V} (hpn : plainName Y.1.cls = true) (hca : qz_ca Y.2.1 0 is) (hls : qz_en vs Y.2.2.1 = ls) (hlen : decide ((vs.flatMap fun v => if qz_lg v = true then [v, qz_u] else [v]).length ≤ Y.2.2.1) = true) (h99 : (Y.2.2.2.2.1 == 99) = false) (k : ∀ G, qz_J Y G is 0 ls [] h 0 0 t) : qz_CW hh Y vs h t := by
  intro r hr l hnt D dA B0 hc
  refine va_MetW (cc := Y.2.1) (maxL := Y.2.2.1) (ret := Y.2.2.2.1) (hh := hh) hpn rfl ?_
  intro p e s m args below meth c s₁ B hml hv
  rw [← qz_FQ_ret (by simpa using h99)]
  exact qz_ent hca hls hlen k hr hnt B.exec B.bytes hml B.returns B.notSynchronized B.named B.method (fun w hw => atoms_spec (ws := Cond.codeWith Y.1 Y.2.1 Y.2.2.1 Y.2.2.2.1 hh :: kz_TT) B.pre w (List.mem_cons_of_mem _ hw)) hv
theorem qz_invsW {hh : List (Nat × Nat × Nat × Nat)} {idx n : Nat} (as : List qz_V) {stk : List qz_V} {f : Int → qz_H → Option qz_R} (hst : stk = as.reverse ++ st) (hm : qz_CW hh Y2 as h t) (hcw : Cond.codeWith Y2.1 Y2.2.1 Y2.2.2.1 Y2.2.2.2.1 hh ∈ kz_TT) (hw : Cond.initialized Y2.1.cls ∈ kz_TT ∧ (Y2.1.cls ≠ "java/lang/invoke/MethodHandle" ∧ Y2.1.cls ≠ "java/lang/invoke/VarHandle") ∧ (parseMethodDescriptor Y2.1.desc).map (fun d => d.parameters.length) = some n) (hv : Cond.static Y2.1 ∈ kz_TT) (hn : ((as.length == n) && (qz_sz st).ble 8) = true) (hrm : qz_rm Y Y2 cs sl = true) (hln : Cond.methodLink Y.1.cls idx Y2.1 ∈ kz_TT) (hR : (decide (Y2.2.2.2.2.1 < 10) && !(Y2.2.2.2.2.1 == 2) && !(Y2.2.2.2.2.1 == 0)) = true) (k : ∀ r h', qz_J Y G is (pc + 3) ls (qz_i r :: st) h' (cs + Y2.2.2.2.2.2.cells) (sl + Y2.2.2.2.2.2.slots) (f r h')) : qz_J Y G ((.invokestatic idx, 3) :: is) pc ls stk h cs sl (qz_bc t f) := by
  obtain ⟨p, l, e, s, m, args, below, meth, c, D, dA, B0, hc, h0⟩ := G
  intro r hr hx lsC stC H locs hca hl hs hW hS
  obtain ⟨h1, h2, h3, h4, h5, h6, h7, h8, h9⟩ := id hx
  subst hst
  obtain ⟨r1, q1, v1, hs2⟩ := qz_sr_app _ _ _ hs
  clear hs
  have hs := hs2
  subst q1
  obtain ⟨q, qe, q2⟩ := qz_bc_some hr
  obtain ⟨⟨rm1, rm2⟩, rm3, rm4⟩ := qz_rm_ok hrm
  simp only [Bool.and_eq_true, beq_iff_eq] at hn
  have hroom : 2 * (F0 m pc lsC ([] : List Value)).monitorRoom + (r1.map fun v => v.category).sum ≤ 8 := lv_room (Nat.le_trans (qz_sz_ok _ _ hs) (Nat.le_of_ble_eq_true hn.2))
  have hsize : lsC.size = c.maxLocals := by obtain ⟨lv, g1, -⟩ := hl; rw [h3]; exact g1.1
  have hvo : ∀ v ∈ as, qz_vo h v := fun v hv => v1 v (List.mem_reverse.mpr hv)
  have hPc : ∀ U : State, U.heap = H → s.WarmedH U.vm → qz_P D dA B0 hc (as) h (as.map (qz_cv h)).toArray U := by
    intro U hU hWm
    refine ⟨rfl, hvo, ?_, qz_E_at h9 hS hU hWm⟩
    rw [hU]
    exact (hW.moved hWm.alike).re (qz_ex.rf h)
  have hM := hm q qe l h5.2 D dA B0 hc
  have htt : ∀ w ∈ kz_TT, w.before args s = true := h8
  have hstk : as.reverse.map (qz_cv h) = (as.map (qz_cv h)).reverse := List.map_reverse
  rw [hstk]
  have fin : ∀ (H1 : Heap) (locs1 : List Loc), qz_W D dA B0 hc h0 s q.2 H1 → qz_ex h q.2 → (Y2.2.2.2.2.1 ≠ 0 → qz_rg q.2 Y2.2.2.2.2.1 q.1) → va_S (qz_A B0) s.heap H1 locs1 → W p l e Y.2.2.2.2.2 s m args below meth c H1 locs1 (cs + Y2.2.2.2.2.2.cells) (sl + Y2.2.2.2.2.2.slots) (qz_FQ Y below D dA B0 hc h0 args s r) (F0 m (pc + 3) lsC ((qz_rv Y2 q).toList ++ r1)) := by
    intro H1 locs1 w wx wr wS
    simp only [Bool.and_eq_true, decide_eq_true_eq, Bool.not_eq_true', beq_eq_false_iff_ne, ne_eq] at hR
    have e1 : qz_rv Y2 q = some (qz_cv q.2 (qz_i q.1)) := by unfold qz_rv; rw [if_neg hR.2]; unfold qz_tv; rw [if_neg hR.1.2, if_pos hR.1.1]; rfl
    rw [e1]
    exact k q.1 q.2 r q2 hx lsC _ H1 locs1 hca.2 (wx.lr hl) ⟨_, rfl, qz_rgI hR.1.1 hR.1.2 (wr hR.2), wx.sr _ _ hs⟩ w wS
  refine qz_after (mc := Y2.2.2.2.2.2.cells) (ms := Y2.2.2.2.2.2.slots) (Y2 := Y2) (r2 := q) (a := (as.map (qz_cv h)).toArray) (rest := r1) ?_ hW hS fin
  intro T hT X
  have hany : ∀ w ∈ kz_TT, ∀ (a' : Array Value) (U : State), s.WarmedH U.vm → w.before a' U = true := fun w hw a' U hU => word_at hU (kz_TTok w hw) (h8 w hw)
  have hK : Back l Y.2.2.2.2.2 p e below s args Y2.1 3 8 (PreOf Y.2.2.2.2.2 Y2.2.2.2.2.2.cells Y2.2.2.2.2.2.slots (qz_P D dA B0 hc as h)) (PostOf (qz_Q Y2 D dA B0 hc h q) Y2.2.2.2.2.2.cells Y2.2.2.2.2.2.slots (qz_A B0)) :=
    va_backW (hh := hh) (bytes := Y2.2.1) (maxL := Y2.2.2.1) (ret := Y2.2.2.2.1) hM qz_blind rfl rfl rm1 rm2 (fun w hw a' U hU => by
      rcases List.mem_cons.mp hw with z | z
      · rw [z]; exact hany _ hcw a' U hU
      · exact hany _ z a' U hU) List.mem_cons_self (fun a' U hU => hany _ hw.1 a' U hU)
  obtain ⟨mk, methM, cM, hnamed, hmethM, -, -, -, -, -, -, hsigM⟩ := Cond.codeWith_spec (htt _ hcw)
  have hstatic : methM.isStatic = true := Cond.static_spec hnamed hmethM (htt _ hv)
  obtain ⟨kP, hkP, -⟩ := className_of_methodNamed hnamed
  have hinitP : kP.init = .initialized := Cond.initialized_spec (findClass_of_methodNamed hnamed) hkP (htt _ hw.1)
  have hlenS : (as.map (qz_cv h)).length = methM.sig.parameters.length := by
    have z := hw.2.2
    rw [hsigM] at z
    rw [List.length_map, hn.1]
    exact (Option.some.inj z).symm
  obtain ⟨vm₁, X₁, hstep₁⟩ := X.invokestatic h1 h7 (htt _ hln) hnamed hmethM hstatic hkP hinitP hw.2.1 (g := F0 m pc lsC ((as.map (qz_cv h)).reverse ++ r1)) rfl (argsL := as.map (qz_cv h)) (rest := r1) hlenS rfl (by rw [h2]; exact hca.1)
  obtain ⟨v, ⟨U', l2, c2, s2⟩, X', ⟨g', mk', t', L, e1, e2, hq, z1, hL, z2, z3⟩, hsteps⟩ := hK m meth c ⟨T.setVm vm₁, locs, cs, sl⟩ (F0 m pc lsC r1) (.invokestatic idx) mk (as.map (qz_cv h)).toArray X₁ rfl hsize (by rw [h2]; exact hca.1) hroom (X₁.named hnamed) ⟨rm3, rm4, hPc (T.setVm vm₁) hT X₁.warmed⟩
  dsimp only [Pt.U, Pt.locs, Pt.cells, Pt.slots] at X' e1 e2 hq z1 z2 z3 hsteps
  subst z1; subst z2; subst z3
  exact ⟨v, _, t', U', L, hT, X', hL, e1, e2, hq, fun target hh => hstep₁ _ fun acts => by rw [doInvoke_state]; exact hsteps.trans hh⟩
end QW
