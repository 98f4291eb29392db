theorem qz_W.moved {D : va_G} {dA : Nat → ClassId} {B0 : Nat} {hc h0 h : qz_H} {u U : State} {H : Heap} (hvm : u.vm.Alike U.vm) (hW : qz_W D dA B0 hc h0 u h H) : qz_W D dA B0 hc h0 U h H := by
  obtain ⟨w1, w2, w3⟩ := hW
  refine ⟨w1, fun x k hk => ⟨(w2 x k hk).1, fun hk40 => ?_⟩, w3⟩
  obtain ⟨⟨cell, b1, b2, b3⟩, b4⟩ := (w2 x k hk).2 hk40
  exact ⟨⟨cell, b1, State.isArrayOf_alike hvm b2, b3⟩, b4⟩
theorem qz_ex.rf (h : qz_H) : qz_ex h h := fun _ _ hk => ⟨hk, rfl⟩
theorem qz_ex.tr {h h' h'' : qz_H} (a : qz_ex h h') (b : qz_ex h' h'') : qz_ex h h'' := fun k x hk => ⟨(b k x (a k x hk).1).1, (b k x (a k x hk).1).2.trans (a k x hk).2⟩
theorem qz_W.re {D : va_G} {dA : Nat → ClassId} {B0 : Nat} {hc h0 h1 h : qz_H} {U : State} {H : Heap} (hW : qz_W D dA B0 hc h0 U h H) (he : qz_ex h1 h) : qz_W D dA B0 hc h1 U h H := by
  obtain ⟨w1, w2, w3, w4, w5, w6, w7⟩ := hW
  exact ⟨w1, w2, w3, w4, w5, w6, he⟩
def qz_nst (w : Cond) : Bool := kz_isn w
theorem qz_nst_warm {w : Cond} (hw : qz_nst w = true) {s U : State} (hW : s.WarmedH U.vm) (h : va_Nw w s) : va_Nw w U := by
  cases w with
  | fieldLinkNest => exact va_Nw.warmF hW h
  | methodLinkNest => exact va_Nw.warmM hW h
  | declares => exact va_Nw.warmD hW h
  | castable a b => exact va_tabs rfl (rfl : (s.setVm U.vm).vm = U.vm) (by rw [Cond.castable_setVm hW.alike]; exact h)
  | _ => cases hw
theorem kz_NTok : ∀ w ∈ kz_NT, qz_nst w = true := by
  intro w hw
  exact (List.mem_filter.mp hw).2
theorem qz_nst_tab {w : Cond} (hw : qz_nst w = true) : w.onTables = true := by
  cases w with
  | fieldLinkNest => rfl
  | methodLinkNest => rfl
  | declares => rfl
  | castable => rfl
  | _ => cases hw
theorem qz_E_at {D : va_G} {dA : Nat → ClassId} {B0 : Nat} {hc : qz_H} {s U : State} {H : Heap} {locs : List Loc} (h9 : qz_E D dA B0 hc s) (hS : va_S (qz_A B0) s.heap H locs) (hU : U.heap = H) (hW : s.WarmedH U.vm) : qz_E D dA B0 hc U := by
  obtain ⟨e1, e2, e3, e4, e5, e6⟩ := h9
  refine ⟨by rw [hU]; exact Nat.le_trans e1 hS.1, qz_K.moved hW.alike e2, ⟨fun w hw => qz_nst_warm (kz_NTok w hw) hW (e3.1 w hw), ⟨fun C hC => va_AO.moved hW.alike (e3.2.1.1 C hC), fun q hq => (e3.2.1.2 q hq).moved hW.alike⟩, fun k hk q hq j hj => (e3.2.2 k hk q hq j hj).moved hW.alike⟩, ⟨fun q hq => ?_, fun q hq => ?_⟩, ⟨fun q hq => vk_R.warm hW (e5.1 q hq), fun q hq => ?_⟩, e6⟩
  · rw [hU]
    exact (va_Z.moved hW.alike (e4.1 q hq)).kept fun a h1 h2 => hS.2.1 a h1 h2
  · obtain ⟨o, ho⟩ := e4.2 q hq
    refine ⟨o, ?_⟩
    rw [hU]
    exact (va_Z.moved hW.alike ho).kept fun a h1 h2 => hS.2.1 a h1 h2
  · rw [hU]
    exact ((e5.2 q hq).moved hW.alike).kept fun a h1 h2 => hS.2.1 a h1 h2
theorem qz_sr_app {h : qz_H} : ∀ (a b : List qz_V) (s : List Value), qz_sr h (a ++ b) s → ∃ r, s = a.map (qz_cv h) ++ r ∧ (∀ v ∈ a, qz_vo h v) ∧ qz_sr h b r
  | [], _, s, hs => ⟨s, rfl, (fun _ q => by cases q), hs⟩
  | v :: a, b, s, hs => by
    obtain ⟨r, h1, h2, h3⟩ := hs
    obtain ⟨r2, g1, g2, g3⟩ := qz_sr_app a b r h3
    refine ⟨r2, by rw [h1, g1]; rfl, fun w hw => ?_, g3⟩
    rcases List.mem_cons.mp hw with q | q
    · rw [q]; exact h2
    · exact g2 w q
def qz_sz : List qz_V → Nat
  | [] => 0
  | v :: r => (if qz_lg v = true then 2 else 1) + qz_sz r
theorem qz_sz_ok {h : qz_H} : ∀ (st : List qz_V) (s : List Value), qz_sr h st s → (s.map fun v => v.category).sum ≤ qz_sz st
  | [], _, hs => by rw [show _ = [] from hs]; exact Nat.le_refl _
  | v :: st, _, ⟨r, h1, h2, h3⟩ => by
    have ih := qz_sz_ok st r h3
    rw [h1, List.map_cons, List.sum_cons]
    show (qz_cv h v).category + _ ≤ (if qz_lg v = true then 2 else 1) + qz_sz st
    by_cases hv : qz_lg v = true
    · rw [if_pos hv]
      rcases lv_cat (qz_cv h v) with q | q <;> omega
    · rw [if_neg hv]
      have := qz_catL h (v := v) (by simpa using hv)
      rcases lv_cat (qz_cv h v) with q | q <;> omega
/-- what a method's rows say; what a place of call says -/
def qz_mw (Y2 : qz_Y) (n : Nat) : Prop := Cond.code Y2.1 Y2.2.1 Y2.2.2.1 Y2.2.2.2.1 ∈ kz_TT ∧ Cond.initialized Y2.1.cls ∈ kz_TT ∧ (Y2.1.cls ≠ "java/lang/invoke/MethodHandle" ∧ Y2.1.cls ≠ "java/lang/invoke/VarHandle" ∧ (parseMethodDescriptor Y2.1.desc).map (fun d => d.parameters.length) = some n) ∧ plainName Y2.1.cls = true
def qz_vw (Y2 : qz_Y) : Prop := Cond.instanceMethod Y2.1 ∈ kz_TT ∧ Cond.selects Y2.1.cls Y2.1 Y2.1 ∈ kz_TT
def qz_ln (own : String) (idx : Nat) (Y2 : qz_Y) : Prop := Cond.methodLink own idx Y2.1 ∈ kz_TT ∨ ∃ host, Cond.methodLinkNest own idx Y2.1 host ∈ kz_NT
def qz_rm (Y Y2 : qz_Y) (cs sl : Nat) : Bool := decide (Y2.2.2.2.2.2.frames + 1 ≤ Y.2.2.2.2.2.frames) && decide (8 + (Y2.2.2.1 + 11) + Y2.2.2.2.2.2.locals ≤ Y.2.2.2.2.2.locals) && decide (cs + Y2.2.2.2.2.2.cells ≤ Y.2.2.2.2.2.cells) && decide (sl + Y2.2.2.2.2.2.slots ≤ Y.2.2.2.2.2.slots)
theorem qz_rm_ok {Y Y2 : qz_Y} {cs sl : Nat} (h : qz_rm Y Y2 cs sl = true) : (Y2.2.2.2.2.2.frames + 1 ≤ Y.2.2.2.2.2.frames ∧ 8 + (Y2.2.2.1 + 11) + Y2.2.2.2.2.2.locals ≤ Y.2.2.2.2.2.locals) ∧ cs + Y2.2.2.2.2.2.cells ≤ Y.2.2.2.2.2.cells ∧ sl + Y2.2.2.2.2.2.slots ≤ Y.2.2.2.2.2.slots := by
  simp only [qz_rm, Bool.and_eq_true, decide_eq_true_eq] at h
  exact ⟨⟨h.1.1.1, h.1.1.2⟩, h.1.2, h.2⟩
theorem qz_good {Y2 : qz_Y} (hc : Cond.code Y2.1 Y2.2.1 Y2.2.2.1 Y2.2.2.2.1 ∈ kz_TT) : GoodIn kz_TT (qz_ws Y2) := by
  intro w hw
  rcases List.mem_cons.mp hw with q | q
  · rw [q]; exact ⟨hc, kz_TTok _ hc⟩
  · exact ⟨q, kz_TTok _ q⟩
theorem qz_blind {D : va_G} {dA : Nat → ClassId} {B0 : Nat} {hc : qz_H} {vs : List qz_V} {h : qz_H} : FrameBlind (qz_P D dA B0 hc vs h) := by
  intro a U g mk ⟨q1, q2, q3, q4⟩
  refine ⟨q1, q2, qz_W.moved (u := U) (U := U.calling g mk a) (Vm.Alike.refl U.vm) q3, ?_⟩
  obtain ⟨e1, e2, e3, e4, e5, e6⟩ := q4
  exact ⟨e1, qz_K.moved (u := U) (U := U.calling g mk a) (Vm.Alike.refl U.vm) e2, ⟨fun w hw => va_Nw.same (u := U) (U := U.calling g mk a) (qz_nst_tab (kz_NTok w hw)) rfl (e3.1 w hw), ⟨fun C hC => va_AO.moved (u := U) (U := U.calling g mk a) (Vm.Alike.refl U.vm) (e3.2.1.1 C hC), fun q hq => (e3.2.1.2 q hq).moved (U := U.calling g mk a) (Vm.Alike.refl U.vm)⟩, fun k hk q hq j hj => (e3.2.2 k hk q hq j hj).moved (Vm.Alike.refl U.vm)⟩, ⟨fun q hq => va_Z.moved (u := U) (U := U.calling g mk a) (Vm.Alike.refl U.vm) (e4.1 q hq), fun q hq => (e4.2 q hq).elim fun o ho => ⟨o, va_Z.moved (u := U) (U := U.calling g mk a) (Vm.Alike.refl U.vm) ho⟩⟩, ⟨fun q hq => vk_R.same (u := U) (U := U.calling g mk a) rfl (e5.1 q hq), fun q hq => (e5.2 q hq).moved (U := U.calling g mk a) (Vm.Alike.refl U.vm)⟩, e6⟩
section QC
variable {p : Program} {l : Launch} {e : Env} {R : Room} {s : State} {m : MethodId} {args : Array Value} {below : List Frame} {meth : Method} {c : Code} {H : Heap} {locs : List Loc} {cs sl mc ms : Nat} {Q : State → Prop}
theorem qz_after {Y2 : qz_Y} {D : va_G} {dA : Nat → ClassId} {B0 : Nat} {hc h0 h : qz_H} {r2 : qz_R} {a : Array Value} {pc : Nat} {lsC : Array Slot} {stk rest : List Value} (hrun : va_Run p l e R s m args below meth c H locs cs sl mc ms (F0 m pc lsC stk) rest (qz_Q Y2 D dA B0 hc h r2 a) (qz_A B0)) (hW : qz_W D dA B0 hc h0 s h H) (hS : va_S (qz_A B0) s.heap H locs)
    (kk : ∀ (H1 : Heap) (locs1 : List Loc), qz_W D dA B0 hc h0 s r2.2 H1 → qz_ex h r2.2 → (Y2.2.2.2.2.1 ≠ 0 → qz_rg r2.2 Y2.2.2.2.2.1 r2.1) → va_S (qz_A B0) s.heap H1 locs1 → W p l e R s m args below meth c H1 locs1 (cs + mc) (sl + ms) Q (F0 m (pc + 3) lsC ((qz_rv Y2 r2).toList ++ rest))) : W p l e R s m args below meth c H locs cs sl Q (F0 m pc lsC stk) := by
  intro T hT X
  obtain ⟨v, st₀, t, T', L, g0, X', hL, e1, e2, ⟨⟨hv, hw, hg⟩, hz, hk⟩, stp⟩ := hrun T hT X
  cases hv
  rw [g0] at hz hk
  have hwx := hw.2.2.2.2.2.2
  have hal : s.vm.Alike t.vm := by rw [← e2]; exact X'.warmed.alike
  obtain ⟨t2, a1, b1⟩ := kk T'.heap (locs ++ L) (by rw [e1]; exact (hw.moved hal.symm).re (hW.2.2.2.2.2.2.tr hwx)) hwx hg
    ⟨Nat.le_trans hS.1 (by rw [e1]; exact hz), fun q h1 h2 => by rw [e1, hk q (Nat.lt_of_lt_of_le h1 hS.1) h2]; exact hS.2.1 q h1 h2, fun q hq => by
      rcases List.mem_append.mp hq with h | h
      · exact hS.2.2 q h
      · exact hL q h⟩ T' rfl X'
  exact ⟨t2, stp t2 a1, b1⟩
end QC
section QD
variable {Y Y2 : qz_Y} {G : qz_G} {is isT : List (Instr × Nat)} {pc T : Nat} {ls st : List qz_V} {h : qz_H} {cs sl : Nat} {t t1 t2 : Option qz_R}
theorem qz_bc_some {o : Option qz_R} {f : Int → qz_H → Option qz_R} {r : qz_R} (h : qz_bc o f = some r) : ∃ q, o = some q ∧ f q.1 q.2 = some r := by
  cases o with
  | none => cases h
  | some q => exact ⟨q, rfl, h⟩

theorem qz_invvV {idx n : Nat} {k0 : Nat} {x : Int} (as : List qz_V) {stk : List qz_V} {f : Int → qz_H → Option qz_R} (hst : stk = as.reverse ++ qz_r true k0 x :: st) (hm : qz_C Y2 (qz_r true k0 x :: as) h t) (hw : qz_mw Y2 n) (hv : qz_vw Y2) (hk0 : ∃ q : vw_C, kz_cl[k0]? = some q ∧ Y2.1.cls = q.1 ∧ k0 < 40) (hn : ((as.length == n) && (qz_sz st).ble 8) = true) (hrm : qz_rm Y Y2 cs sl = true) (hln : qz_ln Y.1.cls idx Y2) (hR : (Y2.2.2.2.2.1 == 0) = true) (k : ∀ r h', qz_J Y G is (pc + 3) ls st h' (cs + Y2.2.2.2.2.2.cells) (sl + Y2.2.2.2.2.2.slots) (f r h')) : qz_J Y G ((.invokevirtual idx, 3) :: is) pc ls stk h cs sl (qz_bc t f) := by
  obtain ⟨p, l, e, s, m, args, below, meth, c, D, dA, B0, hc, h0⟩ := G
  intro r hr hx lsC stC H locs hca hl hs hW hS
  obtain ⟨h1, h2, h3, h4, h5, h6, h7, h8, h9⟩ := id hx
  subst hst
  obtain ⟨r1, q1, v1, hs2⟩ := qz_sr_app _ _ _ hs
  clear hs
  obtain ⟨r2, q2, v2, hs⟩ := hs2
  have hok := qz_vot v2
  rw [qz_cvr (qz_ok_ne hok)] at q2
  subst q2
  subst q1
  obtain ⟨q, qe, q2⟩ := qz_bc_some hr
  obtain ⟨m1, m2, m3, m4⟩ := hw
  obtain ⟨⟨rm1, rm2⟩, rm3, rm4⟩ := qz_rm_ok hrm
  simp only [Bool.and_eq_true, beq_iff_eq] at hn
  have hroom : 2 * (F0 m pc lsC ([] : List Value)).monitorRoom + (r2.map fun v => v.category).sum ≤ 8 := lv_room (Nat.le_trans (qz_sz_ok _ _ hs) (Nat.le_of_ble_eq_true hn.2))
  have hsize : lsC.size = Y.2.2.1 := by obtain ⟨lv, g1, -⟩ := hl; exact g1.1
  have hvo : ∀ v ∈ as, qz_vo h v := fun v hv => v1 v (List.mem_reverse.mpr hv)
  have hPc : ∀ U : State, U.heap = H → s.WarmedH U.vm → qz_P D dA B0 hc (qz_r true k0 x :: as) h (.ref (qz_ad h x) :: as.map (qz_cv h)).toArray U := by
    intro U hU hWm
    refine ⟨by rw [List.map_cons, qz_cvr (qz_ok_ne hok)], ?_, ?_, qz_E_at h9 hS hU hWm⟩
    · intro v hv
      rcases List.mem_cons.mp hv with z | z
      · rw [z]; exact v2
      · exact hvo v z
    · rw [hU]
      exact (hW.moved hWm.alike).re (qz_ex.rf h)
  have hM := hm q qe l h5.2 D dA B0 hc
  have hfix : CallFix p m c Y.2.1 Y.2.2.1 s args kz_TT Y.1.cls := ⟨h1, h2, h3, h7, h8⟩
  have htt : ∀ w ∈ kz_TT, w.before args s = true := h8
  have hlen : (as.map (qz_cv h)).length = n := by rw [List.length_map]; exact hn.1
  obtain ⟨qc, k1', k2', k3'⟩ := hk0
  obtain ⟨⟨cell, b1, b2, b3, b4, -⟩, -⟩ := (hW.2.1 x k0 hok).1 k3'
  have hcls := (h9.2.1.1 k0 qc k1').2.1
  have hpre : PreV s H Y2.1.cls (qz_ad h x) (qz_P D dA B0 hc (qz_r true k0 x :: as) h) (as.map (qz_cv h)) := ⟨qz_blind, ⟨cell, b1, b4, by rw [b2, k2']; exact hcls⟩, hPc⟩
  have hstk : as.reverse.map (qz_cv h) = (as.map (qz_cv h)).reverse := List.map_reverse
  rw [hstk]
  have fin : ∀ (H1 : Heap) (locs1 : List Loc), qz_W D dA B0 hc h0 s q.2 H1 → qz_ex h q.2 → (Y2.2.2.2.2.1 ≠ 0 → qz_rg q.2 Y2.2.2.2.2.1 q.1) → va_S (qz_A B0) s.heap H1 locs1 → W p l e Y.2.2.2.2.2 s m args below meth c H1 locs1 (cs + Y2.2.2.2.2.2.cells) (sl + Y2.2.2.2.2.2.slots) (qz_FQ Y below D dA B0 hc h0 args s r) (F0 m (pc + 3) lsC ((qz_rv Y2 q).toList ++ r2)) := by
    intro H1 locs1 w wx wr wS
    have e0 : Y2.2.2.2.2.1 = 0 := by simpa using hR
    have e1 : qz_rv Y2 q = none := by unfold qz_rv; rw [if_pos e0]
    rw [e1]
    exact k q.1 q.2 r q2 hx lsC _ H1 locs1 hca.2 (wx.lr hl) (wx.sr _ _ hs) w wS
  rcases hln with g | ⟨host, g⟩
  · exact qz_after (va_runV (bytes := Y2.2.1) (maxL := Y2.2.2.1) (ret := Y2.2.2.2.1) (C := Y2.1.cls) (b := qz_ad h x) (As := as.map (qz_cv h)) (rest := r2) hfix hM ⟨callB_of n h8 (qz_good m1) rfl rfl rfl (htt _ m2) (htt _ g) ⟨m3.1, m3.2.1, m3.2.2⟩ ⟨rm1, rm2⟩, htt _ hv.1, htt _ hv.2⟩ hpre rfl hlen hsize rfl hroom hca.1 ⟨rm3, rm4⟩) hW hS fin
  · exact qz_after (va_runVN (bytes := Y2.2.1) (maxL := Y2.2.2.1) (ret := Y2.2.2.2.1) (host := host) (C := Y2.1.cls) (b := qz_ad h x) (As := as.map (qz_cv h)) (rest := r2) hfix hM ⟨va_cnB n h8 (qz_good m1) rfl rfl rfl (h9.2.2.1.1 _ g) (htt _ m2) ⟨m3.1, m3.2.1, m3.2.2⟩ ⟨rm1, rm2⟩, htt _ hv.1, htt _ hv.2⟩ hpre rfl hlen hsize rfl hroom hca.1 ⟨rm3, rm4⟩) hW hS fin
theorem qz_invvI {idx n : Nat} {k0 : Nat} {x : Int} (as : List qz_V) {stk : List qz_V} {f : Int → qz_H → Option qz_R} (hst : stk = as.reverse ++ qz_r true k0 x :: st) (hm : qz_C Y2 (qz_r true k0 x :: as) h t) (hw : qz_mw Y2 n) (hv : qz_vw Y2) (hk0 : ∃ q : vw_C, kz_cl[k0]? = some q ∧ Y2.1.cls = q.1 ∧ k0 < 40) (hn : ((as.length == n) && (qz_sz st).ble 8) = true) (hrm : qz_rm Y Y2 cs sl = true) (hln : qz_ln Y.1.cls idx Y2) (hR : (decide (Y2.2.2.2.2.1 < 10) && !(Y2.2.2.2.2.1 == 2) && !(Y2.2.2.2.2.1 == 0)) = true) (k : ∀ r h', qz_J Y G is (pc + 3) ls (qz_i r :: st) h' (cs + Y2.2.2.2.2.2.cells) (sl + Y2.2.2.2.2.2.slots) (f r h')) : qz_J Y G ((.invokevirtual idx, 3) :: is) pc ls stk h cs sl (qz_bc t f) := by
  obtain ⟨p, l, e, s, m, args, below, meth, c, D, dA, B0, hc, h0⟩ := G
  intro r hr hx lsC stC H locs hca hl hs hW hS
  obtain ⟨h1, h2, h3, h4, h5, h6, h7, h8, h9⟩ := id hx
  subst hst
  obtain ⟨r1, q1, v1, hs2⟩ := qz_sr_app _ _ _ hs
  clear hs
  obtain ⟨r2, q2, v2, hs⟩ := hs2
  have hok := qz_vot v2
  rw [qz_cvr (qz_ok_ne hok)] at q2
  subst q2
  subst q1
  obtain ⟨q, qe, q2⟩ := qz_bc_some hr
  obtain ⟨m1, m2, m3, m4⟩ := hw
  obtain ⟨⟨rm1, rm2⟩, rm3, rm4⟩ := qz_rm_ok hrm
  simp only [Bool.and_eq_true, beq_iff_eq] at hn
  have hroom : 2 * (F0 m pc lsC ([] : List Value)).monitorRoom + (r2.map fun v => v.category).sum ≤ 8 := lv_room (Nat.le_trans (qz_sz_ok _ _ hs) (Nat.le_of_ble_eq_true hn.2))
  have hsize : lsC.size = Y.2.2.1 := by obtain ⟨lv, g1, -⟩ := hl; exact g1.1
  have hvo : ∀ v ∈ as, qz_vo h v := fun v hv => v1 v (List.mem_reverse.mpr hv)
  have hPc : ∀ U : State, U.heap = H → s.WarmedH U.vm → qz_P D dA B0 hc (qz_r true k0 x :: as) h (.ref (qz_ad h x) :: as.map (qz_cv h)).toArray U := by
    intro U hU hWm
    refine ⟨by rw [List.map_cons, qz_cvr (qz_ok_ne hok)], ?_, ?_, qz_E_at h9 hS hU hWm⟩
    · intro v hv
      rcases List.mem_cons.mp hv with z | z
      · rw [z]; exact v2
      · exact hvo v z
    · rw [hU]
      exact (hW.moved hWm.alike).re (qz_ex.rf h)
  have hM := hm q qe l h5.2 D dA B0 hc
  have hfix : CallFix p m c Y.2.1 Y.2.2.1 s args kz_TT Y.1.cls := ⟨h1, h2, h3, h7, h8⟩
  have htt : ∀ w ∈ kz_TT, w.before args s = true := h8
  have hlen : (as.map (qz_cv h)).length = n := by rw [List.length_map]; exact hn.1
  obtain ⟨qc, k1', k2', k3'⟩ := hk0
  obtain ⟨⟨cell, b1, b2, b3, b4, -⟩, -⟩ := (hW.2.1 x k0 hok).1 k3'
  have hcls := (h9.2.1.1 k0 qc k1').2.1
  have hpre : PreV s H Y2.1.cls (qz_ad h x) (qz_P D dA B0 hc (qz_r true k0 x :: as) h) (as.map (qz_cv h)) := ⟨qz_blind, ⟨cell, b1, b4, by rw [b2, k2']; exact hcls⟩, hPc⟩
  have hstk : as.reverse.map (qz_cv h) = (as.map (qz_cv h)).reverse := List.map_reverse
  rw [hstk]
  have fin : ∀ (H1 : Heap) (locs1 : List Loc), qz_W D dA B0 hc h0 s q.2 H1 → qz_ex h q.2 → (Y2.2.2.2.2.1 ≠ 0 → qz_rg q.2 Y2.2.2.2.2.1 q.1) → va_S (qz_A B0) s.heap H1 locs1 → W p l e Y.2.2.2.2.2 s m args below meth c H1 locs1 (cs + Y2.2.2.2.2.2.cells) (sl + Y2.2.2.2.2.2.slots) (qz_FQ Y below D dA B0 hc h0 args s r) (F0 m (pc + 3) lsC ((qz_rv Y2 q).toList ++ r2)) := by
    intro H1 locs1 w wx wr wS
    simp only [Bool.and_eq_true, decide_eq_true_eq, Bool.not_eq_true', beq_eq_false_iff_ne, ne_eq] at hR
    have e1 : qz_rv Y2 q = some (qz_cv q.2 (qz_i q.1)) := by unfold qz_rv; rw [if_neg hR.2]; unfold qz_tv; rw [if_neg hR.1.2, if_pos hR.1.1]; rfl
    rw [e1]
    exact k q.1 q.2 r q2 hx lsC _ H1 locs1 hca.2 (wx.lr hl) ⟨_, rfl, qz_rgI hR.1.1 hR.1.2 (wr hR.2), wx.sr _ _ hs⟩ w wS
  rcases hln with g | ⟨host, g⟩
  · exact qz_after (va_runV (bytes := Y2.2.1) (maxL := Y2.2.2.1) (ret := Y2.2.2.2.1) (C := Y2.1.cls) (b := qz_ad h x) (As := as.map (qz_cv h)) (rest := r2) hfix hM ⟨callB_of n h8 (qz_good m1) rfl rfl rfl (htt _ m2) (htt _ g) ⟨m3.1, m3.2.1, m3.2.2⟩ ⟨rm1, rm2⟩, htt _ hv.1, htt _ hv.2⟩ hpre rfl hlen hsize rfl hroom hca.1 ⟨rm3, rm4⟩) hW hS fin
  · exact qz_after (va_runVN (bytes := Y2.2.1) (maxL := Y2.2.2.1) (ret := Y2.2.2.2.1) (host := host) (C := Y2.1.cls) (b := qz_ad h x) (As := as.map (qz_cv h)) (rest := r2) hfix hM ⟨va_cnB n h8 (qz_good m1) rfl rfl rfl (h9.2.2.1.1 _ g) (htt _ m2) ⟨m3.1, m3.2.1, m3.2.2⟩ ⟨rm1, rm2⟩, htt _ hv.1, htt _ hv.2⟩ hpre rfl hlen hsize rfl hroom hca.1 ⟨rm3, rm4⟩) hW hS fin
theorem qz_invvJ {idx n : Nat} {k0 : Nat} {x : Int} (as : List qz_V) {stk : List qz_V} {f : Int → qz_H → Option qz_R} (hst : stk = as.reverse ++ qz_r true k0 x :: st) (hm : qz_C Y2 (qz_r true k0 x :: as) h t) (hw : qz_mw Y2 n) (hv : qz_vw Y2) (hk0 : ∃ q : vw_C, kz_cl[k0]? = some q ∧ Y2.1.cls = q.1 ∧ k0 < 40) (hn : ((as.length == n) && (qz_sz st).ble 8) = true) (hrm : qz_rm Y Y2 cs sl = true) (hln : qz_ln Y.1.cls idx Y2) (hR : (Y2.2.2.2.2.1 == 2) = true) (k : ∀ r h', qz_J Y G is (pc + 3) ls (qz_j r :: st) h' (cs + Y2.2.2.2.2.2.cells) (sl + Y2.2.2.2.2.2.slots) (f r h')) : qz_J Y G ((.invokevirtual idx, 3) :: is) pc ls stk h cs sl (qz_bc t f) := by
  obtain ⟨p, l, e, s, m, args, below, meth, c, D, dA, B0, hc, h0⟩ := G
  intro r hr hx lsC stC H locs hca hl hs hW hS
  obtain ⟨h1, h2, h3, h4, h5, h6, h7, h8, h9⟩ := id hx
  subst hst
  obtain ⟨r1, q1, v1, hs2⟩ := qz_sr_app _ _ _ hs
  clear hs
  obtain ⟨r2, q2, v2, hs⟩ := hs2
  have hok := qz_vot v2
  rw [qz_cvr (qz_ok_ne hok)] at q2
  subst q2
  subst q1
  obtain ⟨q, qe, q2⟩ := qz_bc_some hr
  obtain ⟨m1, m2, m3, m4⟩ := hw
  obtain ⟨⟨rm1, rm2⟩, rm3, rm4⟩ := qz_rm_ok hrm
  simp only [Bool.and_eq_true, beq_iff_eq] at hn
  have hroom : 2 * (F0 m pc lsC ([] : List Value)).monitorRoom + (r2.map fun v => v.category).sum ≤ 8 := lv_room (Nat.le_trans (qz_sz_ok _ _ hs) (Nat.le_of_ble_eq_true hn.2))
  have hsize : lsC.size = Y.2.2.1 := by obtain ⟨lv, g1, -⟩ := hl; exact g1.1
  have hvo : ∀ v ∈ as, qz_vo h v := fun v hv => v1 v (List.mem_reverse.mpr hv)
  have hPc : ∀ U : State, U.heap = H → s.WarmedH U.vm → qz_P D dA B0 hc (qz_r true k0 x :: as) h (.ref (qz_ad h x) :: as.map (qz_cv h)).toArray U := by
    intro U hU hWm
    refine ⟨by rw [List.map_cons, qz_cvr (qz_ok_ne hok)], ?_, ?_, qz_E_at h9 hS hU hWm⟩
    · intro v hv
      rcases List.mem_cons.mp hv with z | z
      · rw [z]; exact v2
      · exact hvo v z
    · rw [hU]
      exact (hW.moved hWm.alike).re (qz_ex.rf h)
  have hM := hm q qe l h5.2 D dA B0 hc
  have hfix : CallFix p m c Y.2.1 Y.2.2.1 s args kz_TT Y.1.cls := ⟨h1, h2, h3, h7, h8⟩
  have htt : ∀ w ∈ kz_TT, w.before args s = true := h8
  have hlen : (as.map (qz_cv h)).length = n := by rw [List.length_map]; exact hn.1
  obtain ⟨qc, k1', k2', k3'⟩ := hk0
  obtain ⟨⟨cell, b1, b2, b3, b4, -⟩, -⟩ := (hW.2.1 x k0 hok).1 k3'
  have hcls := (h9.2.1.1 k0 qc k1').2.1
  have hpre : PreV s H Y2.1.cls (qz_ad h x) (qz_P D dA B0 hc (qz_r true k0 x :: as) h) (as.map (qz_cv h)) := ⟨qz_blind, ⟨cell, b1, b4, by rw [b2, k2']; exact hcls⟩, hPc⟩
  have hstk : as.reverse.map (qz_cv h) = (as.map (qz_cv h)).reverse := List.map_reverse
  rw [hstk]
  have fin : ∀ (H1 : Heap) (locs1 : List Loc), qz_W D dA B0 hc h0 s q.2 H1 → qz_ex h q.2 → (Y2.2.2.2.2.1 ≠ 0 → qz_rg q.2 Y2.2.2.2.2.1 q.1) → va_S (qz_A B0) s.heap H1 locs1 → W p l e Y.2.2.2.2.2 s m args below meth c H1 locs1 (cs + Y2.2.2.2.2.2.cells) (sl + Y2.2.2.2.2.2.slots) (qz_FQ Y below D dA B0 hc h0 args s r) (F0 m (pc + 3) lsC ((qz_rv Y2 q).toList ++ r2)) := by
    intro H1 locs1 w wx wr wS
    have e0 : Y2.2.2.2.2.1 = 2 := by simpa using hR
    have e1 : qz_rv Y2 q = some (qz_cv q.2 (qz_j q.1)) := by unfold qz_rv; rw [e0]; rfl
    rw [e1]
    have wr2 := wr (by rw [e0]; decide)
    rw [e0] at wr2
    exact k q.1 q.2 r q2 hx lsC _ H1 locs1 hca.2 (wx.lr hl) ⟨_, rfl, wr2, wx.sr _ _ hs⟩ w wS
  rcases hln with g | ⟨host, g⟩
  · exact qz_after (va_runV (bytes := Y2.2.1) (maxL := Y2.2.2.1) (ret := Y2.2.2.2.1) (C := Y2.1.cls) (b := qz_ad h x) (As := as.map (qz_cv h)) (rest := r2) hfix hM ⟨callB_of n h8 (qz_good m1) rfl rfl rfl (htt _ m2) (htt _ g) ⟨m3.1, m3.2.1, m3.2.2⟩ ⟨rm1, rm2⟩, htt _ hv.1, htt _ hv.2⟩ hpre rfl hlen hsize rfl hroom hca.1 ⟨rm3, rm4⟩) hW hS fin
  · exact qz_after (va_runVN (bytes := Y2.2.1) (maxL := Y2.2.2.1) (ret := Y2.2.2.2.1) (host := host) (C := Y2.1.cls) (b := qz_ad h x) (As := as.map (qz_cv h)) (rest := r2) hfix hM ⟨va_cnB n h8 (qz_good m1) rfl rfl rfl (h9.2.2.1.1 _ g) (htt _ m2) ⟨m3.1, m3.2.1, m3.2.2⟩ ⟨rm1, rm2⟩, htt _ hv.1, htt _ hv.2⟩ hpre rfl hlen hsize rfl hroom hca.1 ⟨rm3, rm4⟩) hW hS fin
theorem qz_invvR {k1 : Nat} {idx n : Nat} {k0 : Nat} {x : Int} (as : List qz_V) {stk : List qz_V} {f : Int → qz_H → Option qz_R} (hst : stk = as.reverse ++ qz_r true k0 x :: st) (hm : qz_C Y2 (qz_r true k0 x :: as) h t) (hw : qz_mw Y2 n) (hv : qz_vw Y2) (hk0 : ∃ q : vw_C, kz_cl[k0]? = some q ∧ Y2.1.cls = q.1 ∧ k0 < 40) (hn : ((as.length == n) && (qz_sz st).ble 8) = true) (hrm : qz_rm Y Y2 cs sl = true) (hln : qz_ln Y.1.cls idx Y2) (hR : (Y2.2.2.2.2.1 == 10 + k1) = true) (k : ∀ r h', qz_J Y G is (pc + 3) ls (qz_r false k1 r :: st) h' (cs + Y2.2.2.2.2.2.cells) (sl + Y2.2.2.2.2.2.slots) (f r h')) : qz_J Y G ((.invokevirtual idx, 3) :: is) pc ls stk h cs sl (qz_bc t f) := by
  obtain ⟨p, l, e, s, m, args, below, meth, c, D, dA, B0, hc, h0⟩ := G
  intro r hr hx lsC stC H locs hca hl hs hW hS
  obtain ⟨h1, h2, h3, h4, h5, h6, h7, h8, h9⟩ := id hx
  subst hst
  obtain ⟨r1, q1, v1, hs2⟩ := qz_sr_app _ _ _ hs
  clear hs
  obtain ⟨r2, q2, v2, hs⟩ := hs2
  have hok := qz_vot v2
  rw [qz_cvr (qz_ok_ne hok)] at q2
  subst q2
  subst q1
  obtain ⟨q, qe, q2⟩ := qz_bc_some hr
  obtain ⟨m1, m2, m3, m4⟩ := hw
  obtain ⟨⟨rm1, rm2⟩, rm3, rm4⟩ := qz_rm_ok hrm
  simp only [Bool.and_eq_true, beq_iff_eq] at hn
  have hroom : 2 * (F0 m pc lsC ([] : List Value)).monitorRoom + (r2.map fun v => v.category).sum ≤ 8 := lv_room (Nat.le_trans (qz_sz_ok _ _ hs) (Nat.le_of_ble_eq_true hn.2))
  have hsize : lsC.size = Y.2.2.1 := by obtain ⟨lv, g1, -⟩ := hl; exact g1.1
  have hvo : ∀ v ∈ as, qz_vo h v := fun v hv => v1 v (List.mem_reverse.mpr hv)
  have hPc : ∀ U : State, U.heap = H → s.WarmedH U.vm → qz_P D dA B0 hc (qz_r true k0 x :: as) h (.ref (qz_ad h x) :: as.map (qz_cv h)).toArray U := by
    intro U hU hWm
    refine ⟨by rw [List.map_cons, qz_cvr (qz_ok_ne hok)], ?_, ?_, qz_E_at h9 hS hU hWm⟩
    · intro v hv
      rcases List.mem_cons.mp hv with z | z
      · rw [z]; exact v2
      · exact hvo v z
    · rw [hU]
      exact (hW.moved hWm.alike).re (qz_ex.rf h)
  have hM := hm q qe l h5.2 D dA B0 hc
  have hfix : CallFix p m c Y.2.1 Y.2.2.1 s args kz_TT Y.1.cls := ⟨h1, h2, h3, h7, h8⟩
  have htt : ∀ w ∈ kz_TT, w.before args s = true := h8
  have hlen : (as.map (qz_cv h)).length = n := by rw [List.length_map]; exact hn.1
  obtain ⟨qc, k1', k2', k3'⟩ := hk0
  obtain ⟨⟨cell, b1, b2, b3, b4, -⟩, -⟩ := (hW.2.1 x k0 hok).1 k3'
  have hcls := (h9.2.1.1 k0 qc k1').2.1
  have hpre : PreV s H Y2.1.cls (qz_ad h x) (qz_P D dA B0 hc (qz_r true k0 x :: as) h) (as.map (qz_cv h)) := ⟨qz_blind, ⟨cell, b1, b4, by rw [b2, k2']; exact hcls⟩, hPc⟩
  have hstk : as.reverse.map (qz_cv h) = (as.map (qz_cv h)).reverse := List.map_reverse
  rw [hstk]
  have fin : ∀ (H1 : Heap) (locs1 : List Loc), qz_W D dA B0 hc h0 s q.2 H1 → qz_ex h q.2 → (Y2.2.2.2.2.1 ≠ 0 → qz_rg q.2 Y2.2.2.2.2.1 q.1) → va_S (qz_A B0) s.heap H1 locs1 → W p l e Y.2.2.2.2.2 s m args below meth c H1 locs1 (cs + Y2.2.2.2.2.2.cells) (sl + Y2.2.2.2.2.2.slots) (qz_FQ Y below D dA B0 hc h0 args s r) (F0 m (pc + 3) lsC ((qz_rv Y2 q).toList ++ r2)) := by
    intro H1 locs1 w wx wr wS
    have e0 : Y2.2.2.2.2.1 = 10 + k1 := by simpa using hR
    have e1 : qz_rv Y2 q = some (qz_cv q.2 (qz_r false k1 q.1)) := by unfold qz_rv; rw [if_neg (by omega), e0]; unfold qz_tv; rw [if_neg (by omega), if_neg (by omega)]; rfl
    rw [e1]
    have wr2 := wr (by omega)
    rw [e0] at wr2
    exact k q.1 q.2 r q2 hx lsC _ H1 locs1 hca.2 (wx.lr hl) ⟨_, rfl, qz_rgR wr2, wx.sr _ _ hs⟩ w wS
  rcases hln with g | ⟨host, g⟩
  · exact qz_after (va_runV (bytes := Y2.2.1) (maxL := Y2.2.2.1) (ret := Y2.2.2.2.1) (C := Y2.1.cls) (b := qz_ad h x) (As := as.map (qz_cv h)) (rest := r2) hfix hM ⟨callB_of n h8 (qz_good m1) rfl rfl rfl (htt _ m2) (htt _ g) ⟨m3.1, m3.2.1, m3.2.2⟩ ⟨rm1, rm2⟩, htt _ hv.1, htt _ hv.2⟩ hpre rfl hlen hsize rfl hroom hca.1 ⟨rm3, rm4⟩) hW hS fin
  · exact qz_after (va_runVN (bytes := Y2.2.1) (maxL := Y2.2.2.1) (ret := Y2.2.2.2.1) (host := host) (C := Y2.1.cls) (b := qz_ad h x) (As := as.map (qz_cv h)) (rest := r2) hfix hM ⟨va_cnB n h8 (qz_good m1) rfl rfl rfl (h9.2.2.1.1 _ g) (htt _ m2) ⟨m3.1, m3.2.1, m3.2.2⟩ ⟨rm1, rm2⟩, htt _ hv.1, htt _ hv.2⟩ hpre rfl hlen hsize rfl hroom hca.1 ⟨rm3, rm4⟩) hW hS fin
theorem qz_invsV {idx n : Nat} (as : List qz_V) {stk : List qz_V} {f : Int → qz_H → Option qz_R} (hst : stk = as.reverse ++ st) (hm : qz_C Y2 (as) h t) (hw : qz_mw Y2 n) (hv : Cond.static Y2.1 ∈ kz_TT) (hn : ((as.length == n) && (qz_sz st).ble 8) = true) (hrm : qz_rm Y Y2 cs sl = true) (hln : qz_ln Y.1.cls idx Y2) (hR : (Y2.2.2.2.2.1 == 0) = true) (k : ∀ r h', qz_J Y G is (pc + 3) ls st h' (cs + Y2.2.2.2.2.2.cells) (sl + Y2.2.2.2.2.2.slots) (f r h')) : qz_J Y G ((.invokestatic idx, 3) :: is) pc ls stk h cs sl (qz_bc t f) := by
  obtain ⟨p, l, e, s, m, args, below, meth, c, D, dA, B0, hc, h0⟩ := G
  intro r hr hx lsC stC H locs hca hl hs hW hS
  obtain ⟨h1, h2, h3, h4, h5, h6, h7, h8, h9⟩ := id hx
  subst hst
  obtain ⟨r1, q1, v1, hs2⟩ := qz_sr_app _ _ _ hs
  clear hs
  have hs := hs2
  subst q1
  obtain ⟨q, qe, q2⟩ := qz_bc_some hr
  obtain ⟨m1, m2, m3, m4⟩ := hw
  obtain ⟨⟨rm1, rm2⟩, rm3, rm4⟩ := qz_rm_ok hrm
  simp only [Bool.and_eq_true, beq_iff_eq] at hn
  have hroom : 2 * (F0 m pc lsC ([] : List Value)).monitorRoom + (r1.map fun v => v.category).sum ≤ 8 := lv_room (Nat.le_trans (qz_sz_ok _ _ hs) (Nat.le_of_ble_eq_true hn.2))
  have hsize : lsC.size = Y.2.2.1 := by obtain ⟨lv, g1, -⟩ := hl; exact g1.1
  have hvo : ∀ v ∈ as, qz_vo h v := fun v hv => v1 v (List.mem_reverse.mpr hv)
  have hPc : ∀ U : State, U.heap = H → s.WarmedH U.vm → qz_P D dA B0 hc (as) h (as.map (qz_cv h)).toArray U := by
    intro U hU hWm
    refine ⟨rfl, ?_, ?_, qz_E_at h9 hS hU hWm⟩
    · exact hvo
    · rw [hU]
      exact (hW.moved hWm.alike).re (qz_ex.rf h)
  have hM := hm q qe l h5.2 D dA B0 hc
  have hfix : CallFix p m c Y.2.1 Y.2.2.1 s args kz_TT Y.1.cls := ⟨h1, h2, h3, h7, h8⟩
  have htt : ∀ w ∈ kz_TT, w.before args s = true := h8
  have hlen : (as.map (qz_cv h)).length = n := by rw [List.length_map]; exact hn.1
  have hpre : PreS s H (qz_P D dA B0 hc as h) (as.map (qz_cv h)) := ⟨qz_blind, hPc⟩
  have hstk : as.reverse.map (qz_cv h) = (as.map (qz_cv h)).reverse := List.map_reverse
  rw [hstk]
  have fin : ∀ (H1 : Heap) (locs1 : List Loc), qz_W D dA B0 hc h0 s q.2 H1 → qz_ex h q.2 → (Y2.2.2.2.2.1 ≠ 0 → qz_rg q.2 Y2.2.2.2.2.1 q.1) → va_S (qz_A B0) s.heap H1 locs1 → W p l e Y.2.2.2.2.2 s m args below meth c H1 locs1 (cs + Y2.2.2.2.2.2.cells) (sl + Y2.2.2.2.2.2.slots) (qz_FQ Y below D dA B0 hc h0 args s r) (F0 m (pc + 3) lsC ((qz_rv Y2 q).toList ++ r1)) := by
    intro H1 locs1 w wx wr wS
    have e0 : Y2.2.2.2.2.1 = 0 := by simpa using hR
    have e1 : qz_rv Y2 q = none := by unfold qz_rv; rw [if_pos e0]
    rw [e1]
    exact k q.1 q.2 r q2 hx lsC _ H1 locs1 hca.2 (wx.lr hl) (wx.sr _ _ hs) w wS
  rcases hln with g | ⟨host, g⟩
  · exact qz_after (va_runS (bytes := Y2.2.1) (maxL := Y2.2.2.1) (ret := Y2.2.2.2.1) (As := as.map (qz_cv h)) (rest := r1) hfix hM ⟨callB_of n h8 (qz_good m1) rfl rfl rfl (htt _ m2) (htt _ g) ⟨m3.1, m3.2.1, m3.2.2⟩ ⟨rm1, rm2⟩, htt _ hv⟩ hpre rfl hlen hsize rfl hroom hca.1 ⟨rm3, rm4⟩) hW hS fin
  · exact qz_after (va_runSN (bytes := Y2.2.1) (maxL := Y2.2.2.1) (ret := Y2.2.2.2.1) (host := host) (As := as.map (qz_cv h)) (rest := r1) hfix hM ⟨va_cnB n h8 (qz_good m1) rfl rfl rfl (h9.2.2.1.1 _ g) (htt _ m2) ⟨m3.1, m3.2.1, m3.2.2⟩ ⟨rm1, rm2⟩, htt _ hv, trivial⟩ hpre rfl hlen hsize rfl hroom hca.1 ⟨rm3, rm4⟩) hW hS fin
theorem qz_invsI {idx n : Nat} (as : List qz_V) {stk : List qz_V} {f : Int → qz_H → Option qz_R} (hst : stk = as.reverse ++ st) (hm : qz_C Y2 (as) h t) (hw : qz_mw Y2 n) (hv : Cond.static Y2.1 ∈ kz_TT) (hn : ((as.length == n) && (qz_sz st).ble 8) = true) (hrm : qz_rm Y Y2 cs sl = true) (hln : qz_ln Y.1.cls idx Y2) (hR : (decide (Y2.2.2.2.2.1 < 10) && !(Y2.2.2.2.2.1 == 2) && !(Y2.2.2.2.2.1 == 0)) = true) (k : ∀ r h', qz_J Y G is (pc + 3) ls (qz_i r :: st) h' (cs + Y2.2.2.2.2.2.cells) (sl + Y2.2.2.2.2.2.slots) (f r h')) : qz_J Y G ((.invokestatic idx, 3) :: is) pc ls stk h cs sl (qz_bc t f) := by
  obtain ⟨p, l, e, s, m, args, below, meth, c, D, dA, B0, hc, h0⟩ := G
  intro r hr hx lsC stC H locs hca hl hs hW hS
  obtain ⟨h1, h2, h3, h4, h5, h6, h7, h8, h9⟩ := id hx
  subst hst
  obtain ⟨r1, q1, v1, hs2⟩ := qz_sr_app _ _ _ hs
  clear hs
  have hs := hs2
  subst q1
  obtain ⟨q, qe, q2⟩ := qz_bc_some hr
  obtain ⟨m1, m2, m3, m4⟩ := hw
  obtain ⟨⟨rm1, rm2⟩, rm3, rm4⟩ := qz_rm_ok hrm
  simp only [Bool.and_eq_true, beq_iff_eq] at hn
  have hroom : 2 * (F0 m pc lsC ([] : List Value)).monitorRoom + (r1.map fun v => v.category).sum ≤ 8 := lv_room (Nat.le_trans (qz_sz_ok _ _ hs) (Nat.le_of_ble_eq_true hn.2))
  have hsize : lsC.size = Y.2.2.1 := by obtain ⟨lv, g1, -⟩ := hl; exact g1.1
  have hvo : ∀ v ∈ as, qz_vo h v := fun v hv => v1 v (List.mem_reverse.mpr hv)
  have hPc : ∀ U : State, U.heap = H → s.WarmedH U.vm → qz_P D dA B0 hc (as) h (as.map (qz_cv h)).toArray U := by
    intro U hU hWm
    refine ⟨rfl, ?_, ?_, qz_E_at h9 hS hU hWm⟩
    · exact hvo
    · rw [hU]
      exact (hW.moved hWm.alike).re (qz_ex.rf h)
  have hM := hm q qe l h5.2 D dA B0 hc
  have hfix : CallFix p m c Y.2.1 Y.2.2.1 s args kz_TT Y.1.cls := ⟨h1, h2, h3, h7, h8⟩
  have htt : ∀ w ∈ kz_TT, w.before args s = true := h8
  have hlen : (as.map (qz_cv h)).length = n := by rw [List.length_map]; exact hn.1
  have hpre : PreS s H (qz_P D dA B0 hc as h) (as.map (qz_cv h)) := ⟨qz_blind, hPc⟩
  have hstk : as.reverse.map (qz_cv h) = (as.map (qz_cv h)).reverse := List.map_reverse
  rw [hstk]
  have fin : ∀ (H1 : Heap) (locs1 : List Loc), qz_W D dA B0 hc h0 s q.2 H1 → qz_ex h q.2 → (Y2.2.2.2.2.1 ≠ 0 → qz_rg q.2 Y2.2.2.2.2.1 q.1) → va_S (qz_A B0) s.heap H1 locs1 → W p l e Y.2.2.2.2.2 s m args below meth c H1 locs1 (cs + Y2.2.2.2.2.2.cells) (sl + Y2.2.2.2.2.2.slots) (qz_FQ Y below D dA B0 hc h0 args s r) (F0 m (pc + 3) lsC ((qz_rv Y2 q).toList ++ r1)) := by
    intro H1 locs1 w wx wr wS
    simp only [Bool.and_eq_true, decide_eq_true_eq, Bool.not_eq_true', beq_eq_false_iff_ne, ne_eq] at hR
    have e1 : qz_rv Y2 q = some (qz_cv q.2 (qz_i q.1)) := by unfold qz_rv; rw [if_neg hR.2]; unfold qz_tv; rw [if_neg hR.1.2, if_pos hR.1.1]; rfl
    rw [e1]
    exact k q.1 q.2 r q2 hx lsC _ H1 locs1 hca.2 (wx.lr hl) ⟨_, rfl, qz_rgI hR.1.1 hR.1.2 (wr hR.2), wx.sr _ _ hs⟩ w wS
  rcases hln with g | ⟨host, g⟩
  · exact qz_after (va_runS (bytes := Y2.2.1) (maxL := Y2.2.2.1) (ret := Y2.2.2.2.1) (As := as.map (qz_cv h)) (rest := r1) hfix hM ⟨callB_of n h8 (qz_good m1) rfl rfl rfl (htt _ m2) (htt _ g) ⟨m3.1, m3.2.1, m3.2.2⟩ ⟨rm1, rm2⟩, htt _ hv⟩ hpre rfl hlen hsize rfl hroom hca.1 ⟨rm3, rm4⟩) hW hS fin
  · exact qz_after (va_runSN (bytes := Y2.2.1) (maxL := Y2.2.2.1) (ret := Y2.2.2.2.1) (host := host) (As := as.map (qz_cv h)) (rest := r1) hfix hM ⟨va_cnB n h8 (qz_good m1) rfl rfl rfl (h9.2.2.1.1 _ g) (htt _ m2) ⟨m3.1, m3.2.1, m3.2.2⟩ ⟨rm1, rm2⟩, htt _ hv, trivial⟩ hpre rfl hlen hsize rfl hroom hca.1 ⟨rm3, rm4⟩) hW hS fin
theorem qz_invsJ {idx n : Nat} (as : List qz_V) {stk : List qz_V} {f : Int → qz_H → Option qz_R} (hst : stk = as.reverse ++ st) (hm : qz_C Y2 (as) h t) (hw : qz_mw Y2 n) (hv : Cond.static Y2.1 ∈ kz_TT) (hn : ((as.length == n) && (qz_sz st).ble 8) = true) (hrm : qz_rm Y Y2 cs sl = true) (hln : qz_ln Y.1.cls idx Y2) (hR : (Y2.2.2.2.2.1 == 2) = true) (k : ∀ r h', qz_J Y G is (pc + 3) ls (qz_j r :: st) h' (cs + Y2.2.2.2.2.2.cells) (sl + Y2.2.2.2.2.2.slots) (f r h')) : qz_J Y G ((.invokestatic idx, 3) :: is) pc ls stk h cs sl (qz_bc t f) := by
  obtain ⟨p, l, e, s, m, args, below, meth, c, D, dA, B0, hc, h0⟩ := G
  intro r hr hx lsC stC H locs hca hl hs hW hS
  obtain ⟨h1, h2, h3, h4, h5, h6, h7, h8, h9⟩ := id hx
  subst hst
  obtain ⟨r1, q1, v1, hs2⟩ := qz_sr_app _ _ _ hs
  clear hs
  have hs := hs2
  subst q1
  obtain ⟨q, qe, q2⟩ := qz_bc_some hr
  obtain ⟨m1, m2, m3, m4⟩ := hw
  obtain ⟨⟨rm1, rm2⟩, rm3, rm4⟩ := qz_rm_ok hrm
  simp only [Bool.and_eq_true, beq_iff_eq] at hn
  have hroom : 2 * (F0 m pc lsC ([] : List Value)).monitorRoom + (r1.map fun v => v.category).sum ≤ 8 := lv_room (Nat.le_trans (qz_sz_ok _ _ hs) (Nat.le_of_ble_eq_true hn.2))
  have hsize : lsC.size = Y.2.2.1 := by obtain ⟨lv, g1, -⟩ := hl; exact g1.1
  have hvo : ∀ v ∈ as, qz_vo h v := fun v hv => v1 v (List.mem_reverse.mpr hv)
  have hPc : ∀ U : State, U.heap = H → s.WarmedH U.vm → qz_P D dA B0 hc (as) h (as.map (qz_cv h)).toArray U := by
    intro U hU hWm
    refine ⟨rfl, ?_, ?_, qz_E_at h9 hS hU hWm⟩
    · exact hvo
    · rw [hU]
      exact (hW.moved hWm.alike).re (qz_ex.rf h)
  have hM := hm q qe l h5.2 D dA B0 hc
  have hfix : CallFix p m c Y.2.1 Y.2.2.1 s args kz_TT Y.1.cls := ⟨h1, h2, h3, h7, h8⟩
  have htt : ∀ w ∈ kz_TT, w.before args s = true := h8
  have hlen : (as.map (qz_cv h)).length = n := by rw [List.length_map]; exact hn.1
  have hpre : PreS s H (qz_P D dA B0 hc as h) (as.map (qz_cv h)) := ⟨qz_blind, hPc⟩
  have hstk : as.reverse.map (qz_cv h) = (as.map (qz_cv h)).reverse := List.map_reverse
  rw [hstk]
  have fin : ∀ (H1 : Heap) (locs1 : List Loc), qz_W D dA B0 hc h0 s q.2 H1 → qz_ex h q.2 → (Y2.2.2.2.2.1 ≠ 0 → qz_rg q.2 Y2.2.2.2.2.1 q.1) → va_S (qz_A B0) s.heap H1 locs1 → W p l e Y.2.2.2.2.2 s m args below meth c H1 locs1 (cs + Y2.2.2.2.2.2.cells) (sl + Y2.2.2.2.2.2.slots) (qz_FQ Y below D dA B0 hc h0 args s r) (F0 m (pc + 3) lsC ((qz_rv Y2 q).toList ++ r1)) := by
    intro H1 locs1 w wx wr wS
    have e0 : Y2.2.2.2.2.1 = 2 := by simpa using hR
    have e1 : qz_rv Y2 q = some (qz_cv q.2 (qz_j q.1)) := by unfold qz_rv; rw [e0]; rfl
    rw [e1]
    have wr2 := wr (by rw [e0]; decide)
    rw [e0] at wr2
    exact k q.1 q.2 r q2 hx lsC _ H1 locs1 hca.2 (wx.lr hl) ⟨_, rfl, wr2, wx.sr _ _ hs⟩ w wS
  rcases hln with g | ⟨host, g⟩
  · exact qz_after (va_runS (bytes := Y2.2.1) (maxL := Y2.2.2.1) (ret := Y2.2.2.2.1) (As := as.map (qz_cv h)) (rest := r1) hfix hM ⟨callB_of n h8 (qz_good m1) rfl rfl rfl (htt _ m2) (htt _ g) ⟨m3.1, m3.2.1, m3.2.2⟩ ⟨rm1, rm2⟩, htt _ hv⟩ hpre rfl hlen hsize rfl hroom hca.1 ⟨rm3, rm4⟩) hW hS fin
  · exact qz_after (va_runSN (bytes := Y2.2.1) (maxL := Y2.2.2.1) (ret := Y2.2.2.2.1) (host := host) (As := as.map (qz_cv h)) (rest := r1) hfix hM ⟨va_cnB n h8 (qz_good m1) rfl rfl rfl (h9.2.2.1.1 _ g) (htt _ m2) ⟨m3.1, m3.2.1, m3.2.2⟩ ⟨rm1, rm2⟩, htt _ hv, trivial⟩ hpre rfl hlen hsize rfl hroom hca.1 ⟨rm3, rm4⟩) hW hS fin
theorem qz_invsR {k1 : Nat} {idx n : Nat} (as : List qz_V) {stk : List qz_V} {f : Int → qz_H → Option qz_R} (hst : stk = as.reverse ++ st) (hm : qz_C Y2 (as) h t) (hw : qz_mw Y2 n) (hv : Cond.static Y2.1 ∈ kz_TT) (hn : ((as.length == n) && (qz_sz st).ble 8) = true) (hrm : qz_rm Y Y2 cs sl = true) (hln : qz_ln Y.1.cls idx Y2) (hR : (Y2.2.2.2.2.1 == 10 + k1) = true) (k : ∀ r h', qz_J Y G is (pc + 3) ls (qz_r false k1 r :: st) h' (cs + Y2.2.2.2.2.2.cells) (sl + Y2.2.2.2.2.2.slots) (f r h')) : qz_J Y G ((.invokestatic idx, 3) :: is) pc ls stk h cs sl (qz_bc t f) := by
  obtain ⟨p, l, e, s, m, args, below, meth, c, D, dA, B0, hc, h0⟩ := G
  intro r hr hx lsC stC H locs hca hl hs hW hS
  obtain ⟨h1, h2, h3, h4, h5, h6, h7, h8, h9⟩ := id hx
  subst hst
  obtain ⟨r1, q1, v1, hs2⟩ := qz_sr_app _ _ _ hs
  clear hs
  have hs := hs2
  subst q1
  obtain ⟨q, qe, q2⟩ := qz_bc_some hr
  obtain ⟨m1, m2, m3, m4⟩ := hw
  obtain ⟨⟨rm1, rm2⟩, rm3, rm4⟩ := qz_rm_ok hrm
  simp only [Bool.and_eq_true, beq_iff_eq] at hn
  have hroom : 2 * (F0 m pc lsC ([] : List Value)).monitorRoom + (r1.map fun v => v.category).sum ≤ 8 := lv_room (Nat.le_trans (qz_sz_ok _ _ hs) (Nat.le_of_ble_eq_true hn.2))
  have hsize : lsC.size = Y.2.2.1 := by obtain ⟨lv, g1, -⟩ := hl; exact g1.1
  have hvo : ∀ v ∈ as, qz_vo h v := fun v hv => v1 v (List.mem_reverse.mpr hv)
  have hPc : ∀ U : State, U.heap = H → s.WarmedH U.vm → qz_P D dA B0 hc (as) h (as.map (qz_cv h)).toArray U := by
    intro U hU hWm
    refine ⟨rfl, ?_, ?_, qz_E_at h9 hS hU hWm⟩
    · exact hvo
    · rw [hU]
      exact (hW.moved hWm.alike).re (qz_ex.rf h)
  have hM := hm q qe l h5.2 D dA B0 hc
  have hfix : CallFix p m c Y.2.1 Y.2.2.1 s args kz_TT Y.1.cls := ⟨h1, h2, h3, h7, h8⟩
  have htt : ∀ w ∈ kz_TT, w.before args s = true := h8
  have hlen : (as.map (qz_cv h)).length = n := by rw [List.length_map]; exact hn.1
  have hpre : PreS s H (qz_P D dA B0 hc as h) (as.map (qz_cv h)) := ⟨qz_blind, hPc⟩
  have hstk : as.reverse.map (qz_cv h) = (as.map (qz_cv h)).reverse := List.map_reverse
  rw [hstk]
  have fin : ∀ (H1 : Heap) (locs1 : List Loc), qz_W D dA B0 hc h0 s q.2 H1 → qz_ex h q.2 → (Y2.2.2.2.2.1 ≠ 0 → qz_rg q.2 Y2.2.2.2.2.1 q.1) → va_S (qz_A B0) s.heap H1 locs1 → W p l e Y.2.2.2.2.2 s m args below meth c H1 locs1 (cs + Y2.2.2.2.2.2.cells) (sl + Y2.2.2.2.2.2.slots) (qz_FQ Y below D dA B0 hc h0 args s r) (F0 m (pc + 3) lsC ((qz_rv Y2 q).toList ++ r1)) := by
    intro H1 locs1 w wx wr wS
    have e0 : Y2.2.2.2.2.1 = 10 + k1 := by simpa using hR
    have e1 : qz_rv Y2 q = some (qz_cv q.2 (qz_r false k1 q.1)) := by unfold qz_rv; rw [if_neg (by omega), e0]; unfold qz_tv; rw [if_neg (by omega), if_neg (by omega)]; rfl
    rw [e1]
    have wr2 := wr (by omega)
    rw [e0] at wr2
    exact k q.1 q.2 r q2 hx lsC _ H1 locs1 hca.2 (wx.lr hl) ⟨_, rfl, qz_rgR wr2, wx.sr _ _ hs⟩ w wS
  rcases hln with g | ⟨host, g⟩
  · exact qz_after (va_runS (bytes := Y2.2.1) (maxL := Y2.2.2.1) (ret := Y2.2.2.2.1) (As := as.map (qz_cv h)) (rest := r1) hfix hM ⟨callB_of n h8 (qz_good m1) rfl rfl rfl (htt _ m2) (htt _ g) ⟨m3.1, m3.2.1, m3.2.2⟩ ⟨rm1, rm2⟩, htt _ hv⟩ hpre rfl hlen hsize rfl hroom hca.1 ⟨rm3, rm4⟩) hW hS fin
  · exact qz_after (va_runSN (bytes := Y2.2.1) (maxL := Y2.2.2.1) (ret := Y2.2.2.2.1) (host := host) (As := as.map (qz_cv h)) (rest := r1) hfix hM ⟨va_cnB n h8 (qz_good m1) rfl rfl rfl (h9.2.2.1.1 _ g) (htt _ m2) ⟨m3.1, m3.2.1, m3.2.2⟩ ⟨rm1, rm2⟩, htt _ hv, trivial⟩ hpre rfl hlen hsize rfl hroom hca.1 ⟨rm3, rm4⟩) hW hS fin
theorem qz_inviV {idx n : Nat} {k0 : Nat} {x : Int} (as : List qz_V) {stk : List qz_V} {f : Int → qz_H → Option qz_R} (hst : stk = as.reverse ++ qz_r true k0 x :: st) (hm : qz_C Y2 (qz_r true k0 x :: as) h t) (hw : qz_mw Y2 n) (hv : Cond.instanceMethod Y2.1 ∈ kz_TT ∧ Y2.1.name = "<init>" ∧ Y2.2.2.2.1 = none) (hn : ((as.length == n) && (qz_sz st).ble 8) = true) (hrm : qz_rm Y Y2 cs sl = true) (hln : qz_ln Y.1.cls idx Y2) (hR : (Y2.2.2.2.2.1 == 0) = true) (k : ∀ r h', qz_J Y G is (pc + 3) ls st h' (cs + Y2.2.2.2.2.2.cells) (sl + Y2.2.2.2.2.2.slots) (f r h')) : qz_J Y G ((.invokespecial idx, 3) :: is) pc ls stk h cs sl (qz_bc t f) := by
  obtain ⟨p, l, e, s, m, args, below, meth, c, D, dA, B0, hc, h0⟩ := G
  intro r hr hx lsC stC H locs hca hl hs hW hS
  obtain ⟨h1, h2, h3, h4, h5, h6, h7, h8, h9⟩ := id hx
  subst hst
  obtain ⟨r1, q1, v1, hs2⟩ := qz_sr_app _ _ _ hs
  clear hs
  obtain ⟨r2, q2, v2, hs⟩ := hs2
  have hok := qz_vot v2
  rw [qz_cvr (qz_ok_ne hok)] at q2
  subst q2
  subst q1
  obtain ⟨q, qe, q2⟩ := qz_bc_some hr
  obtain ⟨m1, m2, m3, m4⟩ := hw
  obtain ⟨⟨rm1, rm2⟩, rm3, rm4⟩ := qz_rm_ok hrm
  simp only [Bool.and_eq_true, beq_iff_eq] at hn
  have hroom : 2 * (F0 m pc lsC ([] : List Value)).monitorRoom + (r2.map fun v => v.category).sum ≤ 8 := lv_room (Nat.le_trans (qz_sz_ok _ _ hs) (Nat.le_of_ble_eq_true hn.2))
  have hsize : lsC.size = Y.2.2.1 := by obtain ⟨lv, g1, -⟩ := hl; exact g1.1
  have hvo : ∀ v ∈ as, qz_vo h v := fun v hv => v1 v (List.mem_reverse.mpr hv)
  have hPc : ∀ U : State, U.heap = H → s.WarmedH U.vm → qz_P D dA B0 hc (qz_r true k0 x :: as) h (.ref (qz_ad h x) :: as.map (qz_cv h)).toArray U := by
    intro U hU hWm
    refine ⟨by rw [List.map_cons, qz_cvr (qz_ok_ne hok)], ?_, ?_, qz_E_at h9 hS hU hWm⟩
    · intro v hv
      rcases List.mem_cons.mp hv with z | z
      · rw [z]; exact v2
      · exact hvo v z
    · rw [hU]
      exact (hW.moved hWm.alike).re (qz_ex.rf h)
  have hM := hm q qe l h5.2 D dA B0 hc
  have hnone := hv.2.2
  have hfix : CallFix p m c Y.2.1 Y.2.2.1 s args kz_TT Y.1.cls := ⟨h1, h2, h3, h7, h8⟩
  have htt : ∀ w ∈ kz_TT, w.before args s = true := h8
  have hlen : (as.map (qz_cv h)).length = n := by rw [List.length_map]; exact hn.1
  have hpre : PreS s H (qz_P D dA B0 hc (qz_r true k0 x :: as) h) (.ref (qz_ad h x) :: as.map (qz_cv h)) := ⟨qz_blind, hPc⟩
  have hstk : as.reverse.map (qz_cv h) = (as.map (qz_cv h)).reverse := List.map_reverse
  rw [hstk]
  have fin : ∀ (H1 : Heap) (locs1 : List Loc), qz_W D dA B0 hc h0 s q.2 H1 → qz_ex h q.2 → (Y2.2.2.2.2.1 ≠ 0 → qz_rg q.2 Y2.2.2.2.2.1 q.1) → va_S (qz_A B0) s.heap H1 locs1 → W p l e Y.2.2.2.2.2 s m args below meth c H1 locs1 (cs + Y2.2.2.2.2.2.cells) (sl + Y2.2.2.2.2.2.slots) (qz_FQ Y below D dA B0 hc h0 args s r) (F0 m (pc + 3) lsC ((qz_rv Y2 q).toList ++ r2)) := by
    intro H1 locs1 w wx wr wS
    have e0 : Y2.2.2.2.2.1 = 0 := by simpa using hR
    have e1 : qz_rv Y2 q = none := by unfold qz_rv; rw [if_pos e0]
    rw [e1]
    exact k q.1 q.2 r q2 hx lsC _ H1 locs1 hca.2 (wx.lr hl) (wx.sr _ _ hs) w wS
  rcases hln with g | ⟨host, g⟩
  · refine qz_after (va_runI (bytes := Y2.2.1) (maxL := Y2.2.2.1) (b := qz_ad h x) (As := as.map (qz_cv h)) (rest := r2) hfix hM ?_ hpre rfl hlen hsize rfl hroom hca.1 ⟨rm3, rm4⟩) hW hS fin
    rw [← hnone]
    exact ⟨callB_of n h8 (qz_good m1) rfl rfl rfl (htt _ m2) (htt _ g) ⟨m3.1, m3.2.1, m3.2.2⟩ ⟨rm1, rm2⟩, hv.2.1, htt _ hv.1⟩
  · refine qz_after (va_runIN (bytes := Y2.2.1) (maxL := Y2.2.2.1) (host := host) (b := qz_ad h x) (As := as.map (qz_cv h)) (rest := r2) hfix hM ?_ hpre rfl hlen hsize rfl hroom hca.1 ⟨rm3, rm4⟩) hW hS fin
    rw [← hnone]
    exact ⟨va_cnB n h8 (qz_good m1) rfl rfl rfl (h9.2.2.1.1 _ g) (htt _ m2) ⟨m3.1, m3.2.1, m3.2.2⟩ ⟨rm1, rm2⟩, hv.2.1, htt _ hv.1⟩
theorem qz_invuI {xm : MethodName} {idx n : Nat} {k0 : Nat} {x : Int} (as : List qz_V) {stk : List qz_V} {f : Int → qz_H → Option qz_R} (hst : stk = as.reverse ++ qz_r true k0 x :: st) (hm : qz_C Y2 (qz_r true k0 x :: as) h t) (hw : qz_mw Y2 n) (hv : Cond.methodLink Y.1.cls idx xm ∈ kz_TT ∧ Cond.sameMethod xm.cls Y2.1.cls xm.name xm.desc ∈ kz_TT ∧ Cond.selects xm.cls xm Y2.1 ∈ kz_TT ∧ Cond.instanceMethod Y2.1 ∈ kz_TT) (hxm : (⟨Y2.1.cls, xm.name, xm.desc⟩ : MethodName) = Y2.1) (hk0 : ∃ q : vw_C, kz_cl[k0]? = some q ∧ xm.cls = q.1 ∧ k0 < 40) (hn : ((as.length == n) && (qz_sz st).ble 8) = true) (hrm : qz_rm Y Y2 cs sl = true) (hR : (decide (Y2.2.2.2.2.1 < 10) && !(Y2.2.2.2.2.1 == 2) && !(Y2.2.2.2.2.1 == 0)) = true) (k : ∀ r h', qz_J Y G is (pc + 3) ls (qz_i r :: st) h' (cs + Y2.2.2.2.2.2.cells) (sl + Y2.2.2.2.2.2.slots) (f r h')) : qz_J Y G ((.invokevirtual idx, 3) :: is) pc ls stk h cs sl (qz_bc t f) := by
  obtain ⟨p, l, e, s, m, args, below, meth, c, D, dA, B0, hc, h0⟩ := G
  intro r hr hx lsC stC H locs hca hl hs hW hS
  obtain ⟨h1, h2, h3, h4, h5, h6, h7, h8, h9⟩ := id hx
  subst hst
  obtain ⟨r1, q1, v1, hs2⟩ := qz_sr_app _ _ _ hs
  clear hs
  obtain ⟨r2, q2, v2, hs⟩ := hs2
  have hok := qz_vot v2
  rw [qz_cvr (qz_ok_ne hok)] at q2
  subst q2
  subst q1
  obtain ⟨q, qe, q2⟩ := qz_bc_some hr
  obtain ⟨m1, m2, m3, m4⟩ := hw
  obtain ⟨⟨rm1, rm2⟩, rm3, rm4⟩ := qz_rm_ok hrm
  simp only [Bool.and_eq_true, beq_iff_eq] at hn
  have hroom : 2 * (F0 m pc lsC ([] : List Value)).monitorRoom + (r2.map fun v => v.category).sum ≤ 8 := lv_room (Nat.le_trans (qz_sz_ok _ _ hs) (Nat.le_of_ble_eq_true hn.2))
  have hsize : lsC.size = Y.2.2.1 := by obtain ⟨lv, g1, -⟩ := hl; exact g1.1
  have hvo : ∀ v ∈ as, qz_vo h v := fun v hv => v1 v (List.mem_reverse.mpr hv)
  have hPc : ∀ U : State, U.heap = H → s.WarmedH U.vm → qz_P D dA B0 hc (qz_r true k0 x :: as) h (.ref (qz_ad h x) :: as.map (qz_cv h)).toArray U := by
    intro U hU hWm
    refine ⟨by rw [List.map_cons, qz_cvr (qz_ok_ne hok)], ?_, ?_, qz_E_at h9 hS hU hWm⟩
    · intro v hv
      rcases List.mem_cons.mp hv with z | z
      · rw [z]; exact v2
      · exact hvo v z
    · rw [hU]
      exact (hW.moved hWm.alike).re (qz_ex.rf h)
  have hM := hm q qe l h5.2 D dA B0 hc
  have hfix : CallFix p m c Y.2.1 Y.2.2.1 s args kz_TT Y.1.cls := ⟨h1, h2, h3, h7, h8⟩
  have htt : ∀ w ∈ kz_TT, w.before args s = true := h8
  have hlen : (as.map (qz_cv h)).length = n := by rw [List.length_map]; exact hn.1
  obtain ⟨qc, k1', k2', k3'⟩ := hk0
  obtain ⟨⟨cell, b1, b2, b3, b4, -⟩, -⟩ := (hW.2.1 x k0 hok).1 k3'
  have hcls := (h9.2.1.1 k0 qc k1').2.1
  have hpre : PreV s H xm.cls (qz_ad h x) (qz_P D dA B0 hc (qz_r true k0 x :: as) h) (as.map (qz_cv h)) := ⟨qz_blind, ⟨cell, b1, b4, by rw [b2, k2']; exact hcls⟩, hPc⟩
  have hstk : as.reverse.map (qz_cv h) = (as.map (qz_cv h)).reverse := List.map_reverse
  rw [hstk]
  have fin : ∀ (H1 : Heap) (locs1 : List Loc), qz_W D dA B0 hc h0 s q.2 H1 → qz_ex h q.2 → (Y2.2.2.2.2.1 ≠ 0 → qz_rg q.2 Y2.2.2.2.2.1 q.1) → va_S (qz_A B0) s.heap H1 locs1 → W p l e Y.2.2.2.2.2 s m args below meth c H1 locs1 (cs + Y2.2.2.2.2.2.cells) (sl + Y2.2.2.2.2.2.slots) (qz_FQ Y below D dA B0 hc h0 args s r) (F0 m (pc + 3) lsC ((qz_rv Y2 q).toList ++ r2)) := by
    intro H1 locs1 w wx wr wS
    simp only [Bool.and_eq_true, decide_eq_true_eq, Bool.not_eq_true', beq_eq_false_iff_ne, ne_eq] at hR
    have e1 : qz_rv Y2 q = some (qz_cv q.2 (qz_i q.1)) := by unfold qz_rv; rw [if_neg hR.2]; unfold qz_tv; rw [if_neg hR.1.2, if_pos hR.1.1]; rfl
    rw [e1]
    exact k q.1 q.2 r q2 hx lsC _ H1 locs1 hca.2 (wx.lr hl) ⟨_, rfl, qz_rgI hR.1.1 hR.1.2 (wr hR.2), wx.sr _ _ hs⟩ w wS
  have hT : GoodIn kz_TT (va_wsU Y.1.cls idx xm.cls Y2.1.cls xm Y2.1 (qz_ws Y2)) := by
    intro w hw
    have gd : ∀ w, w ∈ kz_TT → w ∈ kz_TT ∧ ((w.onTables && w.keeps) = true ∨ ∃ ty, w = .arrayClass ty) := fun w hw => ⟨hw, kz_TTok _ hw⟩
    rcases List.mem_append.mp hw with z | z
    · simp only [List.mem_cons, List.not_mem_nil, or_false] at z
      rcases z with z | z | z | z | z
      · rw [z]; exact gd _ hv.1
      · rw [z]; exact gd _ hv.2.1
      · rw [z]; exact gd _ hv.2.2.1
      · rw [z]; exact gd _ hv.2.2.2
      · rw [z]; exact gd _ m2
    · exact qz_good m1 w z

  have hds : (parseMethodDescriptor xm.desc).map (fun d => d.parameters.length) = some n := by
    have := congrArg MethodName.desc hxm
    rw [show xm.desc = Y2.1.desc from this]; exact m3.2.2
  exact qz_after (va_runU (x := xm) (C := xm.cls) (owner := Y2.1.cls) (bytes := Y2.2.1) (maxL := Y2.2.2.1) (ret := Y2.2.2.2.1) (b := qz_ad h x) (As := as.map (qz_cv h)) (rest := r2) hfix hM (va_cwU n h8 hT rfl rfl rfl hxm.symm ⟨m3.1, m3.2.1, hds⟩ ⟨rm1, rm2⟩) hpre rfl hlen hsize rfl hroom hca.1 ⟨rm3, rm4⟩) hW hS fin
end QD
