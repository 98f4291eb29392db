section QE
variable {Y : qz_Y} {G : qz_G} {is isT : List (Instr × Nat)} {pc T : Nat} {ls st : List qz_V} {h : qz_H} {cs sl : Nat} {t t1 t2 : Option qz_R}
def qz_le (Y : qz_Y) (cs sl : Nat) : Bool := decide (cs ≤ Y.2.2.2.2.2.cells) && decide (sl ≤ Y.2.2.2.2.2.slots)
theorem qz_le_ok {Y : qz_Y} {cs sl : Nat} (h : qz_le Y cs sl = true) : cs ≤ Y.2.2.2.2.2.cells ∧ sl ≤ Y.2.2.2.2.2.slots := by
  simp only [qz_le, Bool.and_eq_true, decide_eq_true_eq] at h
  exact h

theorem qz_ireturn {x : Int} (hR : Y.2.2.2.1 = some .int ∧ Y.2.2.2.2.1 = 1) (hle : qz_le Y cs sl = true) : qz_J Y G ((.ireturn, 1) :: is) pc ls [qz_i x] h cs sl (some (x, h)) := by
  obtain ⟨p, l, e, s, m, args, below, meth, c, D, dA, B0, hc, h0⟩ := G
  intro r hr hx lsC stC H locs hca hl hs hW hS
  obtain ⟨h1, h2, h3, h4, h5, h6, h7, h8, h9⟩ := id hx
  obtain ⟨r1, rfl, v1, rfl⟩ := hs
  cases hr
  obtain ⟨l1, l2⟩ := qz_le_ok hle
  rw [qz_FQ_ret (by rw [hR.2]; decide)]
  refine W.widen l1 l2 ?_
  exact W.iret h1 h2 (h4.trans hR.1) (fun t ht hWm => ⟨⟨by unfold qz_rv; rw [if_neg (by rw [hR.2]; decide), hR.2]; rfl, by rw [ht]; exact hW.moved hWm.alike, fun hne => by rw [hR.2]; exact v1⟩, hS.F ht⟩) hS.2.2 hca.1 h5.1
theorem qz_zreturn {x : Int} (hR : Y.2.2.2.1 = some .boolean ∧ Y.2.2.2.2.1 = 3) (hle : qz_le Y cs sl = true) : qz_J Y G ((.ireturn, 1) :: is) pc ls [qz_i x] h cs sl (qz_ck (x = 0 ∨ x = 1) (some (x, h))) := by
  obtain ⟨p, l, e, s, m, args, below, meth, c, D, dA, B0, hc, h0⟩ := G
  intro r hr hx lsC stC H locs hca hl hs hW hS
  obtain ⟨h1, h2, h3, h4, h5, h6, h7, h8, h9⟩ := id hx
  obtain ⟨r1, rfl, v1, rfl⟩ := hs
  obtain ⟨hb, hr⟩ := qz_ck_some hr
  cases hr
  obtain ⟨l1, l2⟩ := qz_le_ok hle
  rw [qz_FQ_ret (by rw [hR.2]; decide)]
  refine W.widen l1 l2 ?_
  have hn : narrow .boolean (.int (Int32.ofInt x)) = .int (Int32.ofInt x) := (qz_nf (h := h) (ty := .boolean) (t := 3) rfl hb).1
  exact W.zret h1 h2 (h4.trans hR.1) hn (fun t ht hWm => ⟨⟨by unfold qz_rv; rw [if_neg (by rw [hR.2]; decide), hR.2]; rfl, by rw [ht]; exact hW.moved hWm.alike, fun hne => by rw [hR.2]; exact hb⟩, hS.F ht⟩) hS.2.2 hca.1 h5.1
theorem qz_breturn {x : Int} (hR : Y.2.2.2.1 = some .byte ∧ Y.2.2.2.2.1 = 5) (hle : qz_le Y cs sl = true) : qz_J Y G ((.ireturn, 1) :: is) pc ls [qz_i x] h cs sl (qz_ck (-128 ≤ x ∧ x ≤ 127) (some (x, h))) := by
  obtain ⟨p, l, e, s, m, args, below, meth, c, D, dA, B0, hc, h0⟩ := G
  intro r hr hx lsC stC H locs hca hl hs hW hS
  obtain ⟨h1, h2, h3, h4, h5, h6, h7, h8, h9⟩ := id hx
  obtain ⟨r1, rfl, v1, rfl⟩ := hs
  obtain ⟨hb, hr⟩ := qz_ck_some hr
  cases hr
  obtain ⟨l1, l2⟩ := qz_le_ok hle
  rw [qz_FQ_ret (by rw [hR.2]; decide)]
  refine W.widen l1 l2 ?_
  have hn : narrow .byte (.int (Int32.ofInt x)) = .int (Int32.ofInt x) := (qz_nf (h := h) (ty := .byte) (t := 5) rfl hb).1
  exact W.zret h1 h2 (h4.trans hR.1) hn (fun t ht hWm => ⟨⟨by unfold qz_rv; rw [if_neg (by rw [hR.2]; decide), hR.2]; rfl, by rw [ht]; exact hW.moved hWm.alike, fun hne => by rw [hR.2]; exact hb⟩, hS.F ht⟩) hS.2.2 hca.1 h5.1
theorem qz_creturn {x : Int} (hR : Y.2.2.2.1 = some .char ∧ Y.2.2.2.2.1 = 4) (hle : qz_le Y cs sl = true) : qz_J Y G ((.ireturn, 1) :: is) pc ls [qz_i x] h cs sl (qz_ck (0 ≤ x ∧ x ≤ 65535) (some (x, h))) := by
  obtain ⟨p, l, e, s, m, args, below, meth, c, D, dA, B0, hc, h0⟩ := G
  intro r hr hx lsC stC H locs hca hl hs hW hS
  obtain ⟨h1, h2, h3, h4, h5, h6, h7, h8, h9⟩ := id hx
  obtain ⟨r1, rfl, v1, rfl⟩ := hs
  obtain ⟨hb, hr⟩ := qz_ck_some hr
  cases hr
  obtain ⟨l1, l2⟩ := qz_le_ok hle
  rw [qz_FQ_ret (by rw [hR.2]; decide)]
  refine W.widen l1 l2 ?_
  have hn : narrow .char (.int (Int32.ofInt x)) = .int (Int32.ofInt x) := by
    show Value.int (Int32.ofInt x).toUInt32.toUInt16.toUInt32.toInt32 = _
    have e := qz_nc_eq x
    unfold qz_nc at e
    rw [show (Int32.ofInt x).toUInt32.toUInt16.toUInt32.toInt32 = Int32.ofInt x from Int32.toInt_inj.mp (by rw [e, qz_t32 ⟨by omega, by omega⟩]; omega)]
  exact W.zret h1 h2 (h4.trans hR.1) hn (fun t ht hWm => ⟨⟨by unfold qz_rv; rw [if_neg (by rw [hR.2]; decide), hR.2]; rfl, by rw [ht]; exact hW.moved hWm.alike, fun hne => by rw [hR.2]; exact hb⟩, hS.F ht⟩) hS.2.2 hca.1 h5.1
theorem qz_lreturn {x : Int} (hR : Y.2.2.2.1 = some .long ∧ Y.2.2.2.2.1 = 2) (hle : qz_le Y cs sl = true) : qz_J Y G ((.lreturn, 1) :: is) pc ls [qz_j x] h cs sl (some (x, h)) := by
  obtain ⟨p, l, e, s, m, args, below, meth, c, D, dA, B0, hc, h0⟩ := G
  intro r hr hx lsC stC H locs hca hl hs hW hS
  obtain ⟨h1, h2, h3, h4, h5, h6, h7, h8, h9⟩ := id hx
  obtain ⟨r1, rfl, v1, rfl⟩ := hs
  cases hr
  obtain ⟨l1, l2⟩ := qz_le_ok hle
  rw [qz_FQ_ret (by rw [hR.2]; decide)]
  refine W.widen l1 l2 ?_
  exact W.lret h1 h2 (h4.trans hR.1) (fun t ht hWm => ⟨⟨by unfold qz_rv; rw [if_neg (by rw [hR.2]; decide), hR.2]; rfl, by rw [ht]; exact hW.moved hWm.alike, fun hne => by rw [hR.2]; exact v1⟩, hS.F ht⟩) hS.2.2 hca.1 h5.1
theorem qz_return (hR : Y.2.2.2.1 = none ∧ Y.2.2.2.2.1 = 0) (hle : qz_le Y cs sl = true) : qz_J Y G ((.return_, 1) :: is) pc ls [] h cs sl (some (0, h)) := by
  obtain ⟨p, l, e, s, m, args, below, meth, c, D, dA, B0, hc, h0⟩ := G
  intro r hr hx lsC stC H locs hca hl hs hW hS
  obtain ⟨h1, h2, h3, h4, h5, h6, h7, h8, h9⟩ := id hx
  cases hs
  cases hr
  obtain ⟨l1, l2⟩ := qz_le_ok hle
  rw [qz_FQ_ret (by rw [hR.2]; decide)]
  refine W.widen l1 l2 ?_
  exact W.vret h1 h2 (h4.trans hR.1) (fun t ht hWm => ⟨⟨by unfold qz_rv; rw [if_pos hR.2], by rw [ht]; exact hW.moved hWm.alike, fun hne => absurd hR.2 hne⟩, hS.F ht⟩) hS.2.2 hca.1 h5.1
theorem qz_areturn {x : Int} {b : Bool} {k1 : Nat} {C : String} (hR : Y.2.2.2.1 = some (.object C) ∧ Y.2.2.2.2.1 = 10 + k1 ∧ k1 < 50) (hle : qz_le Y cs sl = true) : qz_J Y G ((.areturn, 1) :: is) pc ls [qz_r b k1 x] h cs sl (some (x, h)) := by
  obtain ⟨p, l, e, s, m, args, below, meth, c, D, dA, B0, hc, h0⟩ := G
  intro r hr hx lsC stC H locs hca hl hs hW hS
  obtain ⟨h1, h2, h3, h4, h5, h6, h7, h8, h9⟩ := id hx
  obtain ⟨r1, rfl, v1, rfl⟩ := hs
  cases hr
  obtain ⟨l1, l2⟩ := qz_le_ok hle
  rw [qz_FQ_ret (by rw [hR.2.1]; omega)]
  refine W.widen l1 l2 ?_
  refine W.aret h1 h2 (h4.trans hR.1) (Or.inl ⟨C, rfl⟩) (v := va_rf (qz_rf h x)) (by cases qz_rf h x with
    | none => exact Or.inl rfl
    | some a => exact Or.inr ⟨a, rfl⟩) (fun t ht hWm => ⟨⟨by unfold qz_rv; rw [if_neg (by rw [hR.2.1]; omega), hR.2.1]; unfold qz_tv; rw [if_neg (by omega), if_neg (by omega)], by rw [ht]; exact hW.moved hWm.alike, fun hne => by rw [hR.2.1]; exact qz_rgR' v1⟩, hS.F ht⟩) hS.2.2 hca.1 h5.1
theorem qz_alen {k0 : Nat} {a : Int} (h40 : decide (40 ≤ k0) = true) (k : qz_J Y G is (pc + 1) ls (qz_i (h a (-1)) :: st) h cs sl t) : qz_J Y G ((.arraylength, 1) :: is) pc ls (qz_r true k0 a :: st) h cs sl t := by
  obtain ⟨p, l, e, s, m, args, below, meth, c, D, dA, B0, hc, h0⟩ := G
  intro r hr hx lsC stC H locs hca hl hs hW hS
  obtain ⟨h1, h2, h3, h4, h5, h6, h7, h8, h9⟩ := id hx
  obtain ⟨r1, q1, v1, hs⟩ := hs
  have hok := qz_vot v1
  rw [qz_cvr (qz_ok_ne hok)] at q1
  subst q1
  have h40 : 40 ≤ k0 := by simpa using h40
  obtain ⟨⟨cell, b1, b2, b3, b4, b5, b6, b7⟩, b8, b9, b10⟩ := (hW.2.1 a k0 hok).2 h40
  refine W.alen h1 h2 b1 b2 b6 rfl rfl hca.1 ?_
  exact k r hr hx lsC _ H locs hca.2 hl ⟨r1, rfl, ⟨by omega, b9⟩, hs⟩ hW hS
def qz_mk (h : qz_H) (k n : Int) (f : qz_H → Int → Option qz_R) : Option qz_R := f (qz_nw h k n) (h 0 0 + 1)
theorem qz_dv {h : qz_H} {ty : FieldType} {t : Nat} (hc : qz_tc ty t = true) : defaultValue ty = qz_tv h t 0 ∧ qz_rg h t 0 := by
  cases ty with
  | int =>
    have : t = 1 := by simpa [qz_tc] using hc
    subst this
    exact ⟨rfl, ⟨by decide, by decide⟩⟩
  | long =>
    have : t = 2 := by simpa [qz_tc] using hc
    subst this
    exact ⟨rfl, ⟨by decide, by decide⟩⟩
  | boolean =>
    have : t = 3 := by simpa [qz_tc] using hc
    subst this
    exact ⟨rfl, Or.inl rfl⟩
  | byte =>
    have : t = 5 := by simpa [qz_tc] using hc
    subst this
    exact ⟨rfl, ⟨by decide, by decide⟩⟩
  | object n =>
    have ht : 10 ≤ t := by simpa [qz_tc] using hc
    refine ⟨?_, ?_⟩
    · unfold qz_tv; rw [if_neg (by omega), if_neg (by omega)]; rfl
    · unfold qz_rg; rw [if_neg (by omega), if_neg (by omega), if_neg (by omega), if_neg (by omega), if_neg (by omega)]; exact Or.inl rfl
  | array n =>
    have ht : 10 ≤ t := by simpa [qz_tc] using hc
    refine ⟨?_, ?_⟩
    · unfold qz_tv; rw [if_neg (by omega), if_neg (by omega)]; rfl
    · unfold qz_rg; rw [if_neg (by omega), if_neg (by omega), if_neg (by omega), if_neg (by omega), if_neg (by omega)]; exact Or.inl rfl
  | _ => cases hc
theorem qz_nw_cv {D : va_G} {dA : Nat → ClassId} {B0 : Nat} {hc h0 : qz_H} {U : State} {H : Heap} {k n : Int} {k0 : Nat} (hW : qz_W D dA B0 hc h0 U h H) : qz_cv (qz_nw h k n) (qz_r true k0 (h 0 0 + 1)) = .ref H.size ∧ qz_ad (qz_nw h k n) (h 0 0 + 1) = H.size := by
  obtain ⟨⟨w0, w1⟩, -⟩ := hW
  have adn : qz_ad (qz_nw h k n) (h 0 0 + 1) = H.size := by
    unfold qz_ad
    rw [qz_nw_new w0, if_neg (by decide), if_neg (by decide), if_pos rfl, w1]
    simp
  exact ⟨by rw [qz_cvr (by omega), adn], adn⟩
theorem qz_nw_ok {k n : Int} {k0 : Nat} (h00 : 0 ≤ h 0 0) (hk : k = (k0 : Int)) : qz_ok (qz_nw h k n) k0 (h 0 0 + 1) := by
  refine ⟨Or.inl ⟨by omega, by rw [qz_nw_00]; exact Int.le_refl _⟩, ?_⟩
  rw [qz_nw_new h00, if_neg (by decide), if_pos rfl]
  exact hk
theorem qz_S_new {A : Nat → Prop} {H0 H H' : Heap} {locs : List Loc} (hS : va_S A H0 H locs) (hz : H'.size = H.size + 1) (hq : ∀ q, q < H.size → H'[q]? = H[q]?) : va_S A H0 H' locs :=
  ⟨Nat.le_trans hS.1 (by omega), fun x h1 h2 => (hq x (Nat.lt_of_lt_of_le h1 hS.1)).trans (hS.2.1 x h1 h2), hS.2.2⟩
theorem qz_new {idx k0 : Nat} {kI : Int} {f : qz_H → Int → Option qz_R} (hw : qz_cw k0) (hk : kI = (k0 : Int)) (hf : ∃ q : vw_C, kz_cl[k0]? = some q ∧ Cond.classLink Y.1.cls idx q.1 ∈ kz_TT ∧ Cond.instantiable q.1 (kz_N k0) ∈ kz_TT ∧ Cond.initialized q.1 ∈ kz_TT) (hle : qz_le Y (cs + 1) (sl + kz_N k0) = true)
    (k : ∀ h' x, qz_J Y G is (pc + 3) ls (qz_r true k0 x :: st) h' (cs + 1) (sl + kz_N k0) (f h' x)) : qz_J Y G ((.new idx, 3) :: is) pc ls st h cs sl (qz_mk h kI 0 f) := by
  obtain ⟨p, l, e, s, m, args, below, meth, c, D, dA, B0, hc, h0⟩ := G
  intro r hr hx lsC stC H locs hca hl hs hW hS
  obtain ⟨h1, h2, h3, h4, h5, h6, h7, h8, h9⟩ := id hx
  subst hk
  obtain ⟨q, c1, c2, c3, c4, c5, c6, c7⟩ := hw
  obtain ⟨q', f1, f2, f3, f4⟩ := hf
  cases c1.symm.trans f1
  obtain ⟨l1, l2⟩ := qz_le_ok hle
  have hts : ∀ w ∈ kz_TT, w.before args s = true := h8
  have hKn := h9.2.1.kn c1 c3.2
  refine W.newcK h1 h2 h7 (hts _ f2) (hts _ f3) (hts _ f4) rfl hca.1 l1 l2 hKn.2.1 rfl fun H' kC hkC e1 e2 e3 => ?_
  obtain ⟨g1, g2⟩ := qz_nw_cv (k := (k0 : Int)) (n := 0) (k0 := k0) hW
  have ex := qz_nw_ex (h := h) (x := (k0 : Int)) (n := 0) hW.1.1
  obtain ⟨cell, t1, t2, t3, t4⟩ := u_born (kz_fT k0) hts c4 hKn hkC e1 c5
  refine k (qz_nw h k0 0) (h 0 0 + 1) r hr hx lsC _ H' locs hca.2 (ex.lr hl) ⟨_, by rw [g1], Or.inr (qz_nw_ok hW.1.1 rfl), ex.sr _ _ hs⟩ ?_ (qz_S_new hS e2 e3)
  refine qz_W_nw hW (by omega) (Nat.le_trans h9.1 hS.1) e2 e3 ⟨fun _ => ⟨⟨cell, by rw [g2]; exact t1, t2, by rw [t3]; exact fun z => (by cases z), by rw [t3]; rfl, fun _ => t3, fun j hj => ?_⟩, fun j hj => ?_⟩, fun z => absurd c3.1 (by omega)⟩
  · rw [t4 j (by rw [c2]; exact hj), qz_nw_new hW.1.1, if_neg (by omega), if_neg (by omega), if_neg (by omega)]
    exact congrArg some (qz_dv (h := qz_nw h k0 0) (c7 j (by rw [c2]; exact hj))).1
  · rw [qz_nw_new hW.1.1, if_neg (by omega), if_neg (by omega), if_neg (by omega)]
    exact (qz_dv (c7 j (by rw [c2]; exact hj))).2
def qz_ta (ty : FieldType) (t : Nat) : Bool := match ty with
  | .int => t == 1
  | .long => t == 2
  | .boolean => t == 3
  | .char => t == 4
  | .byte => t == 5
  | .object _ => decide (10 ≤ t)
  | _ => false
theorem qz_da {h : qz_H} {ty : FieldType} {t : Nat} (hc : qz_ta ty t = true) : defaultValue ty = qz_tv h t 0 ∧ qz_rg h t 0 := by
  cases ty with
  | int =>
    have : t = 1 := by simpa [qz_ta] using hc
    subst this
    exact ⟨rfl, ⟨by decide, by decide⟩⟩
  | long =>
    have : t = 2 := by simpa [qz_ta] using hc
    subst this
    exact ⟨rfl, ⟨by decide, by decide⟩⟩
  | boolean =>
    have : t = 3 := by simpa [qz_ta] using hc
    subst this
    exact ⟨rfl, Or.inl rfl⟩
  | char =>
    have : t = 4 := by simpa [qz_ta] using hc
    subst this
    exact ⟨rfl, ⟨by decide, by decide⟩⟩
  | byte =>
    have : t = 5 := by simpa [qz_ta] using hc
    subst this
    exact ⟨rfl, ⟨by decide, by decide⟩⟩
  | object n =>
    have ht : 10 ≤ t := by simpa [qz_ta] using hc
    refine ⟨?_, ?_⟩
    · unfold qz_tv; rw [if_neg (by omega), if_neg (by omega)]; rfl
    · unfold qz_rg; rw [if_neg (by omega), if_neg (by omega), if_neg (by omega), if_neg (by omega), if_neg (by omega)]; exact Or.inl rfl
  | _ => cases hc
/-- an array is new: what its cell says -/
theorem qz_W_arr {D : va_G} {dA : Nat → ClassId} {B0 : Nat} {hc h0 : qz_H} {U : State} {H H' : Heap} {k0 N : Nat} {ty : FieldType} (hW : qz_W D dA B0 hc h0 U h H) (h40 : 40 ≤ k0) (h99 : k0 < 99) (hT : kz_aT k0 = ty) (hE : qz_ta ty (kz_ae k0) = true) (hN : N ≤ 2147483647) (hB : B0 ≤ H.size) (hAr : ArrOfT U (dA k0) ty) (hz : H'.size = H.size + 1) (hq : ∀ q, q < H.size → H'[q]? = H[q]?)
    (he : H'[H.size]? = some (arrV (dA k0) N (fun _ => defaultValue ty))) : qz_W D dA B0 hc h0 U (qz_nw h k0 N) H' := by
  obtain ⟨g1, g2⟩ := qz_nw_cv (k := (k0 : Int)) (n := (N : Int)) (k0 := k0) hW
  have hlen : qz_nw h k0 N (h 0 0 + 1) (-1) = (N : Int) := by rw [qz_nw_new hW.1.1, if_pos rfl]
  refine qz_W_nw hW h99 hB hz hq ⟨fun z => absurd h40 (by omega), fun _ => ⟨⟨_, by rw [g2]; exact he, by rw [hT]; exact hAr N _, fun z => (by cases z), fun _ => ⟨rfl, rfl⟩, ?_, ?_, fun j hj => ?_⟩, ?_, ?_, fun j hj => ?_⟩⟩
  · rw [hlen, arrV_size]; exact Nat.le_of_eq (Int.toNat_natCast N)
  · rw [hlen, arrV_size]
    show Int32.ofNat N = _
    rw [Int32.ofInt_eq_ofNat]
  · rw [hlen, Int.toNat_natCast] at hj
    rw [arrV_read _ _ hj, qz_nw_new hW.1.1, if_neg (by omega), if_neg (by omega), if_neg (by omega), (qz_da (h := qz_nw h k0 N) hE).1]
  · rw [hlen]; omega
  · rw [hlen]; omega
  · rw [qz_nw_new hW.1.1, if_neg (by omega), if_neg (by omega), if_neg (by omega)]
    exact (qz_da hE).2
theorem qz_tys_at {dA : Nat → ClassId} {k0 : Nat} (hk : k0 ∈ kz_ak) : ∃ i : Nat, (qz_tys dA)[i]? = some (dA k0, kz_aT k0) := by
  apply List.getElem?_of_mem
  exact List.mem_map.mpr ⟨k0, hk, rfl⟩

theorem qz_newa {at0 : ArrayType} {k0 N : Nat} {n kI : Int} {f : qz_H → Int → Option qz_R} (hk : kI = (k0 : Int)) (hn : n = (N : Int)) (hak : k0 ∈ kz_ak) (h40 : (decide (40 ≤ k0) && decide (k0 < 99) && decide (N ≤ 100000)) = true) (hT : kz_aT k0 = newarray.typeOf at0) (hE : qz_ta (newarray.typeOf at0) (kz_ae k0) = true) (hby : componentBytes (newarray.typeOf at0) ≤ 8) (hw : Cond.arrayClass (newarray.typeOf at0) ∈ kz_TT) (hle : qz_le Y (cs + 1) (sl + N) = true)
    (k : ∀ h' x, qz_J Y G is (pc + 2) ls (qz_r true k0 x :: st) h' (cs + 1) (sl + N) (f h' x)) : qz_J Y G ((.newarray at0, 2) :: is) pc ls (qz_i n :: st) h cs sl (qz_mk h kI n f) := by
  obtain ⟨p, l, e, s, m, args, below, meth, c, D, dA, B0, hc, h0⟩ := G
  intro r hr hx lsC stC H locs hca hl hs hW hS
  obtain ⟨h1, h2, h3, h4, h5, h6, h7, h8, h9⟩ := id hx
  subst hk
  subst hn
  obtain ⟨r1, rfl, v1, hs⟩ := hs
  obtain ⟨l1, l2⟩ := qz_le_ok hle
  simp only [Bool.and_eq_true, decide_eq_true_eq] at h40
  obtain ⟨⟨h40, h99⟩, hN⟩ := h40
  have hts : ∀ w ∈ kz_TT, w.before args s = true := h8
  have h32 : qz_32 (N : Int) := v1
  have hcl : (Int32.ofInt (N : Int)).toNatClampNeg = N := by
    show (Int32.ofInt (N : Int)).toInt.toNat = N
    rw [qz_t32 h32]; simp
  refine va_newaK h1 h2 (hts _ hw) rfl hca.1 rfl (by rw [qz_l0 h32]; omega) hcl (Nat.le_trans (Nat.mul_le_mul hN hby) (by decide)) l1 l2 rfl fun H' cA e1 e2 e3 hAr hNm => ?_
  obtain ⟨i, hi⟩ := qz_tys_at (dA := dA) hak
  obtain ⟨k1, k2⟩ := h9.2.1.2 i _ hi
  have hcA : cA = dA k0 := by
    dsimp only at k2
    rw [hT] at k2
    have k2' : s.vm.findClass ("[" ++ (newarray.typeOf at0).toString) = some (dA k0) := by cases at0 <;> exact k2
    exact Option.some.inj (hNm.symm.trans k2')
  subst hcA
  obtain ⟨g1, g2⟩ := qz_nw_cv (k := (k0 : Int)) (n := (N : Int)) (k0 := k0) hW
  have ex := qz_nw_ex (h := h) (x := (k0 : Int)) (n := (N : Int)) hW.1.1
  refine k (qz_nw h k0 N) (h 0 0 + 1) r hr hx lsC _ H' locs hca.2 (ex.lr hl) ⟨_, by rw [g1], Or.inr (qz_nw_ok hW.1.1 rfl), ex.sr _ _ hs⟩ ?_ (qz_S_new hS e2 e3)
  exact qz_W_arr hW h40 h99 hT hE (by omega) (Nat.le_trans h9.1 hS.1) hAr e2 e3 e1
theorem qz_anew {idx k0 N : Nat} {C : String} {n kI : Int} {f : qz_H → Int → Option qz_R} (hk : kI = (k0 : Int)) (hn : n = (N : Int)) (hak : k0 ∈ kz_ak) (h40 : (decide (40 ≤ k0) && decide (k0 < 99) && decide (N ≤ 100000)) = true) (hT : kz_aT k0 = .object C) (hE : qz_ta (.object C) (kz_ae k0) = true) (hw : Cond.classLink Y.1.cls idx C ∈ kz_TT ∧ C ∈ kz_ao) (hle : qz_le Y (cs + 1) (sl + N) = true)
    (k : ∀ h' x, qz_J Y G is (pc + 3) ls (qz_r true k0 x :: st) h' (cs + 1) (sl + N) (f h' x)) : qz_J Y G ((.anewarray idx, 3) :: is) pc ls (qz_i n :: st) h cs sl (qz_mk h kI n f) := by
  obtain ⟨p, l, e, s, m, args, below, meth, c, D, dA, B0, hc, h0⟩ := G
  intro r hr hx lsC stC H locs hca hl hs hW hS
  obtain ⟨h1, h2, h3, h4, h5, h6, h7, h8, h9⟩ := id hx
  subst hk
  subst hn
  obtain ⟨r1, rfl, v1, hs⟩ := hs
  obtain ⟨l1, l2⟩ := qz_le_ok hle
  simp only [Bool.and_eq_true, decide_eq_true_eq] at h40
  obtain ⟨⟨h40, h99⟩, hN⟩ := h40
  have hts : ∀ w ∈ kz_TT, w.before args s = true := h8
  have h32 : qz_32 (N : Int) := v1
  have hcl : (Int32.ofInt (N : Int)).toNatClampNeg = N := by
    show (Int32.ofInt (N : Int)).toInt.toNat = N
    rw [qz_t32 h32]; simp
  refine W.anew h1 h2 h7 (hts _ hw.1) (va_AO.use (h9.2.2.1.2.1.1 C hw.2)) rfl hca.1 rfl (by rw [qz_l0 h32]; omega) (by rw [hcl]; omega) l1 (by rw [hcl]; exact l2) fun cA kA comp a1 a2 a3 a4 => ?_
  rw [hcl]
  obtain ⟨i, hi⟩ := qz_tys_at (dA := dA) hak
  obtain ⟨k1, k2⟩ := h9.2.1.2 i _ hi
  dsimp only at k1 k2
  rw [hT] at k1 k2
  obtain ⟨kA', comp', k3, k4, k5, k6⟩ := k2
  have hcA : cA = dA k0 := Option.some.inj (a1.symm.trans k6)
  subst hcA
  obtain ⟨g1, g2⟩ := qz_nw_cv (k := (k0 : Int)) (n := (N : Int)) (k0 := k0) hW
  have ex := qz_nw_ex (h := h) (x := (k0 : Int)) (n := (N : Int)) hW.1.1
  have e2 : (H.push { cls := dA k0, slots := Array.replicate N .null, vm := .none }).size = H.size + 1 := by simp
  have e3 : ∀ q, q < H.size → (H.push { cls := dA k0, slots := Array.replicate N .null, vm := .none })[q]? = H[q]? := fun q hq => by rw [Array.getElem?_push, if_neg (Nat.ne_of_lt hq)]
  refine k (qz_nw h k0 N) (h 0 0 + 1) r hr hx lsC _ _ locs hca.2 (ex.lr hl) ⟨_, by rw [g1], Or.inr (qz_nw_ok hW.1.1 rfl), ex.sr _ _ hs⟩ ?_ (qz_S_new hS e2 e3)
  exact qz_W_arr hW h40 h99 hT hE (by omega) (Nat.le_trans h9.1 hS.1) k1 e2 e3 (by show _ = some (arrV (dA k0) N (fun _ => Value.null)); rw [← arrV_new]; simp)
theorem qz_aast {k0 k1 : Nat} {a i v : Int} {C : String} {f : qz_H → Option qz_R} (h40 : decide (40 ≤ k0) = true) (hT : kz_aT k0 = .object C) (he : (kz_ae k0 == 10 + k1) = true) (hak : k0 ∈ kz_ak) (hcl : ∃ q : vw_C, kz_cl[k1]? = some q ∧ q.1 = C ∧ k1 < 40) (k : ∀ h', qz_J Y G is (pc + 1) ls st h' cs sl (f h')) : qz_J Y G ((.aastore, 1) :: is) pc ls (qz_r true k1 v :: qz_i i :: qz_r true k0 a :: st) h cs sl (qz_ck (0 < a ∧ 0 ≤ i ∧ i < h a (-1)) (qz_bn (qz_up h a i v) f)) := by
  obtain ⟨p, l, e, s, m, args, below, meth, c, D, dA, B0, hc, h0⟩ := G
  intro r hr hx lsC stC H locs hca hl hs hW hS
  obtain ⟨h1, h2, h3, h4, h5, h6, h7, h8, h9⟩ := id hx
  obtain ⟨rv, qv, v0, r0, q0, vi, r1, q1, v1, hs⟩ := hs
  obtain ⟨⟨hpos, g1, g2⟩, hr⟩ := qz_ck_some hr
  have hok := qz_vot v1
  have hov := qz_vot v0
  rw [qz_cvr (qz_ok_ne hok)] at q1
  rw [qz_cvr (qz_ok_ne hov)] at qv
  subst q1
  subst q0
  subst qv
  have h40 : 40 ≤ k0 := by simpa using h40
  have he : kz_ae k0 = 10 + k1 := by simpa using he
  obtain ⟨⟨cell, b1, b2, b3, b4, b5, b6, b7⟩, b8, b9, b10⟩ := (hW.2.1 a k0 hok).2 h40
  obtain ⟨x1, x2⟩ := qz_idx g1 g2 b9 b5
  obtain ⟨q, c1, c2, c3⟩ := hcl
  obtain ⟨⟨cv, d1, d2, d3, d4, -⟩, -⟩ := (hW.2.1 v k1 hov).1 c3
  obtain ⟨i', hi'⟩ := qz_tys_at (dA := dA) hak
  obtain ⟨k3, k4⟩ := h9.2.1.2 i' _ hi'
  dsimp only at k3 k4
  rw [hT] at k3 k4
  obtain ⟨kA, comp, k5, k6, k7, -⟩ := k4
  have hcls := (h9.2.1.1 k1 q c1).2
  rw [c2] at hcls
  have hcomp : comp = D.1 k1 := Option.some.inj (k7.symm.trans hcls.1)
  subst hcomp
  obtain ⟨kC, hkC, -⟩ := hcls.2
  obtain ⟨n1, n2⟩ := b4 hpos
  refine W.aast h1 h2 b1 (fun z w => by rw [n1] at w; cases w) b3 (by rw [n2]; exact k5) k6 rfl hkC ⟨fun z => x1 (Or.inl z), Nat.not_le.mp fun z => x1 (Or.inr z)⟩ d1 (fun z w => by rw [w] at d4; cases d4) (by rw [d2]; exact hkC) (by rw [d2]; exact qz_asg _ _) rfl rfl hca.1 fun H' e1 e2 e3 => ?_
  have ex := (qz_up_sm (h := h) (v := v) hpos g1).ex
  rw [x2] at e1 ⊢
  refine k _ r hr hx lsC _ H' _ hca.2 (ex.lr hl) (ex.sr _ _ hs) ?_ (hS.put e2 e3 (hW.2.2.1 a (qz_ok_pos hok hpos).1 (qz_ok_pos hok hpos).2).1)
  refine qz_W_elt hW hok hpos h40 g1 g2 b1 (by rw [he]; exact qz_rgR' v0) ?_ e2 e3
  rw [he, e1]
  have e9 : qz_tv h (10 + k1) v = .ref (qz_ad h v) := by
    rw [← qz_cvr (b := true) (k := k1) (qz_ok_ne hov)]
    unfold qz_tv; rw [if_neg (by omega), if_neg (by omega)]; rfl
  rw [e9]
theorem qz_ifnull {b : Bool} {k0 : Nat} {x off : Int} (ht : (pc : Int) + off = (T : Int)) (hT : qz_ca Y.2.1 T isT) (kt : qz_J Y G isT T ls st h cs sl t1) (kf : qz_J Y G is (pc + 3) ls st h cs sl t2) : qz_J Y G ((.ifnull off, 3) :: is) pc ls (qz_r b k0 x :: st) h cs sl (if x = 0 then t1 else t2) := by
  obtain ⟨p, l, e, s, m, args, below, meth, c, D, dA, B0, hc, h0⟩ := G
  intro r hr hx lsC stC H locs hca hl hs hW hS
  obtain ⟨h1, h2, h3, h4, h5, h6, h7, h8, h9⟩ := id hx
  obtain ⟨r1, q1, v1, hs⟩ := hs
  by_cases hx0 : x = 0
  · subst hx0
    rw [if_pos rfl] at hr
    subst q1
    exact lv_ifnullN h1 h2 hca.1 ht (kt r hr hx lsC _ H locs hT hl hs hW hS)
  · rw [if_neg hx0] at hr
    rw [qz_cvr hx0] at q1
    subst q1
    exact lv_ifnull h1 h2 hca.1 (kf r hr hx lsC _ H locs hca.2 hl hs hW hS)
theorem qz_rf_inj {D : va_G} {dA : Nat → ClassId} {B0 : Nat} {hc h0 : qz_H} {U : State} {H : Heap} {x y : Int} {b b' : Bool} (hW : qz_W D dA B0 hc h0 U h H) (hE : ∀ x y : Int, -(kz_nC : Int) ≤ x → x ≤ -1 → -(kz_nC : Int) ≤ y → y ≤ -1 → hc x (-2) = (kz_kI : Int) → hc y (-2) = (kz_kI : Int) → qz_ad hc x = qz_ad hc y → x = y) (hx : qz_vo h (qz_r b kz_kI x)) (hy : qz_vo h (qz_r b' kz_kI y)) : qz_rf h x = qz_rf h y ↔ x = y := by
  refine ⟨fun e => ?_, fun e => by rw [e]⟩
  unfold qz_rf at e
  by_cases x0 : x = 0
  · by_cases y0 : y = 0
    · omega
    · rw [if_pos x0, if_neg y0] at e; cases e
  · by_cases y0 : y = 0
    · rw [if_neg x0, if_pos y0] at e; cases e
    · rw [if_neg x0, if_neg y0] at e
      have e := Option.some.inj e
      have ox := qz_vot (qz_learn x0 hx)
      have oy := qz_vot (qz_learn y0 hy)
      by_cases xp : 0 < x
      · by_cases hne : y = x
        · exact hne.symm
        · exact absurd e.symm (qz_W_ne hW ox xp oy hne)
      · by_cases yp : 0 < y
        · by_cases hne : x = y
          · exact hne
          · exact absurd e (qz_W_ne hW oy yp ox hne)
        · have w6 := hW.2.2.2.2.2.1
          have cx : -(kz_nC : Int) ≤ x ∧ x ≤ -1 := by rcases ox.1 with q | q; omega; exact q
          have cy : -(kz_nC : Int) ≤ y ∧ y ≤ -1 := by rcases oy.1 with q | q; omega; exact q
          refine hE x y cx.1 cx.2 cy.1 cy.2 (by rw [← w6 x cx.2]; exact ox.2) (by rw [← w6 y cy.2]; exact oy.2) ?_
          unfold qz_ad at e ⊢
          rw [← w6 x cx.2, ← w6 y cy.2]
          exact e
theorem qz_acmp_eq {b b2 : Bool} {x y off : Int} (ht : (pc : Int) + off = (T : Int)) (hT : qz_ca Y.2.1 T isT) (kt : qz_J Y G isT T ls st h cs sl t1) (kf : qz_J Y G is (pc + 3) ls st h cs sl t2) : qz_J Y G ((.if_acmp .eq off, 3) :: is) pc ls (qz_r b2 kz_kI y :: qz_r b kz_kI x :: st) h cs sl (if x = y then t1 else t2) := by
  obtain ⟨p, l, e, s, m, args, below, meth, c, D, dA, B0, hc, h0⟩ := G
  intro r hr hx lsC stC H locs hca hl hs hW hS
  obtain ⟨h1, h2, h3, h4, h5, h6, h7, h8, h9⟩ := id hx
  obtain ⟨r1, rfl, v1, r2, rfl, v2, hs⟩ := hs
  have e := qz_rf_inj hW h9.2.2.2.2.2.1 v2 v1
  refine lv_acmp_eq h1 h2 hca.1 ht (fun q => ?_) (fun q => ?_)
  · rw [if_pos (e.mp q)] at hr
    exact kt r hr hx lsC _ H locs hT hl hs hW hS
  · rw [if_neg (fun z => q (e.mpr z))] at hr
    exact kf r hr hx lsC _ H locs hca.2 hl hs hW hS
theorem qz_acmp_ne {b b2 : Bool} {x y off : Int} (ht : (pc : Int) + off = (T : Int)) (hT : qz_ca Y.2.1 T isT) (kt : qz_J Y G isT T ls st h cs sl t1) (kf : qz_J Y G is (pc + 3) ls st h cs sl t2) : qz_J Y G ((.if_acmp .ne off, 3) :: is) pc ls (qz_r b2 kz_kI y :: qz_r b kz_kI x :: st) h cs sl (if ¬ x = y then t1 else t2) := by
  obtain ⟨p, l, e, s, m, args, below, meth, c, D, dA, B0, hc, h0⟩ := G
  intro r hr hx lsC stC H locs hca hl hs hW hS
  obtain ⟨h1, h2, h3, h4, h5, h6, h7, h8, h9⟩ := id hx
  obtain ⟨r1, rfl, v1, r2, rfl, v2, hs⟩ := hs
  have e := qz_rf_inj hW h9.2.2.2.2.2.1 v2 v1
  refine lv_acmp_ne h1 h2 hca.1 ht (fun q => ?_) (fun q => ?_)
  · rw [if_pos (fun z => q (e.mpr z))] at hr
    exact kt r hr hx lsC _ H locs hT hl hs hW hS
  · rw [if_neg (fun z => z (e.mp q))] at hr
    exact kf r hr hx lsC _ H locs hca.2 hl hs hW hS
theorem qz_gets0 {idx : Nat} {q : String × String × String × Nat × Int} {V : qz_V} (hq : q ∈ kz_st) (hln : Cond.fieldLink Y.1.cls idx q.1 q.2.1 q.2.2.1 ∈ kz_TT ∨ ∃ host, Cond.fieldLinkNest Y.1.cls idx q.1 q.2.1 q.2.2.1 host ∈ kz_NT) (hV : ∀ hc : qz_H, (∀ x : Int, x ≤ -1 → ∀ j : Int, h x j = hc x j) → qz_tv hc q.2.2.2.1 q.2.2.2.2 = qz_cv h V) (hv : ∀ hc : qz_H, (∀ x : Int, x ≤ -1 → ∀ j : Int, h x j = hc x j) → qz_kd hc → qz_vo h V) (hkd : True) (k : qz_J Y G is (pc + 3) ls (V :: st) h cs sl t) : qz_J Y G ((.getstatic idx, 3) :: is) pc ls st h cs sl t := by
  obtain ⟨p, l, e, s, m, args, below, meth, c, D, dA, B0, hc, h0⟩ := G
  intro r hr hx lsC stC H locs hca hl hs hW hS
  obtain ⟨h1, h2, h3, h4, h5, h6, h7, h8, h9⟩ := id hx
  have w6 := hW.2.2.2.2.2.1
  have hZ := h9.2.2.2.1.1 q hq
  rw [hV hc w6] at hZ
  have kk := k r hr hx lsC _ H locs hca.2 hl ⟨_, rfl, hv hc w6 h9.2.2.2.2.2.2, hs⟩ hW hS
  rcases hln with g | ⟨host, g⟩
  · exact va_gets h1 h2 hZ hS h7 (h8 _ g) (fun _ z => z) hca.1 kk
  · exact va_getsN h1 h2 hZ hS h7 (va_Nw.use rfl (h9.2.2.1.1 _ g)) (fun _ z => z) hca.1 kk
theorem qz_getsR {idx k0 : Nat} {x : Int} {C n d : String} (hq : (C, n, d, 10 + k0, x) ∈ kz_st) (hln : Cond.fieldLink Y.1.cls idx C n d ∈ kz_TT ∨ ∃ host, Cond.fieldLinkNest Y.1.cls idx C n d host ∈ kz_NT) (hx : (decide (-(kz_nC : Int) ≤ x) && decide (x ≤ -1) && (kz_kc x == k0)) = true) (k : qz_J Y G is (pc + 3) ls (qz_r true k0 x :: st) h cs sl t) : qz_J Y G ((.getstatic idx, 3) :: is) pc ls st h cs sl t := by
  simp only [Bool.and_eq_true, decide_eq_true_eq, beq_iff_eq] at hx
  refine qz_gets0 hq hln (fun hc w6 => ?_) (fun hc w6 kd => ?_) trivial k
  · show qz_tv hc (10 + k0) x = va_rf (qz_rf h x)
    unfold qz_tv qz_rf qz_ad
    rw [if_neg (by omega), if_neg (by omega), if_neg (by omega), if_neg (by omega), w6 x hx.1.2]
  · refine Or.inr ⟨Or.inr hx.1, ?_⟩
    rw [w6 x hx.1.2, kd x hx.1.1 hx.1.2, hx.2]
theorem qz_getsI {idx t0 : Nat} {x : Int} {C n d : String} (hq : (C, n, d, t0, x) ∈ kz_st) (hln : Cond.fieldLink Y.1.cls idx C n d ∈ kz_TT ∨ ∃ host, Cond.fieldLinkNest Y.1.cls idx C n d host ∈ kz_NT) (hx : (decide (t0 < 10) && !(t0 == 2) && qz_b32 x) = true) (k : qz_J Y G is (pc + 3) ls (qz_i x :: st) h cs sl t) : qz_J Y G ((.getstatic idx, 3) :: is) pc ls st h cs sl t := by
  simp only [Bool.and_eq_true, decide_eq_true_eq, Bool.not_eq_true', beq_eq_false_iff_ne, ne_eq] at hx
  refine qz_gets0 (V := qz_i x) hq hln (fun hc w6 => ?_) (fun hc w6 kd => qz_b32_ok hx.2) trivial k
  show qz_tv hc t0 x = Value.int (Int32.ofInt x)
  unfold qz_tv
  rw [if_neg hx.1.2, if_pos hx.1.1]
theorem qz_getsO {idx : Nat} {C n d : String} (hq : (C, n, d) ∈ kz_so) (hln : Cond.fieldLink Y.1.cls idx C n d ∈ kz_TT ∨ ∃ host, Cond.fieldLinkNest Y.1.cls idx C n d host ∈ kz_NT) (k : ∀ o, qz_J Y G is (pc + 3) ls (qz_o o :: st) h cs sl t) : qz_J Y G ((.getstatic idx, 3) :: is) pc ls st h cs sl t := by
  obtain ⟨p, l, e, s, m, args, below, meth, c, D, dA, B0, hc, h0⟩ := G
  intro r hr hx lsC stC H locs hca hl hs hW hS
  obtain ⟨h1, h2, h3, h4, h5, h6, h7, h8, h9⟩ := id hx
  obtain ⟨o, hZ⟩ := h9.2.2.2.1.2 _ hq
  have kk := k o r hr hx lsC _ H locs hca.2 hl ⟨_, rfl, trivial, hs⟩ hW hS
  rcases hln with g | ⟨host, g⟩
  · exact va_gets h1 h2 hZ hS h7 (h8 _ g) (fun _ z => z) hca.1 kk
  · exact va_getsN h1 h2 hZ hS h7 (va_Nw.use rfl (h9.2.2.1.1 _ g)) (fun _ z => z) hca.1 kk
theorem qz_ldcS {idx : Nat} {tx : String} {x : Int} (hq : (Y.1.cls, idx, tx, x) ∈ kz_ss) (hxx : (decide (-(kz_nC : Int) ≤ x) && decide (x ≤ -1) && (kz_kc x == kz_kS)) = true) (k : qz_J Y G is (pc + 2) ls (qz_r true kz_kS x :: st) h cs sl t) : qz_J Y G ((.ldc idx, 2) :: is) pc ls st h cs sl t := by
  obtain ⟨p, l, e, s, m, args, below, meth, c, D, dA, B0, hc, h0⟩ := G
  intro r hr hx lsC stC H locs hca hl hs hW hS
  obtain ⟨h1, h2, h3, h4, h5, h6, h7, h8, h9⟩ := id hx
  simp only [Bool.and_eq_true, decide_eq_true_eq, beq_iff_eq] at hxx
  have w6 := hW.2.2.2.2.2.1
  have hZ := h9.2.2.2.2.1.1 _ hq
  refine va_ldcS h1 h2 h7 hZ hca.1 ?_
  refine k r hr hx lsC _ H locs hca.2 hl ⟨_, ?_, Or.inr ⟨Or.inr hxx.1, ?_⟩, hs⟩ hW hS
  · rw [qz_cvr (by omega)]
    unfold qz_ad
    rw [w6 x hxx.1.2]
  · rw [w6 x hxx.1.2, h9.2.2.2.2.2.2 x hxx.1.1 hxx.1.2, hxx.2]
theorem qz_objI {idx k0 : Nat} {x : Int} (hw : Cond.methodLink Y.1.cls idx Lib.objectInit ∈ kz_TT ∧ Cond.instanceMethod Lib.objectInit ∈ kz_TT ∧ Cond.code Lib.objectInit ⟨#[0xb1]⟩ 1 none ∈ kz_TT) (hrm : (decide (1 ≤ Y.2.2.2.2.2.frames) && decide (20 ≤ Y.2.2.2.2.2.locals) && (qz_sz st).ble 8) = true) (k : qz_J Y G is (pc + 3) ls st h cs sl t) : qz_J Y G ((.invokespecial idx, 3) :: is) pc ls (qz_r true k0 x :: st) h cs sl t := by
  obtain ⟨p, l, e, s, m, args, below, meth, c, D, dA, B0, hc, h0⟩ := G
  intro r hr hx lsC stC H locs hca hl hs hW hS
  obtain ⟨h1, h2, h3, h4, h5, h6, h7, h8, h9⟩ := id hx
  obtain ⟨r1, q1, v1, hs⟩ := hs
  have hok := qz_vot v1
  rw [qz_cvr (qz_ok_ne hok)] at q1
  subst q1
  simp only [Bool.and_eq_true, decide_eq_true_eq] at hrm
  have hts : ∀ w ∈ kz_TT, w.before args s = true := h8
  have hroom : 2 * (F0 m pc lsC ([] : List Value)).monitorRoom + (r1.map fun v => v.category).sum ≤ 8 := lv_room (Nat.le_trans (qz_sz_ok _ _ hs) (Nat.le_of_ble_eq_true hrm.2))
  have hroom : 2 * (F0 m pc lsC (.ref (qz_ad h x) :: r1)).monitorRoom + (r1.map fun v => v.category).sum ≤ 8 := hroom
  have hsize : lsC.size = c.maxLocals := by obtain ⟨lv, g1, -⟩ := hl; rw [h3]; exact g1.1
  refine W.objInit h1 h2 h7 (hts _ hw.1) (hts _ hw.2.1) (hts _ hw.2.2) rfl hsize rfl hca.1 hrm.1.1 (by omega) ?_
  exact k r hr hx lsC _ H locs hca.2 hl hs hW hS
def qz_fg : List Nat → List qz_V → List qz_V
  | [], ls => ls.map fun _ => qz_u
  | _ :: _, [] => []
  | n :: ns, v :: ls => (if n = 0 then qz_u else if n = 1 then v else match v with
      | .inr (.inr (.inl q)) => .inr (.inr (.inl (false, q.2)))
      | v => v) :: qz_fg ns ls
theorem qz_fg_at {h : qz_H} {P : Nat → Value → Prop} : ∀ (ns : List Nat) (ls : List qz_V) (d : Nat), (∀ (i : Nat) (v : qz_V), ls[i]? = some v → v = qz_u ∨ (qz_vo h v ∧ P (d + i) (qz_cv h v))) → ∀ (i : Nat) (v : qz_V), (qz_fg ns ls)[i]? = some v → v = qz_u ∨ (qz_vo h v ∧ P (d + i) (qz_cv h v))
  | [], ls, d, hl, i, v, hi => by
    simp only [qz_fg, List.getElem?_map] at hi
    cases hq : ls[i]? with
    | none => rw [hq] at hi; cases hi
    | some w => rw [hq] at hi; cases hi; exact Or.inl rfl
  | n :: ns, [], d, hl, i, v, hi => by simp [qz_fg] at hi
  | n :: ns, w :: ls, d, hl, 0, v, hi => by
    simp only [qz_fg, List.getElem?_cons_zero, Option.some.injEq] at hi
    have h0 := hl 0 w rfl
    split at hi
    · exact Or.inl hi.symm
    · split at hi
      · rw [← hi]; exact h0
      · rcases w with x | x | ⟨b, k, x⟩ | q
        · rw [← hi]; exact h0
        · rw [← hi]; exact h0
        · rcases h0 with h0 | ⟨h0, h1⟩
          · cases h0
          · refine Or.inr ?_
            rw [← hi]
            refine ⟨?_, h1⟩
            rcases h0 with ⟨_, z⟩ | z
            · exact Or.inl ⟨rfl, z⟩
            · exact Or.inr z
        · rw [← hi]; exact h0
  | n :: ns, w :: ls, d, hl, i + 1, v, hi => by
    simp only [qz_fg, List.getElem?_cons_succ] at hi
    have ih := qz_fg_at (h := h) (P := P) ns ls (d + 1) (fun j u hj => by
      have := hl (j + 1) u (by simpa using hj)
      rwa [show d + 1 + j = d + (j + 1) by omega]) i v hi
    rwa [show d + (i + 1) = d + 1 + i by omega]
theorem qz_fgt (ns : List Nat) (k : qz_J Y G is pc (qz_fg ns ls) st h cs sl t) : qz_J Y G is pc ls st h cs sl t := by
  obtain ⟨p, l, e, s, m, args, below, meth, c, D, dA, B0, hc, h0⟩ := G
  intro r hr hx lsC stC H locs hca hl hs hW hS
  obtain ⟨h1, h2, h3, h4, h5, h6, h7, h8, h9⟩ := id hx
  obtain ⟨lv, g1, g2⟩ := hl
  refine k r hr hx lsC stC H locs hca ⟨lv, g1, fun i v hi => ?_⟩ hs hW hS
  have := qz_fg_at (h := h) (P := fun i w => (i, w) ∈ lv) ns ls 0 (fun i v hi => by rw [Nat.zero_add]; exact g2 i v hi) i v hi
  rwa [Nat.zero_add] at this
theorem qz_wk {k0 : Nat} {b : Bool} {x : Int} (k : qz_J Y G is pc ls (qz_r false k0 x :: st) h cs sl t) : qz_J Y G is pc ls (qz_r b k0 x :: st) h cs sl t := by
  obtain ⟨p, l, e, s, m, args, below, meth, c, D, dA, B0, hc, h0⟩ := G
  intro r hr hx lsC stC H locs hca hl hs hW hS
  obtain ⟨h1, h2, h3, h4, h5, h6, h7, h8, h9⟩ := id hx
  obtain ⟨r1, q1, v1, hs⟩ := hs
  refine k r hr hx lsC stC H locs hca hl ⟨r1, q1, ?_, hs⟩ hW hS
  rcases v1 with ⟨-, z⟩ | z
  · exact Or.inl ⟨rfl, z⟩
  · exact Or.inr z
def qz_en (vs : List qz_V) (n : Nat) : List qz_V := (vs.flatMap fun v => if qz_lg v = true then [v, qz_u] else [v]) ++ List.replicate (n - (vs.flatMap fun v => if qz_lg v = true then [v, qz_u] else [v]).length) qz_u
theorem qz_en_at {h : qz_H} : ∀ (vs : List qz_V) (d i : Nat) (v : qz_V), (∀ v ∈ vs, qz_vo h v) → (vs.flatMap fun v => if qz_lg v = true then [v, qz_u] else [v])[i]? = some v → v = qz_u ∨ (qz_vo h v ∧ (d + i, qz_cv h v) ∈ lv_args d (vs.map (qz_cv h)))
  | [], d, i, v, _, hi => by simp at hi
  | w :: vs, d, i, v, hv, hi => by
    rw [List.flatMap_cons] at hi
    by_cases hw : qz_lg w = true
    · rw [if_pos hw] at hi
      have hc : (qz_cv h w).category = 2 := by
        rcases w with x | x | q | q
        · cases hw
        · rfl
        · cases hw
        · cases hw
      match i, hi with
      | 0, hi =>
        have : w = v := by simpa using hi
        subst this
        exact Or.inr ⟨hv _ List.mem_cons_self, List.mem_cons_self⟩
      | 1, hi =>
        have : qz_u = v := by simpa using hi
        exact Or.inl this.symm
      | i + 2, hi =>
        have ih := qz_en_at vs (d + 2) i v (fun v hv' => hv v (List.mem_cons_of_mem _ hv')) (by simpa using hi)
        rcases ih with ih | ⟨ih1, ih2⟩
        · exact Or.inl ih
        · refine Or.inr ⟨ih1, ?_⟩
          show _ ∈ (d, qz_cv h w) :: lv_args (if (qz_cv h w).category = 2 then d + 2 else d + 1) (vs.map (qz_cv h))
          rw [if_pos hc, show d + (i + 2) = d + 2 + i by omega]
          exact List.mem_cons_of_mem _ ih2
    · rw [if_neg hw] at hi
      have hc : ¬ (qz_cv h w).category = 2 := qz_catL h (by simpa using hw)
      match i, hi with
      | 0, hi =>
        have : w = v := by simpa using hi
        subst this
        exact Or.inr ⟨hv _ List.mem_cons_self, List.mem_cons_self⟩
      | i + 1, hi =>
        have ih := qz_en_at vs (d + 1) i v (fun v hv' => hv v (List.mem_cons_of_mem _ hv')) (by simpa using hi)
        rcases ih with ih | ⟨ih1, ih2⟩
        · exact Or.inl ih
        · refine Or.inr ⟨ih1, ?_⟩
          show _ ∈ (d, qz_cv h w) :: lv_args (if (qz_cv h w).category = 2 then d + 2 else d + 1) (vs.map (qz_cv h))
          rw [if_neg hc, show d + (i + 1) = d + 1 + i by omega]
          exact List.mem_cons_of_mem _ ih2
theorem qz_sl_len {h : qz_H} : ∀ vs : List qz_V, (lg_sl (vs.map (qz_cv h))).length = (vs.flatMap fun v => if qz_lg v = true then [v, qz_u] else [v]).length
  | [] => rfl
  | w :: vs => by
    have ih := qz_sl_len (h := h) vs
    unfold lg_sl at ih ⊢
    rw [List.map_cons, List.flatMap_cons, List.flatMap_cons, List.length_append, List.length_append, ih]
    congr 1
    by_cases hw : qz_lg w = true
    · rw [if_pos hw]
      have hc : (qz_cv h w).category = 2 := by
        rcases w with x | x | q | q
        · cases hw
        · rfl
        · cases hw
        · cases hw
      rw [if_pos hc]; rfl
    · rw [if_neg hw, if_neg (qz_catL h (by simpa using hw))]; rfl
theorem qz_ent {vs ls : List qz_V} (hca : qz_ca Y.2.1 0 is) (hls : qz_en vs Y.2.2.1 = ls) (hlen : decide ((vs.flatMap fun v => if qz_lg v = true then [v, qz_u] else [v]).length ≤ Y.2.2.1) = true) (k : ∀ G, qz_J Y G is 0 ls [] h 0 0 t) {r : qz_R} (hr : t = some r) {l : Launch} (hnt : qz_nt l) {D : va_G} {dA : Nat → ClassId} {B0 : Nat} {hc : qz_H} {p : Program} {e : Env} {s : State} {m : MethodId} {args : Array Value} {below : List Frame} {meth : Method} {c : Code}
    (b1 : p.tables.exec = Jvm.exec) (b2 : c.code = Y.2.1) (b3 : c.maxLocals = Y.2.2.1) (b4 : meth.sig.returnType = Y.2.2.2.1) (b5 : meth.locks = false) (b6 : s.methodNamed? Y.1 = some m) (b7 : s.vm.method? m = some meth) (b8 : ∀ w ∈ kz_TT, w.before args s = true) (hP : qz_P D dA B0 hc vs h args s) :
    W p l e Y.2.2.2.2.2 s m args below meth c s.heap [] 0 0 (qz_FQ Y below D dA B0 hc h args s r) (entryFrame m args Y.2.2.1) := by
  obtain ⟨rfl, v1, w1, e1⟩ := hP
  have hlen : (vs.flatMap fun v => if qz_lg v = true then [v, qz_u] else [v]).length ≤ Y.2.2.1 := by simpa using hlen
  have hl := lv_entry (vs.map (qz_cv h)) (n := Y.2.2.1) (by rw [qz_sl_len]; exact hlen)
  rw [lg_entry_eq]
  refine k (p, l, e, s, m, (vs.map (qz_cv h)).toArray, below, meth, c, D, dA, B0, hc, h) r hr ⟨b1, b2, b3, b4, ⟨b5, hnt⟩, ⟨(name_of_methodNamed b6 b7).1, b6⟩, findClass_of_methodNamed b6, b8, e1⟩ _ [] s.heap [] hca ⟨_, hl, fun i v hi => ?_⟩ rfl w1 va_S.rf
  subst hls
  unfold qz_en at hi
  by_cases hil : i < (vs.flatMap fun v => if qz_lg v = true then [v, qz_u] else [v]).length
  · rw [List.getElem?_append_left hil] at hi
    have := qz_en_at (h := h) vs 0 i v v1 hi
    rwa [Nat.zero_add] at this
  · rw [List.getElem?_append_right (by omega)] at hi
    exact Or.inl (List.eq_of_mem_replicate (List.mem_of_getElem? hi))
theorem qz_con {vs ls : List qz_V} (hpn : plainName Y.1.cls = true) (hca : qz_ca Y.2.1 0 is) (hls : qz_en vs Y.2.2.1 = ls) (hlen : decide ((vs.flatMap fun v => if qz_lg v = true then [v, qz_u] else [v]).length ≤ Y.2.2.1) = true) (h99 : (Y.2.2.2.2.1 == 99) = false) (k : ∀ G, qz_J Y G is 0 ls [] h 0 0 t) : qz_C Y vs h t := by
  intro r hr l hnt D dA B0 hc
  refine Met.ofW (cc := Y.2.1) (maxL := Y.2.2.1) (ret := Y.2.2.2.1) hpn rfl ?_
  intro p e s m args below meth c s₁ B hml hv
  rw [← qz_FQ_ret (by simpa using h99)]
  exact qz_ent hca hls hlen k hr hnt B.exec B.bytes hml B.returns B.notSynchronized B.named B.method (fun w hw => atoms_spec (ws := qz_ws Y) B.pre w (List.mem_cons_of_mem _ hw)) hv
/-- the contract of a method that throws there -/
def qz_CT (Y : qz_Y) (vs : List qz_V) (h : qz_H) (t : Option qz_R) : Prop := ∀ r, t = some r → ∀ (l : Launch), qz_nt l → ∀ (D : va_G) (dA : Nat → ClassId) (B0 : Nat) (hc : qz_H), MetFree l Y.1 (headSpec (qz_ws Y) Y.2.2.2.2.2) (qz_P D dA B0 hc vs h) (fun _ _ _ _ _ => True) (fun _ st o u => qz_ET D dA B0 hc h st Y.2.2.2.2.2.cells Y.2.2.2.2.2.slots r o u)
theorem qz_conT {vs ls : List qz_V} (hpn : plainName Y.1.cls = true) (hca : qz_ca Y.2.1 0 is) (hls : qz_en vs Y.2.2.1 = ls) (hlen : decide ((vs.flatMap fun v => if qz_lg v = true then [v, qz_u] else [v]).length ≤ Y.2.2.1) = true) (h99 : Y.2.2.2.2.1 = 99) (k : ∀ G, qz_J Y G is 0 ls [] h 0 0 t) : qz_CT Y vs h t := by
  intro r hr l hnt D dA B0 hc
  refine MetFree.of_bodyS (code := Y.2.1) (maxLocals := Y.2.2.1) (ret := Y.2.2.2.1) hpn ?_ ?_
  · intro args s m hh hn
    obtain ⟨meth, c, h1, h2, h3, h4, h5, h6, -, -⟩ := Cond.code_spec hn (atoms_spec (ws := qz_ws Y) hh _ List.mem_cons_self)
    exact ⟨meth, c, h1, h2, h3, h4, h5, h6⟩
  · intro p e s m args below meth c s₁ B hml hP _
    have hh0 : s₁.heap = s.heap := by rw [B.state]; rfl
    have w := qz_ent (below := below) (e := e) hca hls hlen k hr hnt B.exec B.bytes hml B.returns B.notSynchronized B.named B.method (fun w hw => atoms_spec (ws := qz_ws Y) B.pre w (List.mem_cons_of_mem _ hw)) hP
    rw [qz_FQ_thr h99] at w
    obtain ⟨u, a1, o, b1, b2, b3⟩ := w s₁ hh0 (Stand.of_body B)
    exact ⟨u, o, a1, b1, b2, b3⟩
end QE
