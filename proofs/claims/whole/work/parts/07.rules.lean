def qz_NF : Nat := 4000
section QF
variable {Y : qz_Y} {G : qz_G} {is isT : List (Instr × Nat)} {pc T : Nat} {ls st : List qz_V} {h : qz_H} {cs sl : Nat} {t t1 t2 : Option qz_R}
theorem qz_none : qz_J Y G is pc ls st h cs sl none := by
  obtain ⟨p, l, e, s, m, args, below, meth, c, D, dA, B0, hc, h0⟩ := G
  intro r hr
  cases hr
theorem qz_eqt {t' : Option qz_R} (he : t' = t) (k : qz_J Y G is pc ls st h cs sl t') : qz_J Y G is pc ls st h cs sl t := he ▸ k
theorem qz_nl (ls' : List qz_V) (he : ls = ls') (k : qz_J Y G is pc ls' st h cs sl t) : qz_J Y G is pc ls st h cs sl t := he ▸ k
def qz_fn : Nat → List qz_V → List qz_V
  | _, [] => []
  | 0, v :: r => (match v with
      | .inr (.inr (.inl q)) => .inr (.inr (.inl (true, q.2)))
      | v => v) :: r
  | d + 1, v :: r => v :: qz_fn d r
theorem qz_fn_sr {b : Bool} {k0 : Nat} {x : Int} (hx : x ≠ 0) : ∀ (d : Nat) (st : List qz_V) (s : List Value), st[d]? = some (qz_r b k0 x) → qz_sr h st s → qz_sr h (qz_fn d st) s
  | d, [], s, hd, hs => by simp at hd
  | 0, v :: st, s, hd, hs => by
    have hd : v = qz_r b k0 x := by simpa using hd
    subst hd
    obtain ⟨r, g1, g2, g3⟩ := hs
    exact ⟨r, g1, qz_learn hx g2, g3⟩
  | d + 1, v :: st, s, hd, hs => by
    obtain ⟨r, g1, g2, g3⟩ := hs
    exact ⟨r, g1, g2, qz_fn_sr hx d st r (by simpa using hd) g3⟩
theorem qz_nnd (d : Nat) {b : Bool} {k0 : Nat} {x : Int} (hd : st[d]? = some (qz_r b k0 x)) (k : qz_J Y G is pc ls (qz_fn d st) h cs sl t) : qz_J Y G is pc ls st h cs sl (qz_ck (x ≠ 0) t) := by
  obtain ⟨p, l, e, s, m, args, below, meth, c, D, dA, B0, hc, h0⟩ := G
  intro r hr hx lsC stC H locs hca hl hs hW hS
  obtain ⟨h1, h2, h3, h4, h5, h6, h7, h8, h9⟩ := id hx
  obtain ⟨g1, g2⟩ := qz_ck_some hr
  exact k r g2 hx lsC stC H locs hca hl (qz_fn_sr g1 d st stC hd hs) hW hS
def qz_fs : List Nat → List qz_V → List qz_V
  | [], st => st
  | _ :: _, [] => []
  | n :: ns, v :: st => (if n = 2 then (match v with
      | .inr (.inr (.inl q)) => .inr (.inr (.inl (false, q.2)))
      | v => v) else v) :: qz_fs ns st
theorem qz_fs_sr : ∀ (ns : List Nat) (st : List qz_V) (s : List Value), qz_sr h st s → qz_sr h (qz_fs ns st) s
  | [], st, s, hs => hs
  | n :: ns, [], s, hs => hs
  | n :: ns, v :: st, s, hs => by
    obtain ⟨r, g1, g2, g3⟩ := hs
    have ih := qz_fs_sr ns st r g3
    show qz_sr h ((if n = 2 then _ else v) :: qz_fs ns st) s
    split
    · rcases v with x | x | ⟨b, k, x⟩ | q
      · exact ⟨r, g1, g2, ih⟩
      · exact ⟨r, g1, g2, ih⟩
      · refine ⟨r, g1, ?_, ih⟩
        rcases g2 with ⟨-, z⟩ | z
        · exact Or.inl ⟨rfl, z⟩
        · exact Or.inr z
      · exact ⟨r, g1, g2, ih⟩
    · exact ⟨r, g1, g2, ih⟩
theorem qz_wkS (ns : List Nat) (k : qz_J Y G is pc ls (qz_fs ns st) h cs sl t) : qz_J Y G is pc ls st h cs sl t := by
  obtain ⟨p, l, e, s, m, args, below, meth, c, D, dA, B0, hc, h0⟩ := G
  intro r hr hx lsC stC H locs hca hl hs hW hS
  obtain ⟨h1, h2, h3, h4, h5, h6, h7, h8, h9⟩ := id hx
  exact k r hr hx lsC stC H locs hca hl (qz_fs_sr ns st stC hs) hW hS
/-- the same instructions where a number is known: no name is given -/
theorem qz_istore_nC {q : Fin 4} {a : Int} (hn : (q : Nat) < Y.2.2.1) (k : qz_J Y G is (pc + 1) (qz_st (q : Nat) (qz_i a) ls) st h cs sl t) : qz_J Y G ((.istore_n q, 1) :: is) pc ls (qz_i a :: st) h cs sl t := qz_istore_n (f := fun x => if x = a then t else none) hn (fun x => by
    by_cases hx : x = a
    · subst hx; rw [if_pos rfl]; exact k
    · rw [if_neg hx]; exact qz_none) |> qz_eqt (by show (if a = a then t else none) = t; rw [if_pos rfl])
theorem qz_istoreC {i : Nat} {a : Int} (hn : i < Y.2.2.1) (k : qz_J Y G is (pc + 2) (qz_st i (qz_i a) ls) st h cs sl t) : qz_J Y G ((.istore i, 2) :: is) pc ls (qz_i a :: st) h cs sl t := qz_istore (f := fun x => if x = a then t else none) hn (fun x => by
    by_cases hx : x = a
    · subst hx; rw [if_pos rfl]; exact k
    · rw [if_neg hx]; exact qz_none) |> qz_eqt (by show (if a = a then t else none) = t; rw [if_pos rfl])
def qz_max (x y : Int) : Int := if x < y then y else x
def qz_min (x y : Int) : Int := if y < x then y else x
def qz_absJ (x : Int) : Int := if 0 < x then x else qz_x (-x)
theorem qz_mmax {idx : Nat} {x y : Int} (hw : Cond.methodLink Y.1.cls idx Lib.Math.max.name ∈ kz_TT ∧ Cond.static Lib.Math.max.name ∈ kz_TT ∧ Cond.initialized "java/lang/Math" ∈ kz_TT ∧ Cond.code Lib.Math.max.name Lib.Math.max.code 2 (some .int) ∈ kz_TT) (hrm : (decide (1 ≤ Y.2.2.2.2.2.frames) && decide (21 ≤ Y.2.2.2.2.2.locals) && (qz_sz st).ble 8 && qz_le Y cs sl) = true) (k : qz_J Y G is (pc + 3) ls (qz_i (qz_max x y) :: st) h cs sl t) : qz_J Y G ((.invokestatic idx, 3) :: is) pc ls (qz_i y :: qz_i x :: st) h cs sl t := by
  obtain ⟨p, l, e, s, m, args, below, meth, c, D, dA, B0, hc, h0⟩ := G
  intro r hr hx lsC stC H locs hca hl hs hW hS
  obtain ⟨h1, h2, h3, h4, h5, h6, h7, h8, h9⟩ := id hx
  obtain ⟨r1, rfl, hy, r2, rfl, hx', hs⟩ := hs
  simp only [Bool.and_eq_true, decide_eq_true_eq] at hrm
  obtain ⟨⟨⟨m1, m2⟩, m3⟩, m4⟩ := hrm
  have hts : ∀ w ∈ kz_TT, w.before args s = true := h8
  have hsum := Nat.le_trans (qz_sz_ok _ _ hs) (Nat.le_of_ble_eq_true m3)
  have hsize : c.maxLocals = lsC.size := by obtain ⟨lv, g1, -⟩ := hl; rw [h3]; exact g1.1.symm
  refine va_mmax h1 h2 hsize h7 (hts _ hw.1) (hts _ hw.2.1) (hts _ hw.2.2.1) (hts _ hw.2.2.2) m1 (by omega) (qz_le_ok m4).1 (qz_le_ok m4).2 hca.1 ?_
  refine k r hr hx lsC _ H locs hca.2 hl ⟨r2, ?_, ?_, hs⟩ hW hS
  · show Value.int _ :: r2 = Value.int (Int32.ofInt (qz_max x y)) :: r2
    unfold qz_max
    by_cases hc : x < y
    · rw [if_pos hc, if_pos ((qz_l32 hx' hy).mpr hc)]
    · rw [if_neg hc, if_neg (fun z => hc ((qz_l32 hx' hy).mp z))]
  · show qz_32 (qz_max x y)
    unfold qz_max
    split
    · exact hy
    · exact hx'
theorem qz_mmin {idx : Nat} {x y : Int} (hw : Cond.methodLink Y.1.cls idx Lib.Math.min.name ∈ kz_TT ∧ Cond.static Lib.Math.min.name ∈ kz_TT ∧ Cond.initialized "java/lang/Math" ∈ kz_TT ∧ Cond.code Lib.Math.min.name Lib.Math.min.code 2 (some .int) ∈ kz_TT) (hrm : (decide (1 ≤ Y.2.2.2.2.2.frames) && decide (21 ≤ Y.2.2.2.2.2.locals) && (qz_sz st).ble 8 && qz_le Y cs sl) = true) (k : qz_J Y G is (pc + 3) ls (qz_i (qz_min x y) :: st) h cs sl t) : qz_J Y G ((.invokestatic idx, 3) :: is) pc ls (qz_i y :: qz_i x :: st) h cs sl t := by
  obtain ⟨p, l, e, s, m, args, below, meth, c, D, dA, B0, hc, h0⟩ := G
  intro r hr hx lsC stC H locs hca hl hs hW hS
  obtain ⟨h1, h2, h3, h4, h5, h6, h7, h8, h9⟩ := id hx
  obtain ⟨r1, rfl, hy, r2, rfl, hx', hs⟩ := hs
  simp only [Bool.and_eq_true, decide_eq_true_eq] at hrm
  obtain ⟨⟨⟨m1, m2⟩, m3⟩, m4⟩ := hrm
  have hts : ∀ w ∈ kz_TT, w.before args s = true := h8
  have hsum := Nat.le_trans (qz_sz_ok _ _ hs) (Nat.le_of_ble_eq_true m3)
  have hsize : c.maxLocals = lsC.size := by obtain ⟨lv, g1, -⟩ := hl; rw [h3]; exact g1.1.symm
  refine va_mmin h1 h2 hsize h7 (hts _ hw.1) (hts _ hw.2.1) (hts _ hw.2.2.1) (hts _ hw.2.2.2) m1 (by omega) (qz_le_ok m4).1 (qz_le_ok m4).2 hca.1 ?_
  refine k r hr hx lsC _ H locs hca.2 hl ⟨r2, ?_, ?_, hs⟩ hW hS
  · show Value.int _ :: r2 = Value.int (Int32.ofInt (qz_min x y)) :: r2
    unfold qz_min
    by_cases hc : y < x
    · rw [if_pos hc, if_pos ((qz_l32 hy hx').mpr hc)]
    · rw [if_neg hc, if_neg (fun z => hc ((qz_l32 hy hx').mp z))]
  · show qz_32 (qz_min x y)
    unfold qz_min
    split
    · exact hy
    · exact hx'
theorem qz_mabsJ {idx : Nat} {x : Int} (hw : Cond.methodLink Y.1.cls idx Lib.MathLoose.abs_long.x ∈ kz_TT ∧ Cond.static Lib.MathLoose.abs_long.x ∈ kz_TT ∧ Cond.initialized "java/lang/Math" ∈ kz_TT ∧ Cond.code Lib.MathLoose.abs_long.x Lib.MathLoose.abs_long.code 2 (some .long) ∈ kz_TT) (hrm : (decide (1 ≤ Y.2.2.2.2.2.frames) && decide (21 ≤ Y.2.2.2.2.2.locals) && (qz_sz st).ble 8 && qz_le Y cs sl) = true) (k : qz_J Y G is (pc + 3) ls (qz_j (qz_absJ x) :: st) h cs sl t) : qz_J Y G ((.invokestatic idx, 3) :: is) pc ls (qz_j x :: st) h cs sl t := by
  obtain ⟨p, l, e, s, m, args, below, meth, c, D, dA, B0, hc, h0⟩ := G
  intro r hr hx lsC stC H locs hca hl hs hW hS
  obtain ⟨h1, h2, h3, h4, h5, h6, h7, h8, h9⟩ := id hx
  obtain ⟨r2, rfl, hx', hs⟩ := hs
  simp only [Bool.and_eq_true, decide_eq_true_eq] at hrm
  obtain ⟨⟨⟨m1, m2⟩, m3⟩, m4⟩ := hrm
  have hts : ∀ w ∈ kz_TT, w.before args s = true := h8
  have hsum := Nat.le_trans (qz_sz_ok _ _ hs) (Nat.le_of_ble_eq_true m3)
  have hsize : c.maxLocals = lsC.size := by obtain ⟨lv, g1, -⟩ := hl; rw [h3]; exact g1.1.symm
  have hx2 : qz_64 x := hx'
  have h064 : qz_64 0 := ⟨by decide, by decide⟩
  have e0 : (0 : Int64) < Int64.ofInt x ↔ 0 < x := by rw [show (0 : Int64) = Int64.ofInt 0 from by decide, Int64.lt_iff_toInt_lt, qz_t64 h064, qz_t64 hx2]
  refine va_mabs_long h1 h2 hsize h7 (hts _ hw.1) (hts _ hw.2.1) (hts _ hw.2.2.1) (hts _ hw.2.2.2) m1 (by omega) (qz_le_ok m4).1 (qz_le_ok m4).2 hca.1 ?_
  refine k r hr hx lsC _ H locs hca.2 hl ⟨r2, ?_, ?_, hs⟩ hW hS
  · show Value.long _ :: r2 = Value.long (Int64.ofInt (qz_absJ x)) :: r2
    unfold qz_absJ
    by_cases hc : 0 < x
    · rw [if_pos hc, if_pos (e0.mpr hc)]
    · rw [if_neg hc, if_neg (fun z => hc (e0.mp z))]
      simp only [qz_x, Int64.ofInt_toInt, Int64.ofInt_neg]
  · show qz_64 (qz_absJ x)
    unfold qz_absJ
    split
    · exact hx2
    · exact qz_r64 _
theorem qz_astore_nC {q : Fin 4} {b : Bool} {k0 : Nat} {a : Int} (hn : (q : Nat) < Y.2.2.1) (k : qz_J Y G is (pc + 1) (qz_st (q : Nat) (qz_r b k0 a) ls) st h cs sl t) : qz_J Y G ((.astore_n q, 1) :: is) pc ls (qz_r b k0 a :: st) h cs sl t := qz_astore_n (f := fun x => if x = a then t else none) hn (fun x => by
    by_cases hx : x = a
    · subst hx; rw [if_pos rfl]; exact k
    · rw [if_neg hx]; exact qz_none) |> qz_eqt (by show (if a = a then t else none) = t; rw [if_pos rfl])
theorem qz_iincC {i : Nat} {n x y : Int} (hi : ls[i]? = some (qz_i x)) (hn : i < Y.2.2.1) (hy : qz_w (x + n) = y) (k : qz_J Y G is (pc + 3) (qz_st i (qz_i y) ls) st h cs sl t) : qz_J Y G ((.iinc i n, 3) :: is) pc ls st h cs sl t := qz_iinc (n := n) (f := fun z => if z = y then t else none) hi hn (fun z => by
    by_cases hx : z = y
    · subst hx; rw [if_pos rfl]; exact k
    · rw [if_neg hx]; exact qz_none) |> qz_eqt (by show (if qz_w (x + n) = y then t else none) = t; rw [if_pos hy])
/-- switches -/
def qz_swt (x : Int) : List (Int × Option qz_R) → Option qz_R → Option qz_R
  | [], d => d
  | q :: E, d => if x = q.1 then q.2 else qz_swt x E d
def qz_swJ (Y : qz_Y) (G : qz_G) (ls st : List qz_V) (h : qz_H) (cs sl : Nat) : List (Int × Nat × List (Instr × Nat)) → List (Int × Option qz_R) → Prop
  | (_, T, is) :: L, (_, t) :: E => qz_ca Y.2.1 T is ∧ qz_J Y G is T ls st h cs sl t ∧ qz_swJ Y G ls st h cs sl L E
  | [], [] => True
  | _, _ => False
def qz_kz : Int → List (Int × Nat × List (Instr × Nat)) → List (Int × Option qz_R) → Bool
  | lo, q :: L, e :: E => q.1 == lo && (e.1 == lo && qz_kz (lo + 1) L E)
  | _, [], [] => true
  | _, _, _ => false
theorem qz_sw_at : ∀ (L : List (Int × Nat × List (Instr × Nat))) (E : List (Int × Option qz_R)) (lo x : Int) (d : Option qz_R), qz_swJ Y G ls st h cs sl L E → qz_kz lo L E = true → (lo ≤ x ∧ x < lo + L.length → ∃ (q : Int × Nat × List (Instr × Nat)) (e : Option qz_R), L[(x - lo).toNat]? = some q ∧ qz_ca Y.2.1 q.2.1 q.2.2 ∧ qz_J Y G q.2.2 q.2.1 ls st h cs sl e ∧ qz_swt x E d = e) ∧ (¬ (lo ≤ x ∧ x < lo + L.length) → qz_swt x E d = d)
  | [], [], lo, x, d, _, _ => ⟨fun hx => by simp at hx; omega, fun _ => rfl⟩
  | [], _ :: _, lo, x, d, hJ, _ => hJ.elim
  | _ :: _, [], lo, x, d, hJ, _ => hJ.elim
  | (qk, qT, qi) :: L, (ek, et) :: E, lo, x, d, hJ, hk => by
    obtain ⟨j1, j2, j3⟩ := hJ
    simp only [qz_kz, Bool.and_eq_true, beq_iff_eq] at hk
    obtain ⟨k1, k2, k3⟩ := hk
    obtain ⟨a1, a2⟩ := qz_sw_at L E (lo + 1) x d j3 k3
    have hstep : qz_swt x ((ek, et) :: E) d = if x = ek then et else qz_swt x E d := rfl
    rw [hstep, k2]
    simp only [List.length_cons]
    by_cases hxl : x = lo
    · subst hxl
      refine ⟨fun _ => ⟨(qk, qT, qi), et, by simp, j1, j2, if_pos rfl⟩, fun hn => absurd ⟨Int.le_refl _, by omega⟩ hn⟩
    · rw [if_neg hxl]
      refine ⟨fun hx => ?_, fun hn => a2 (fun z => hn ⟨by omega, by omega⟩)⟩
      obtain ⟨q', e', b1, b2, b3, b4⟩ := a1 ⟨by omega, by omega⟩
      refine ⟨q', e', ?_, b2, b3, b4⟩
      have : (x - lo).toNat = (x - (lo + 1)).toNat + 1 := by omega
      rw [this, List.getElem?_cons_succ]
      exact b1
theorem qz_tsw {dflt lo hi : Int} {offs : Array Int} {len : Nat} {x : Int} {E : List (Int × Option qz_R)} (L : List (Int × Nat × List (Instr × Nat))) (hT : qz_ca Y.2.1 T isT) (ho : offs.toList = L.map (fun q => (q.2.1 : Int) - (pc : Int))) (hk : qz_kz lo L E = true) (hd : (decide ((pc : Int) + dflt = (T : Int)) && decide (hi + 1 = lo + L.length)) = true) (hJ : qz_swJ Y G ls st h cs sl L E) (kd : qz_J Y G isT T ls st h cs sl t) : qz_J Y G ((.tableswitch dflt lo hi offs, len) :: is) pc ls (qz_i x :: st) h cs sl (qz_swt x E t) := by
  have key := qz_sw_at L E lo x t hJ hk
  obtain ⟨p, l, e, s, m, args, below, meth, c, D, dA, B0, hc, h0⟩ := G
  intro r hr hx lsC stC H locs hca hl hs hW hS
  obtain ⟨h1, h2, h3, h4, h5, h6, h7, h8, h9⟩ := id hx
  obtain ⟨r1, rfl, v1, hs⟩ := hs
  simp only [Bool.and_eq_true, decide_eq_true_eq] at hd
  have e32 : (Int32.ofInt x).toInt = x := qz_t32 v1
  by_cases hin : lo ≤ x ∧ x < lo + L.length
  · obtain ⟨q, e', b1, b2, b3, b4⟩ := key.1 hin
    rw [b4] at hr
    refine lv_tableIn h1 h2 hca.1 (by rw [e32]; omega) (by rw [e32]; omega) (off := (q.2.1 : Int) - pc) (tgt := q.2.1) ?_ (by omega) ?_
    · rw [e32, ← Array.getElem?_toList, ho, List.getElem?_map, b1]; rfl
    · exact b3 r hr hx lsC _ H locs b2 hl hs hW hS
  · rw [key.2 hin] at hr
    refine lv_tableOut h1 h2 hca.1 (by rw [e32]; omega) hd.1 ?_
    exact kd r hr hx lsC _ H locs hT hl hs hW hS
def qz_kl : List (Int × Nat × List (Instr × Nat)) → List (Int × Option qz_R) → Bool
  | q :: L, e :: E => q.1 == e.1 && qz_kl L E
  | [], [] => true
  | _, _ => false
theorem qz_lw_at {pc : Nat} {dflt : Int} : ∀ (L : List (Int × Nat × List (Instr × Nat))) (E : List (Int × Option qz_R)) (x : Int) (d : Option qz_R), qz_swJ Y G ls st h cs sl L E → qz_kl L E = true → (∃ (q : Int × Nat × List (Instr × Nat)) (e : Option qz_R), Op.lookupswitch.offset (L.map (fun q => (q.1, (q.2.1 : Int) - (pc : Int)))) dflt x = (q.2.1 : Int) - pc ∧ qz_ca Y.2.1 q.2.1 q.2.2 ∧ qz_J Y G q.2.2 q.2.1 ls st h cs sl e ∧ qz_swt x E d = e) ∨ (Op.lookupswitch.offset (L.map (fun q => (q.1, (q.2.1 : Int) - (pc : Int)))) dflt x = dflt ∧ qz_swt x E d = d)
  | [], [], x, d, _, _ => Or.inr ⟨rfl, rfl⟩
  | [], _ :: _, x, d, hJ, _ => hJ.elim
  | _ :: _, [], x, d, hJ, _ => hJ.elim
  | (qk, qT, qi) :: L, (ek, et) :: E, x, d, hJ, hk => by
    obtain ⟨j1, j2, j3⟩ := hJ
    simp only [qz_kl, Bool.and_eq_true, beq_iff_eq] at hk
    have hstep : qz_swt x ((ek, et) :: E) d = if x = ek then et else qz_swt x E d := rfl
    rw [hstep, ← hk.1, List.map_cons]
    by_cases hxl : x = qk
    · rw [if_pos hxl]
      refine Or.inl ⟨(qk, qT, qi), et, ?_, j1, j2, rfl⟩
      subst hxl
      simp [Op.lookupswitch.offset]
    · rw [if_neg hxl]
      have hof : Op.lookupswitch.offset ((qk, (qT : Int) - (pc : Int)) :: L.map (fun q => (q.1, (q.2.1 : Int) - (pc : Int)))) dflt x = Op.lookupswitch.offset (L.map (fun q => (q.1, (q.2.1 : Int) - (pc : Int)))) dflt x := by
        simp [Op.lookupswitch.offset, Ne.symm hxl, hxl]
      rw [hof]
      exact qz_lw_at L E x d j3 hk.2
theorem qz_lsw {dflt : Int} {ps : Array (Int × Int)} {len : Nat} {x : Int} {E : List (Int × Option qz_R)} (L : List (Int × Nat × List (Instr × Nat))) (hT : qz_ca Y.2.1 T isT) (ho : ps.toList = L.map (fun q => (q.1, (q.2.1 : Int) - (pc : Int)))) (hk : qz_kl L E = true) (hd : (decide ((pc : Int) + dflt = (T : Int)) && (ps.toList.zip (ps.toList.drop 1)).all (fun (a, next) => a.1 < next.1)) = true) (hJ : qz_swJ Y G ls st h cs sl L E) (kd : qz_J Y G isT T ls st h cs sl t) : qz_J Y G ((.lookupswitch dflt ps, len) :: is) pc ls (qz_i x :: st) h cs sl (qz_swt x E t) := by
  have key := qz_lw_at (pc := pc) (dflt := dflt) L E x t hJ hk
  obtain ⟨p, l, e, s, m, args, below, meth, c, D, dA, B0, hc, h0⟩ := G
  intro r hr hx lsC stC H locs hca hl hs hW hS
  obtain ⟨h1, h2, h3, h4, h5, h6, h7, h8, h9⟩ := id hx
  obtain ⟨r1, rfl, v1, hs⟩ := hs
  rw [Bool.and_eq_true] at hd
  have hd1 : (pc : Int) + dflt = (T : Int) := by simpa using hd.1
  have e32 : (Int32.ofInt x).toInt = x := qz_t32 v1
  rcases key with ⟨q, e', b1, b2, b3, b4⟩ | ⟨b1, b2⟩
  · rw [b4] at hr
    refine lv_lookup h1 h2 hca.1 hd.2 (off := (q.2.1 : Int) - pc) (tgt := q.2.1) (by rw [ho, e32]; exact b1) (by omega) ?_
    exact b3 r hr hx lsC _ H locs b2 hl hs hW hS
  · rw [b2] at hr
    refine lv_lookup h1 h2 hca.1 hd.2 (off := dflt) (tgt := T) (by rw [ho, e32]; exact b1) hd1 ?_
    exact kd r hr hx lsC _ H locs hT hl hs hW hS
end QF
