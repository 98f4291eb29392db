/-- h' is h but at places that are not kept for the machine -/
def qz_sm (h h' : qz_H) : Prop := h' 0 0 = h 0 0 ∧ h' 0 1 = h 0 1 ∧ ∀ y : Int, h' y (-1) = h y (-1) ∧ h' y (-2) = h y (-2) ∧ h' y (-3) = h y (-3)
theorem qz_sm.ok {h h' : qz_H} (e : qz_sm h h') (k : Nat) (x : Int) : qz_ok h' k x ↔ qz_ok h k x := by
  unfold qz_ok
  rw [e.1, (e.2.2 x).2.1]
theorem qz_sm.ad {h h' : qz_H} (e : qz_sm h h') (x : Int) : qz_ad h' x = qz_ad h x := by
  unfold qz_ad
  rw [(e.2.2 x).2.2]
theorem qz_sm.tv {h h' : qz_H} (e : qz_sm h h') (t : Nat) (x : Int) : qz_tv h' t x = qz_tv h t x := by
  unfold qz_tv qz_rf
  rw [e.ad]
theorem qz_sm.rg {h h' : qz_H} (e : qz_sm h h') (t : Nat) (x : Int) : qz_rg h' t x ↔ qz_rg h t x := by
  unfold qz_rg
  rw [e.ok]
theorem qz_sm.ex {h h' : qz_H} (e : qz_sm h h') : qz_ex h h' := fun k x hk => ⟨(e.ok k x).mpr hk, (e.2.2 x).2.2⟩
theorem qz_up_ne {h : qz_H} {o i v a b : Int} (hn : ¬ (a = o ∧ b = i)) : qz_up h o i v a b = h a b := by
  unfold qz_up
  rw [if_neg hn]
theorem qz_up_eq {h : qz_H} {o i v : Int} : qz_up h o i v o i = v := by
  unfold qz_up
  rw [if_pos ⟨rfl, rfl⟩]
theorem qz_up_sm {h : qz_H} {x j v : Int} (hx : 0 < x) (hj : 0 ≤ j) : qz_sm h (qz_up h x j v) :=
  ⟨qz_up_ne (by omega), qz_up_ne (by omega), fun y => ⟨qz_up_ne (by omega), qz_up_ne (by omega), qz_up_ne (by omega)⟩⟩
theorem qz_ok_ne {h : qz_H} {k : Nat} {x : Int} (hk : qz_ok h k x) : x ≠ 0 := by
  rcases hk.1 with q | q <;> omega
theorem qz_ok_pos {h : qz_H} {k : Nat} {x : Int} (hk : qz_ok h k x) (hx : 0 < x) : 1 ≤ x ∧ x ≤ h 0 0 := by
  rcases hk.1 with q | q
  · exact q
  · omega
theorem qz_ok_kind {h : qz_H} {k k' : Nat} {x : Int} (hk : qz_ok h k x) (hk' : qz_ok h k' x) : k = k' := by
  have := hk.2.symm.trans hk'.2
  omega
section QW
variable {D : va_G} {dA : Nat → ClassId} {B0 : Nat} {hc h0 h h' : qz_H} {U : State} {H H' : Heap} {x j v : Int} {k : Nat}
theorem qz_W_ne (hW : qz_W D dA B0 hc h0 U h H) (hk : qz_ok h k x) (hx : 0 < x) {y : Int} {k' : Nat} (hy : qz_ok h k' y) (hne : y ≠ x) : qz_ad h y ≠ qz_ad h x := by
  obtain ⟨-, -, w3, w4, w5, -⟩ := hW
  have hx1 := qz_ok_pos hk hx
  rcases hy.1 with q | q
  · exact fun z => hne (w4 y x q.1 q.2 hx1.1 hx1.2 z)
  · have a1 := w5 y q.1 q.2
    have a2 := (w3 x hx1.1 hx1.2).1
    omega
theorem qz_W_set (hW : qz_W D dA B0 hc h0 U h H) (hk : qz_ok h k x) (hx : 0 < x) (hj : 0 ≤ j) (hz : H'.size = H.size) (hq : ∀ q, q ≠ qz_ad h x → H'[q]? = H[q]?)
    (hn : (k < 40 → qz_ob2 D (qz_up h x j v) H' x k) ∧ (40 ≤ k → qz_ay2 dA U (qz_up h x j v) H' x k)) : qz_W D dA B0 hc h0 U (qz_up h x j v) H' := by
  have e := qz_up_sm (h := h) (v := v) hx hj
  have hW' := hW
  obtain ⟨⟨w0, w1⟩, w2, w3, w4, w5, w6, w7⟩ := hW
  refine ⟨⟨by rw [e.1]; exact w0, by rw [e.2.1, hz]; exact w1⟩, fun y k' hy => ?_, fun y h1 h2 => ?_, fun y z h1 h2 h3 h4 h5 => ?_, fun y h1 h2 => ?_, fun y h1 i => ?_, fun a b g => ⟨(e.ex a b (w7 a b g).1).1, (e.ex a b (w7 a b g).1).2.trans (w7 a b g).2⟩⟩
  · have hy0 := (e.ok k' y).mp hy
    by_cases hyx : y = x
    · subst hyx
      have := qz_ok_kind hk hy0
      subst this
      exact hn
    · have hne := qz_W_ne hW' hk hx hy0 hyx
      have hcell := hq _ hne
      have hval : ∀ i : Int, qz_up h x j v y i = h y i := fun i => qz_up_ne (fun z => hyx z.1)
      obtain ⟨a1, a2⟩ := w2 y k' hy0
      refine ⟨fun hlt => ?_, fun hge => ?_⟩
      · obtain ⟨⟨cell, b1, b2, b3, b4, b5, b6⟩, b7⟩ := a1 hlt
        refine ⟨⟨cell, by rw [e.ad, hcell]; exact b1, b2, b3, b4, b5, fun i hi => ?_⟩, fun i hi => ?_⟩
        · rw [e.tv, hval]; exact b6 i hi
        · rw [e.rg, hval]; exact b7 i hi
      · obtain ⟨⟨cell, b1, b2, b3, b4, b5, b6, b7⟩, b8, b9, b10⟩ := a2 hge
        refine ⟨⟨cell, by rw [e.ad, hcell]; exact b1, b2, b3, b4, by rw [hval]; exact b5, by rw [hval]; exact b6, fun i hi => ?_⟩, by rw [hval]; exact b8, by rw [hval]; exact b9, fun i hi => ?_⟩
        · rw [hval] at hi ⊢
          rw [e.tv]; exact b7 i hi
        · rw [hval] at hi ⊢
          rw [e.rg]; exact b10 i hi
  · rw [e.1] at h2
    rw [e.ad, (e.2.2 y).2.1]
    exact w3 y h1 h2
  · rw [e.1] at h2 h4
    rw [e.ad, e.ad] at h5
    exact w4 y z h1 h2 h3 h4 h5
  · rw [e.ad]
    exact w5 y h1 h2
  · rw [qz_up_ne (fun z => by omega)]
    exact w6 y h1 i
theorem qz_set_slot {cell : Cell} {i : Nat} {w : Value} (hi : i < cell.slots.size) : (cell.setSlot i w).slots[i]? = some w := by
  simp [Cell.setSlot, hi]
/-- a field is written -/
theorem qz_W_fld (hW : qz_W D dA B0 hc h0 U h H) (hk : qz_ok h k x) (hx : 0 < x) (hk40 : k < 40) {i : Nat} (hi : i < kz_N k) (hap : ∀ a b, a < kz_N k → b < kz_N k → a ≠ b → D.2 k a ≠ D.2 k b) {cell : Cell} (hcell : H[qz_ad h x]? = some cell) (hrg : qz_rg h (kz_ft k i) v)
    (he : H'[qz_ad h x]? = some (cell.setSlot (D.2 k i) (qz_tv h (kz_ft k i) v))) (hz : H'.size = H.size) (hq : ∀ q, q ≠ qz_ad h x → H'[q]? = H[q]?) : qz_W D dA B0 hc h0 U (qz_up h x i v) H' := by
  have e := qz_up_sm (h := h) (v := v) hx (Int.natCast_nonneg i)
  refine qz_W_set hW hk hx (Int.natCast_nonneg i) hz hq ⟨fun _ => ?_, fun q => absurd hk40 (by omega)⟩
  obtain ⟨⟨cell', b1, b2, b3, b4, b5, b6⟩, b7⟩ := (hW.2.1 x k hk).1 hk40
  cases hcell.symm.trans b1
  refine ⟨⟨cell.setSlot (D.2 k i) (qz_tv h (kz_ft k i) v), by rw [e.ad]; exact he, b2, b3, b4, b5, fun a ha => ?_⟩, fun a ha => ?_⟩
  · rw [e.tv]
    by_cases hai : a = i
    · subst hai
      rw [qz_up_eq]
      exact qz_set_slot (k2_hasslot (b6 a ha))
    · rw [qz_up_ne (fun z => hai (by have := z.2; omega)), slot_ne _ _ (hap i a hi ha (fun z => hai z.symm))]
      exact b6 a ha
  · rw [e.rg]
    by_cases hai : a = i
    · subst hai
      rw [qz_up_eq]
      exact hrg
    · rw [qz_up_ne (fun z => hai (by have := z.2; omega))]
      exact b7 a ha
/-- an element is written -/
theorem qz_W_elt (hW : qz_W D dA B0 hc h0 U h H) (hk : qz_ok h k x) (hx : 0 < x) (hk40 : 40 ≤ k) (hj : 0 ≤ j) (hjl : j < h x (-1)) {cell : Cell} (hcell : H[qz_ad h x]? = some cell) (hrg : qz_rg h (kz_ae k) v)
    (he : H'[qz_ad h x]? = some (cell.setSlot j.toNat (qz_tv h (kz_ae k) v))) (hz : H'.size = H.size) (hq : ∀ q, q ≠ qz_ad h x → H'[q]? = H[q]?) : qz_W D dA B0 hc h0 U (qz_up h x j v) H' := by
  have e := qz_up_sm (h := h) (v := v) hx hj
  refine qz_W_set hW hk hx hj hz hq ⟨fun q => absurd hk40 (by omega), fun _ => ?_⟩
  obtain ⟨⟨cell', b1, b2, b3, b4, b5, b6, b7⟩, b8, b9, b10⟩ := (hW.2.1 x k hk).2 hk40
  cases hcell.symm.trans b1
  have hlen : qz_up h x j v x (-1) = h x (-1) := (e.2.2 x).1
  refine ⟨⟨cell.setSlot j.toNat (qz_tv h (kz_ae k) v), by rw [e.ad]; exact he, b2, b3, b4, by rw [hlen, k2_slotsz]; exact b5, by rw [hlen, k2_slotsz]; exact b6, fun a ha => ?_⟩, by rw [hlen]; exact b8, by rw [hlen]; exact b9, fun a ha => ?_⟩
  · rw [hlen] at ha
    rw [e.tv]
    by_cases hai : (a : Int) = j
    · subst hai
      rw [qz_up_eq, Int.toNat_natCast]
      exact qz_set_slot (by omega)
    · rw [qz_up_ne (fun z => hai z.2), slot_ne _ _ (fun z => hai (by omega))]
      exact b7 a ha
  · rw [hlen] at ha
    rw [e.rg]
    by_cases hai : (a : Int) = j
    · rw [hai, qz_up_eq]
      exact hrg
    · rw [qz_up_ne (fun z => hai z.2)]
      exact b10 a ha
/-- a cell is new -/
theorem qz_nw_old {n : Int} {y : Int} (h1 : y ≠ 0) (h2 : y ≠ h 0 0 + 1) (b : Int) : qz_nw h x n y b = h y b := by
  unfold qz_nw
  rw [if_neg h1, if_neg h2]
theorem qz_nw_00 {n : Int} : qz_nw h x n 0 0 = h 0 0 + 1 := by simp [qz_nw]
theorem qz_nw_01 {n : Int} : qz_nw h x n 0 1 = h 0 1 + 1 := by simp [qz_nw]
theorem qz_nw_new {n : Int} (h0 : 0 ≤ h 0 0) (b : Int) : qz_nw h x n (h 0 0 + 1) b = if b = -1 then n else if b = -2 then x else if b = -3 then h 0 1 else 0 := by
  unfold qz_nw
  rw [if_neg (by omega), if_pos rfl]
theorem qz_nw_ex {n : Int} (h0 : 0 ≤ h 0 0) : qz_ex h (qz_nw h x n) := by
  intro k' y hy
  have hy0 := qz_ok_ne hy
  have hy1 : y ≠ h 0 0 + 1 := by rcases hy.1 with q | q <;> omega
  refine ⟨⟨?_, by rw [qz_nw_old hy0 hy1]; exact hy.2⟩, qz_nw_old hy0 hy1 _⟩
  rw [qz_nw_00]
  rcases hy.1 with q | q
  · exact Or.inl ⟨q.1, by omega⟩
  · exact Or.inr q
theorem qz_ex.ad {h h' : qz_H} (e : qz_ex h h') {k : Nat} {x : Int} (hk : qz_ok h k x) : qz_ad h' x = qz_ad h x := by
  unfold qz_ad
  rw [(e k x hk).2]
theorem qz_ex.rg {h h' : qz_H} (e : qz_ex h h') {t : Nat} {x : Int} (hr : qz_rg h t x) : qz_rg h' t x ∧ qz_tv h' t x = qz_tv h t x := by
  unfold qz_rg qz_tv at *
  by_cases a : t = 2
  · simp only [if_pos a] at *; exact ⟨hr, trivial⟩
  · simp only [if_neg a] at *
    by_cases b : t < 10
    · simp only [if_pos b] at *; exact ⟨hr, trivial⟩
    · have c3 : ¬ t = 3 := by omega
      have c4 : ¬ t = 4 := by omega
      have c5 : ¬ t = 5 := by omega
      simp only [if_neg b, if_neg c3, if_neg c4, if_neg c5] at *
      rcases hr with q | q
      · subst q
        exact ⟨Or.inl rfl, rfl⟩
      · refine ⟨Or.inr (e _ _ q).1, ?_⟩
        unfold qz_rf
        rw [e.ad q]
theorem qz_W_nw {n : Int} (hW : qz_W D dA B0 hc h0 U h H) (hk99 : k < 99) (hB : B0 ≤ H.size) (hz : H'.size = H.size + 1) (hq : ∀ q, q < H.size → H'[q]? = H[q]?)
    (hn : (k < 40 → qz_ob2 D (qz_nw h k n) H' (h 0 0 + 1) k) ∧ (40 ≤ k → qz_ay2 dA U (qz_nw h k n) H' (h 0 0 + 1) k)) : qz_W D dA B0 hc h0 U (qz_nw h k n) H' := by
  have hW' := hW
  obtain ⟨⟨w0, w1⟩, w2, w3, w4, w5, w6, w7⟩ := hW
  have e := qz_nw_ex (h := h) (x := (k : Int)) (n := n) w0
  have old : ∀ y : Int, 1 ≤ y → y ≤ h 0 0 → ∀ b, qz_nw h k n y b = h y b := fun y h1 h2 b => qz_nw_old (by omega) (by omega) b
  have adn : qz_ad (qz_nw h k n) (h 0 0 + 1) = H.size := by
    unfold qz_ad
    rw [qz_nw_new w0, if_neg (by decide), if_neg (by decide), if_pos rfl, w1]
    simp
  have lt : ∀ y k', qz_ok h k' y → qz_ad h y < H.size := by
    intro y k' hy
    obtain ⟨a1, a2⟩ := w2 y k' hy
    by_cases c : k' < 40
    · obtain ⟨⟨cell, b1, -⟩, -⟩ := a1 c
      exact (Array.getElem?_eq_some_iff.mp b1).1
    · obtain ⟨⟨cell, b1, -⟩, -⟩ := a2 (by omega)
      exact (Array.getElem?_eq_some_iff.mp b1).1
  have lt2 : ∀ y, 1 ≤ y → y ≤ h 0 0 → qz_ad h y < H.size := by
    intro y h1 h2
    obtain ⟨-, g1, g2⟩ := w3 y h1 h2
    exact lt y (h y (-2)).toNat ⟨Or.inl ⟨h1, h2⟩, by omega⟩
  refine ⟨⟨by rw [qz_nw_00]; omega, by rw [qz_nw_01, hz, w1]; omega⟩, fun y k' hy => ?_, fun y h1 h2 => ?_, fun y z h1 h2 h3 h4 h5 => ?_, fun y h1 h2 => ?_, fun y h1 i => ?_, fun a b g => ⟨(e a b (w7 a b g).1).1, (e a b (w7 a b g).1).2.trans (w7 a b g).2⟩⟩
  · by_cases hyn : y = h 0 0 + 1
    · subst hyn
      have h9 := hy.2
      rw [qz_nw_new w0, if_neg (by decide), if_pos rfl] at h9
      have : k = k' := by omega
      subst this
      exact hn
    · have hy0 : qz_ok h k' y := by
        have q0 := qz_ok_ne hy
        refine ⟨?_, by rw [← qz_nw_old (h := h) (x := (k : Int)) (n := n) q0 hyn]; exact hy.2⟩
        rcases hy.1 with q | q
        · rw [qz_nw_00] at q
          exact Or.inl ⟨q.1, by omega⟩
        · exact Or.inr q
      have hval : ∀ i : Int, qz_nw h k n y i = h y i := fun i => qz_nw_old (qz_ok_ne hy0) hyn i
      have hcell := hq _ (lt y k' hy0)
      obtain ⟨a1, a2⟩ := w2 y k' hy0
      refine ⟨fun hlt => ?_, fun hge => ?_⟩
      · obtain ⟨⟨cell, b1, b2, b3, b4, b5, b6⟩, b7⟩ := a1 hlt
        refine ⟨⟨cell, by rw [e.ad hy0, hcell]; exact b1, b2, b3, b4, b5, fun i hi => ?_⟩, fun i hi => ?_⟩
        · rw [hval, (e.rg (b7 i hi)).2]; exact b6 i hi
        · rw [hval]; exact (e.rg (b7 i hi)).1
      · obtain ⟨⟨cell, b1, b2, b3, b4, b5, b6, b7⟩, b8, b9, b10⟩ := a2 hge
        refine ⟨⟨cell, by rw [e.ad hy0, hcell]; exact b1, b2, b3, b4, by rw [hval]; exact b5, by rw [hval]; exact b6, fun i hi => ?_⟩, by rw [hval]; exact b8, by rw [hval]; exact b9, fun i hi => ?_⟩
        · rw [hval] at hi ⊢
          rw [(e.rg (b10 i (by omega))).2]; exact b7 i hi
        · rw [hval] at hi ⊢
          exact (e.rg (b10 i hi)).1
  · rw [qz_nw_00] at h2
    by_cases hyn : y = h 0 0 + 1
    · subst hyn
      refine ⟨by rw [adn]; exact hB, ?_⟩
      rw [qz_nw_new w0, if_neg (by decide), if_pos rfl]
      omega
    · have h2' : y ≤ h 0 0 := by omega
      have g := w3 y h1 h2'
      unfold qz_ad at g ⊢
      rw [old y h1 h2', old y h1 h2']
      exact g
  · rw [qz_nw_00] at h2 h4
    have adold : ∀ y, 1 ≤ y → y ≤ h 0 0 → qz_ad (qz_nw h k n) y = qz_ad h y := fun y a b => by unfold qz_ad; rw [old y a b]
    by_cases hyn : y = h 0 0 + 1
    · by_cases hzn : z = h 0 0 + 1
      · rw [hyn, hzn]
      · rw [hyn, adn, adold z h3 (by omega)] at h5
        have := lt2 z h3 (by omega)
        omega
    · by_cases hzn : z = h 0 0 + 1
      · rw [hzn, adn, adold y h1 (by omega)] at h5
        have := lt2 y h1 (by omega)
        omega
      · rw [adold y h1 (by omega), adold z h3 (by omega)] at h5
        exact w4 y z h1 (by omega) h3 (by omega) h5
  · have g := w5 y h1 h2
    unfold qz_ad at g ⊢
    rw [qz_nw_old (by omega) (by omega)]
    exact g
  · rw [qz_nw_old (by omega) (by omega)]
    exact w6 y h1 i
end QW
def qz_tc (ty : FieldType) (t : Nat) : Bool := match ty with
  | .int => t == 1
  | .long => t == 2
  | .boolean => t == 3
  | .byte => t == 5
  | .object _ => decide (10 ≤ t)
  | .array _ => decide (10 ≤ t)
  | _ => false
/-- what a class's rows say: its fields are laid, of the types that my tables name -/
def qz_cw (k : Nat) : Prop := ∃ q : vw_C, kz_cl[k]? = some q ∧ q.2.2 = kz_N k ∧ (k < 40 ∧ k ∉ kz_kK) ∧ (∀ w ∈ u_ws q.1 q.2.1 q.2.2, w ∈ kz_TT) ∧ (∀ j, j < q.2.2 → parseFieldDescriptor (q.2.1 j).2.2.1 = some (kz_fT k j)) ∧ (∀ a, a < q.2.2 → ∀ b, b < q.2.2 → a ≠ b → (q.2.1 a).2.1 ≠ (q.2.1 b).2.1) ∧ ∀ j, j < q.2.2 → qz_tc (kz_fT k j) (kz_ft k j) = true
def qz_cg (k : Nat) : Prop := qz_cw k ∨ (k ∈ kz_kK ∧ k < 40 ∧ ∃ q : vw_C, kz_cl[k]? = some q ∧ q.2.2 = kz_N k)
theorem qz_cg_at {k : Nat} (hw : qz_cg k) {D : va_G} {dA : Nat → ClassId} {B0 : Nat} {hc : qz_H} {s : State} {args : Array Value} (h9 : qz_E D dA B0 hc s) (hts : ∀ w ∈ kz_TT, w.before args s = true) {q : vw_C} (hq : kz_cl[k]? = some q) {j : Nat} (hj : j < q.2.2) : k < 40 ∧ q.2.2 = kz_N k ∧ qz_SN s (q.2.1 j).1 (q.2.1 j).2.1 (q.2.1 j).2.2.1 (D.2 k j) := by
  rcases hw with ⟨q', c1, c2, c3, c4, -⟩ | ⟨c1, c2, q', c3, c4⟩
  · cases c1.symm.trans hq
    obtain ⟨hSl, hfc, kC, hkC, hkind⟩ := h9.2.1.1 k q c1
    obtain ⟨cf, kf, fi, f, hi, hsl⟩ := hSl j hj
    exact ⟨c3.1, c2, cf, kf, fi, f, hi, hsl, (u_facts hfc hkC (u_lays hts c4 hj) hi).1⟩
  · cases c3.symm.trans hq
    exact ⟨c2, c4, h9.2.2.1.2.2 k c1 q c3 j hj⟩
def qz_fl (own : String) (idx k j : Nat) : Prop := ∃ q : vw_C, kz_cl[k]? = some q ∧ j < q.2.2 ∧ (Cond.fieldLink own idx (q.2.1 j).1 (q.2.1 j).2.1 (q.2.1 j).2.2.1 ∈ kz_TT ∨ ∃ host, Cond.fieldLinkNest own idx (q.2.1 j).1 (q.2.1 j).2.1 (q.2.1 j).2.2.1 host ∈ kz_NT)
def qz_fp (Y : qz_Y) (idx k j : Nat) : Prop := ∃ q : vw_C, kz_cl[k]? = some q ∧ j < q.2.2 ∧ (((q.2.1 j).2.2.2 = false ∧ (Cond.fieldLink Y.1.cls idx (q.2.1 j).1 (q.2.1 j).2.1 (q.2.1 j).2.2.1 ∈ kz_TT ∨ ∃ host, Cond.fieldLinkNest Y.1.cls idx (q.2.1 j).1 (q.2.1 j).2.1 (q.2.1 j).2.2.1 host ∈ kz_NT)) ∨ ((q.2.1 j).2.2.2 = true ∧ Y.1.name = "<init>" ∧ (q.2.1 j).1 = Y.1.cls ∧ Cond.fieldLink Y.1.cls idx (q.2.1 j).1 (q.2.1 j).2.1 (q.2.1 j).2.2.1 ∈ kz_TT))
theorem qz_nf {h : qz_H} {ty : FieldType} {t : Nat} {v : Int} (hc : qz_tc ty t = true) (hr : qz_rg h t v) : narrow ty (qz_tv h t v) = qz_tv h t v ∧ fits ty (qz_tv h t v) = true := by
  cases ty with
  | int =>
    have : t = 1 := by simpa [qz_tc] using hc
    subst this
    exact ⟨rfl, rfl⟩
  | long =>
    have : t = 2 := by simpa [qz_tc] using hc
    subst this
    exact ⟨rfl, rfl⟩
  | boolean =>
    have : t = 3 := by simpa [qz_tc] using hc
    subst this
    have hr : v = 0 ∨ v = 1 := hr
    rcases hr with rfl | rfl
    · exact ⟨rfl, rfl⟩
    · exact ⟨rfl, rfl⟩
  | byte =>
    have : t = 5 := by simpa [qz_tc] using hc
    subst this
    have hr : -128 ≤ v ∧ v ≤ 127 := hr
    have h8 := qz_8 (n := v) (by simp only [Bool.and_eq_true, decide_eq_true_eq]; exact hr)
    refine ⟨?_, ?_⟩
    · show Value.int (Int32.ofInt v).toInt8.toInt32 = Value.int (Int32.ofInt v)
      rw [Int32.toInt8_ofInt, h8.1]
    · show (decide ((-128 : Int32) ≤ Int32.ofInt v) && decide (Int32.ofInt v ≤ (127 : Int32))) = true
      have e1 : (-128 : Int32).toInt = -128 := by decide
      have e2 : (127 : Int32).toInt = 127 := by decide
      rw [Bool.and_eq_true, decide_eq_true_eq, decide_eq_true_eq, Int32.le_iff_toInt_le, Int32.le_iff_toInt_le, e1, e2, qz_t32 h8.2]
      exact hr
  | object n =>
    have ht : 10 ≤ t := by simpa [qz_tc] using hc
    have e : qz_tv h t v = va_rf (qz_rf h v) := by unfold qz_tv; rw [if_neg (by omega), if_neg (by omega)]
    rw [e]
    cases qz_rf h v <;> exact ⟨rfl, rfl⟩
  | array n =>
    have ht : 10 ≤ t := by simpa [qz_tc] using hc
    have e : qz_tv h t v = va_rf (qz_rf h v) := by unfold qz_tv; rw [if_neg (by omega), if_neg (by omega)]
    rw [e]
    cases qz_rf h v <;> exact ⟨rfl, rfl⟩
  | _ => cases hc
theorem qz_cvr {h : qz_H} {b : Bool} {k : Nat} {x : Int} (hx : x ≠ 0) : qz_cv h (qz_r b k x) = .ref (qz_ad h x) := by
  show va_rf (qz_rf h x) = _
  unfold qz_rf
  rw [if_neg hx]
  rfl
theorem qz_vot {h : qz_H} {k : Nat} {x : Int} (hv : qz_vo h (qz_r true k x)) : qz_ok h k x := by
  rcases hv with ⟨q, -⟩ | q
  · cases q
  · exact q
theorem qz_rgI {h : qz_H} {t : Nat} {x : Int} (h1 : t < 10) (h2 : ¬ t = 2) (hr : qz_rg h t x) : qz_32 x := by
  unfold qz_rg at hr
  rw [if_neg h2] at hr
  split at hr
  · exact ⟨by omega, by omega⟩
  · split at hr
    · exact ⟨by omega, by omega⟩
    · split at hr
      · exact ⟨by omega, by omega⟩
      · first | exact hr | (rw [if_pos h1] at hr; exact hr)
theorem qz_rgR {h : qz_H} {k : Nat} {x : Int} (hr : qz_rg h (10 + k) x) : qz_vo h (qz_r false k x) := by
  unfold qz_rg at hr
  rw [if_neg (by omega), if_neg (by omega), if_neg (by omega), if_neg (by omega), if_neg (by omega), Nat.add_sub_cancel_left] at hr
  rcases hr with q | q
  · exact Or.inl ⟨rfl, q⟩
  · exact Or.inr q
theorem qz_rgR' {h : qz_H} {k : Nat} {b : Bool} {x : Int} (hr : qz_vo h (qz_r b k x)) : qz_rg h (10 + k) x := by
  unfold qz_rg
  rw [if_neg (by omega), if_neg (by omega), if_neg (by omega), if_neg (by omega), if_neg (by omega), Nat.add_sub_cancel_left]
  rcases hr with q | q
  · exact Or.inl q.2
  · exact Or.inr q
section QR
variable {Y : qz_Y} {G : qz_G} {is isT : List (Instr × Nat)} {pc T : Nat} {ls st : List qz_V} {h : qz_H} {cs sl : Nat} {t t1 t2 : Option qz_R}
theorem qz_learn {h : qz_H} {b : Bool} {k0 : Nat} {x : Int} (hx : x ≠ 0) (hv : qz_vo h (qz_r b k0 x)) : qz_vo h (qz_r true k0 x) := by
  rcases hv with ⟨-, q⟩ | q
  · exact absurd q hx
  · exact Or.inr q
theorem qz_nn {b : Bool} {k0 : Nat} {x : Int} (k : qz_J Y G is pc ls (qz_r true k0 x :: st) h cs sl t) : qz_J Y G is pc ls (qz_r b k0 x :: st) h cs sl (qz_ck (x ≠ 0) t) := by
  obtain ⟨p, l, e, s, m, args, below, meth, c, D, dA, B0, hc, h0⟩ := G
  intro r hr hx lsC stC H locs hca hl hs hW hS
  obtain ⟨h1, h2, h3, h4, h5, h6, h7, h8, h9⟩ := id hx
  obtain ⟨r1, q1, v1, hs⟩ := hs
  obtain ⟨g1, g2⟩ := qz_ck_some hr
  exact k r g2 hx lsC stC H locs hca hl ⟨r1, q1, qz_learn g1 v1, hs⟩ hW hS
theorem qz_nn1 {b : Bool} {k0 : Nat} {x : Int} {v : qz_V} (k : qz_J Y G is pc ls (v :: qz_r true k0 x :: st) h cs sl t) : qz_J Y G is pc ls (v :: qz_r b k0 x :: st) h cs sl (qz_ck (x ≠ 0) t) := by
  obtain ⟨p, l, e, s, m, args, below, meth, c, D, dA, B0, hc, h0⟩ := G
  intro r hr hx lsC stC H locs hca hl hs hW hS
  obtain ⟨h1, h2, h3, h4, h5, h6, h7, h8, h9⟩ := id hx
  obtain ⟨r1, q1, v1, r2, q2, v2, hs⟩ := hs
  obtain ⟨g1, g2⟩ := qz_ck_some hr
  exact k r g2 hx lsC stC H locs hca hl ⟨r1, q1, v1, r2, q2, qz_learn g1 v2, hs⟩ hW hS
theorem qz_nn2 {b : Bool} {k0 : Nat} {x : Int} {v w : qz_V} (k : qz_J Y G is pc ls (v :: w :: qz_r true k0 x :: st) h cs sl t) : qz_J Y G is pc ls (v :: w :: qz_r b k0 x :: st) h cs sl (qz_ck (x ≠ 0) t) := by
  obtain ⟨p, l, e, s, m, args, below, meth, c, D, dA, B0, hc, h0⟩ := G
  intro r hr hx lsC stC H locs hca hl hs hW hS
  obtain ⟨h1, h2, h3, h4, h5, h6, h7, h8, h9⟩ := id hx
  obtain ⟨r1, q1, v1, r2, q2, v2, r3, q3, v3, hs⟩ := hs
  obtain ⟨g1, g2⟩ := qz_ck_some hr
  exact k r g2 hx lsC stC H locs hca hl ⟨r1, q1, v1, r2, q2, v2, r3, q3, qz_learn g1 v3, hs⟩ hW hS
theorem qz_getI {idx k0 j : Nat} {x jI : Int} (hw : qz_cg k0) (hf : qz_fl Y.1.cls idx k0 j) (hj : (j : Int) = jI) (ht : (decide (kz_ft k0 j < 10) && !(kz_ft k0 j == 2)) = true) (k : qz_J Y G is (pc + 3) ls (qz_i (h x jI) :: st) h cs sl t) : qz_J Y G ((.getfield idx, 3) :: is) pc ls (qz_r true k0 x :: st) h cs sl t := by
  obtain ⟨p, l, e, s, m, args, below, meth, c, D, dA, B0, hc, h0⟩ := G
  intro r hr hx lsC stC H locs hca hl hs hW hS
  obtain ⟨h1, h2, h3, h4, h5, h6, h7, h8, h9⟩ := id hx
  obtain ⟨r1, q1, v1, hs⟩ := hs
  have hok := qz_vot v1
  rw [qz_cvr (qz_ok_ne hok)] at q1
  subst q1
  subst hj
  obtain ⟨q, f1, f2, f3⟩ := hf
  have hts : ∀ w ∈ kz_TT, w.before args s = true := h8
  obtain ⟨c3, c2, cf, kf, fi, f, hi, hsl, hst⟩ := qz_cg_at hw h9 hts f1 f2
  obtain ⟨⟨cell, b1, b2, b3, b4, b5, b6⟩, b7⟩ := (hW.2.1 x k0 hok).1 c3
  have hj2 : j < kz_N k0 := by rw [← c2]; exact f2
  have hslot : cell.slots[f.slot]? = some (qz_tv h (kz_ft k0 j) (h x j)) := by rw [hsl]; exact b6 j hj2
  have hrg := b7 j hj2
  have e1 : qz_tv h (kz_ft k0 j) (h x j) = qz_cv h (qz_i (h x j)) := by
    simp only [Bool.and_eq_true, decide_eq_true_eq, Bool.not_eq_true', beq_eq_false_iff_ne, ne_eq] at ht
    unfold qz_tv; rw [if_neg ht.2, if_pos ht.1]; rfl
  have e2 : qz_vo h (qz_i (h x j)) := by
    simp only [Bool.and_eq_true, decide_eq_true_eq, Bool.not_eq_true', beq_eq_false_iff_ne, ne_eq] at ht
    exact qz_rgI ht.1 ht.2 hrg
  rcases f3 with f3 | ⟨host, f3⟩
  · refine W.getf h1 h2 h7 (hts _ f3) hi hst b1 b3 hslot rfl rfl hca.1 ?_
    exact k r hr hx lsC _ H locs hca.2 hl ⟨r1, by rw [e1], e2, hs⟩ hW hS
  · refine va_Wgetf h1 h2 h7 (va_Nw.use rfl (h9.2.2.1.1 _ f3)) hi hst b1 b3 hslot rfl rfl hca.1 ?_
    exact k r hr hx lsC _ H locs hca.2 hl ⟨r1, by rw [e1], e2, hs⟩ hW hS
theorem qz_getJ {idx k0 j : Nat} {x jI : Int} (hw : qz_cg k0) (hf : qz_fl Y.1.cls idx k0 j) (hj : (j : Int) = jI) (ht : (kz_ft k0 j == 2) = true) (k : qz_J Y G is (pc + 3) ls (qz_j (h x jI) :: st) h cs sl t) : qz_J Y G ((.getfield idx, 3) :: is) pc ls (qz_r true k0 x :: st) h cs sl t := by
  obtain ⟨p, l, e, s, m, args, below, meth, c, D, dA, B0, hc, h0⟩ := G
  intro r hr hx lsC stC H locs hca hl hs hW hS
  obtain ⟨h1, h2, h3, h4, h5, h6, h7, h8, h9⟩ := id hx
  obtain ⟨r1, q1, v1, hs⟩ := hs
  have hok := qz_vot v1
  rw [qz_cvr (qz_ok_ne hok)] at q1
  subst q1
  subst hj
  obtain ⟨q, f1, f2, f3⟩ := hf
  have hts : ∀ w ∈ kz_TT, w.before args s = true := h8
  obtain ⟨c3, c2, cf, kf, fi, f, hi, hsl, hst⟩ := qz_cg_at hw h9 hts f1 f2
  obtain ⟨⟨cell, b1, b2, b3, b4, b5, b6⟩, b7⟩ := (hW.2.1 x k0 hok).1 c3
  have hj2 : j < kz_N k0 := by rw [← c2]; exact f2
  have hslot : cell.slots[f.slot]? = some (qz_tv h (kz_ft k0 j) (h x j)) := by rw [hsl]; exact b6 j hj2
  have hrg := b7 j hj2
  have ht : kz_ft k0 j = 2 := by simpa using ht
  have e1 : qz_tv h (kz_ft k0 j) (h x j) = qz_cv h (qz_j (h x j)) := by rw [ht]; rfl
  have e2 : qz_vo h (qz_j (h x j)) := by rw [ht] at hrg; exact hrg
  rcases f3 with f3 | ⟨host, f3⟩
  · refine W.getf h1 h2 h7 (hts _ f3) hi hst b1 b3 hslot rfl rfl hca.1 ?_
    exact k r hr hx lsC _ H locs hca.2 hl ⟨r1, by rw [e1], e2, hs⟩ hW hS
  · refine va_Wgetf h1 h2 h7 (va_Nw.use rfl (h9.2.2.1.1 _ f3)) hi hst b1 b3 hslot rfl rfl hca.1 ?_
    exact k r hr hx lsC _ H locs hca.2 hl ⟨r1, by rw [e1], e2, hs⟩ hW hS
theorem qz_getR {idx k0 j k1 : Nat} {x jI : Int} (hw : qz_cg k0) (hf : qz_fl Y.1.cls idx k0 j) (hj : (j : Int) = jI) (ht : (kz_ft k0 j == 10 + k1) = true) (k : qz_J Y G is (pc + 3) ls (qz_r false k1 (h x jI) :: st) h cs sl t) : qz_J Y G ((.getfield idx, 3) :: is) pc ls (qz_r true k0 x :: st) h cs sl t := by
  obtain ⟨p, l, e, s, m, args, below, meth, c, D, dA, B0, hc, h0⟩ := G
  intro r hr hx lsC stC H locs hca hl hs hW hS
  obtain ⟨h1, h2, h3, h4, h5, h6, h7, h8, h9⟩ := id hx
  obtain ⟨r1, q1, v1, hs⟩ := hs
  have hok := qz_vot v1
  rw [qz_cvr (qz_ok_ne hok)] at q1
  subst q1
  subst hj
  obtain ⟨q, f1, f2, f3⟩ := hf
  have hts : ∀ w ∈ kz_TT, w.before args s = true := h8
  obtain ⟨c3, c2, cf, kf, fi, f, hi, hsl, hst⟩ := qz_cg_at hw h9 hts f1 f2
  obtain ⟨⟨cell, b1, b2, b3, b4, b5, b6⟩, b7⟩ := (hW.2.1 x k0 hok).1 c3
  have hj2 : j < kz_N k0 := by rw [← c2]; exact f2
  have hslot : cell.slots[f.slot]? = some (qz_tv h (kz_ft k0 j) (h x j)) := by rw [hsl]; exact b6 j hj2
  have hrg := b7 j hj2
  have ht : kz_ft k0 j = 10 + k1 := by simpa using ht
  have e1 : qz_tv h (kz_ft k0 j) (h x j) = qz_cv h (qz_r false k1 (h x j)) := by
    rw [ht]; unfold qz_tv; rw [if_neg (by omega), if_neg (by omega)]; rfl
  have e2 : qz_vo h (qz_r false k1 (h x j)) := by rw [ht] at hrg; exact qz_rgR hrg
  rcases f3 with f3 | ⟨host, f3⟩
  · refine W.getf h1 h2 h7 (hts _ f3) hi hst b1 b3 hslot rfl rfl hca.1 ?_
    exact k r hr hx lsC _ H locs hca.2 hl ⟨r1, by rw [e1], e2, hs⟩ hW hS
  · refine va_Wgetf h1 h2 h7 (va_Nw.use rfl (h9.2.2.1.1 _ f3)) hi hst b1 b3 hslot rfl rfl hca.1 ?_
    exact k r hr hx lsC _ H locs hca.2 hl ⟨r1, by rw [e1], e2, hs⟩ hW hS
theorem qz_put0 {idx k0 j : Nat} {x v jI : Int} {V : qz_V} {f : qz_H → Option qz_R} (hw : qz_cw k0) (hf : qz_fp Y idx k0 j) (hj : (j : Int) = jI) (hV : qz_vo h V → qz_rg h (kz_ft k0 j) v ∧ qz_cv h V = qz_tv h (kz_ft k0 j) v) (k : ∀ h', qz_J Y G is (pc + 3) ls st h' cs sl (f h')) : qz_J Y G ((.putfield idx, 3) :: is) pc ls (V :: qz_r true k0 x :: st) h cs sl (qz_ck (0 < x) (qz_bn (qz_up h x jI v) f)) := by
  obtain ⟨p, l, e, s, m, args, below, meth, c, D, dA, B0, hc, h0⟩ := G
  intro r hr hx lsC stC H locs hca hl hs hW hS
  obtain ⟨h1, h2, h3, h4, h5, h6, h7, h8, h9⟩ := id hx
  obtain ⟨r0, q0, v0, r1, q1, v1, hs⟩ := hs
  obtain ⟨hpos, hr⟩ := qz_ck_some hr
  have hok := qz_vot v1
  rw [qz_cvr (qz_ok_ne hok)] at q1
  obtain ⟨hrg, hcv⟩ := hV v0
  rw [hcv] at q0
  subst q1
  subst q0
  subst hj
  obtain ⟨q, c1, c2, c3, c4, c5, c6, c7⟩ := hw
  obtain ⟨q', f1, f2, f3⟩ := hf
  cases c1.symm.trans f1
  obtain ⟨⟨cell, b1, b2, b3, b4, b5, b6⟩, b7⟩ := (hW.2.1 x k0 hok).1 c3.1
  have hK := h9.2.1
  obtain ⟨hSl, hfc, kC, hkC, hkind0⟩ := hK.1 k0 q c1
  have hkind : kC.kind = .ordinary := hkind0.resolve_left c3.2
  obtain ⟨cf, kf, fi, f', hi, hsl⟩ := hSl j f2
  have hts : ∀ w ∈ kz_TT, w.before args s = true := h8
  have hst := (u_facts hfc hkC (u_lays hts c4 f2) hi).1
  have hj2 : j < kz_N k0 := by rw [← c2]; exact f2
  have hK1 : va_K ((fun _ => D.1 k0), (fun _ => D.2 k0)) [q] [] s := by
    refine ⟨fun c9 q9 h99 => ?_, fun k9 q9 h99 => by cases h99⟩
    cases c9 with
    | zero => cases h99; exact hK.kn c1 c3.2
    | succ n => cases h99
  have hap : ∀ x y, x < q.2.2 → y < q.2.2 → x ≠ y → D.2 k0 x ≠ D.2 k0 y := va_apart (D := ((fun _ => D.1 k0), (fun _ => D.2 k0))) (cl := [q]) (ci := 0) (tys := []) (own := Y.1.cls) (C := q.1) (T := q.2.1) (N := q.2.2) hts c4 (kz_fT k0) c5 c6 hK1 rfl
  rw [c2] at hap
  have hslt : f'.slot < cell.slots.size := by rw [hsl]; exact k2_hasslot (b6 j hj2)
  obtain ⟨n1, n2⟩ := qz_nf (c7 j f2) hrg
  have fin : ∀ H' : Heap, H'[qz_ad h x]? = some (cell.setSlot f'.slot (qz_tv h (kz_ft k0 j) v)) → H'.size = H.size → (∀ q, q ≠ qz_ad h x → H'[q]? = H[q]?) → W p l e Y.2.2.2.2.2 s m args below meth c H' (locs ++ [⟨qz_ad h x, f'.slot⟩]) cs sl (qz_FQ Y below D dA B0 hc h0 args s r) (F0 m (pc + 3) lsC r1) := by
    intro H' e1 e2 e3
    have ex := (qz_up_sm (h := h) (v := v) hpos (Int.natCast_nonneg j)).ex
    refine k (qz_up h x j v) r hr hx lsC _ H' _ hca.2 (ex.lr hl) (ex.sr _ _ hs) ?_ (hS.put e2 e3 (hW.2.2.1 x (qz_ok_pos hok hpos).1 (qz_ok_pos hok hpos).2).1)
    rw [hsl] at e1
    exact qz_W_fld hW hok hpos c3.1 hj2 hap b1 hrg e1 e2 e3
  rcases f3 with ⟨g1, g2⟩ | ⟨g1, g2, g3, g4⟩
  · have hlay := hts _ (c4 _ (u_in_lay f2))
    unfold u_lay at hlay
    rw [if_neg (by rw [g1]; decide)] at hlay
    have h6' := u_store hfc hkC hkind hlay hi (c5 j f2) n1 n2
    rcases g2 with g2 | ⟨host, g2⟩
    · exact W.putK h1 h2 (f := f') ⟨h7, hts _ g2, ⟨_, _, _, hi⟩, hst⟩ (by rw [b2]; exact h6') b1 (b5 hpos) hslt rfl rfl hca.1 fin
    · exact va_WputK h1 h2 (f := f') h7 (va_Nw.use rfl (h9.2.2.1.1 _ g2)) hi hst (by rw [b2]; exact h6') b1 (b5 hpos) hslt rfl rfl hca.1 fin
  · have hlay := hts _ (c4 _ (u_in_lay f2))
    unfold u_lay at hlay
    rw [if_pos g1] at hlay
    have hcf : m.cls = cf := by
      obtain ⟨_, _, c', _, _, _, -, -, hf', -, -, -, hown2, -⟩ := Cond.laysFinal_spec hlay
      have e1 : c' = cf := by have := hi.symm.trans hf'; simp at this; exact this.1.symm
      rw [g3] at hown2
      rw [← e1]; exact Option.some.inj (h7.symm.trans hown2)
    have h6' := u_fits hfc hkC hkind (Or.inr hlay) hi (c5 j f2) n1 n2
    exact W.putFinK h1 h2 h7 (hts _ g4) hi hst hcf (h6.1.trans g2) (by rw [b2]; exact h6') b1 (b5 hpos) hslt rfl rfl hca.1 fin
theorem qz_putI {idx k0 j : Nat} {x v jI : Int} {f : qz_H → Option qz_R} (hw : qz_cw k0) (hf : qz_fp Y idx k0 j) (hj : (j : Int) = jI) (ht : (kz_ft k0 j == 1) = true) (k : ∀ h', qz_J Y G is (pc + 3) ls st h' cs sl (f h')) : qz_J Y G ((.putfield idx, 3) :: is) pc ls (qz_i v :: qz_r true k0 x :: st) h cs sl (qz_ck (0 < x) (qz_bn (qz_up h x jI v) f)) :=
  qz_put0 hw hf hj (fun hv => by have ht : kz_ft k0 j = 1 := by simpa using ht
                                 rw [ht]; exact ⟨hv, rfl⟩) k
theorem qz_putJ {idx k0 j : Nat} {x v jI : Int} {f : qz_H → Option qz_R} (hw : qz_cw k0) (hf : qz_fp Y idx k0 j) (hj : (j : Int) = jI) (ht : (kz_ft k0 j == 2) = true) (k : ∀ h', qz_J Y G is (pc + 3) ls st h' cs sl (f h')) : qz_J Y G ((.putfield idx, 3) :: is) pc ls (qz_j v :: qz_r true k0 x :: st) h cs sl (qz_ck (0 < x) (qz_bn (qz_up h x jI v) f)) :=
  qz_put0 hw hf hj (fun hv => by have ht : kz_ft k0 j = 2 := by simpa using ht
                                 rw [ht]; exact ⟨hv, rfl⟩) k
theorem qz_putR {k1 : Nat} {b : Bool} {idx k0 j : Nat} {x v jI : Int} {f : qz_H → Option qz_R} (hw : qz_cw k0) (hf : qz_fp Y idx k0 j) (hj : (j : Int) = jI) (ht : (kz_ft k0 j == 10 + k1) = true) (k : ∀ h', qz_J Y G is (pc + 3) ls st h' cs sl (f h')) : qz_J Y G ((.putfield idx, 3) :: is) pc ls (qz_r b k1 v :: qz_r true k0 x :: st) h cs sl (qz_ck (0 < x) (qz_bn (qz_up h x jI v) f)) :=
  qz_put0 hw hf hj (fun hv => by have ht : kz_ft k0 j = 10 + k1 := by simpa using ht
                                 rw [ht]
                                 refine ⟨qz_rgR' hv, ?_⟩
                                 unfold qz_tv; rw [if_neg (by omega), if_neg (by omega)]; rfl) k
theorem qz_putZ {idx k0 j : Nat} {x v jI : Int} {f : qz_H → Option qz_R} (hw : qz_cw k0) (hf : qz_fp Y idx k0 j) (hj : (j : Int) = jI) (ht : (kz_ft k0 j == 3) = true) (k : ∀ h', qz_J Y G is (pc + 3) ls st h' cs sl (f h')) : qz_J Y G ((.putfield idx, 3) :: is) pc ls (qz_i v :: qz_r true k0 x :: st) h cs sl (qz_ck (v = 0 ∨ v = 1) (qz_ck (0 < x) (qz_bn (qz_up h x jI v) f))) := by
  have hz : ∀ (hb : v = 0 ∨ v = 1), qz_J Y G ((.putfield idx, 3) :: is) pc ls (qz_i v :: qz_r true k0 x :: st) h cs sl (qz_ck (0 < x) (qz_bn (qz_up h x jI v) f)) := fun hb => qz_put0 hw hf hj (fun hv => by
    have ht : kz_ft k0 j = 3 := by simpa using ht
    rw [ht]; exact ⟨hb, rfl⟩) k
  obtain ⟨p, l, e, s, m, args, below, meth, c, D, dA, B0, hc, h0⟩ := G
  intro r hr hx lsC stC H locs hca hl hs hW hS
  obtain ⟨h1, h2, h3, h4, h5, h6, h7, h8, h9⟩ := id hx
  obtain ⟨hb, hr⟩ := qz_ck_some hr
  exact hz hb r hr hx lsC stC H locs hca hl hs hW hS
def qz_in (h : qz_H) (a i : Int) : Prop := 0 ≤ i ∧ i < h a (-1)
theorem qz_idx {i n : Int} {z : Nat} (h1 : 0 ≤ i) (h2 : i < n) (h3 : n ≤ 2147483647) (hz : n.toNat ≤ z) : ¬ (Int32.ofInt i < 0 ∨ z ≤ (Int32.ofInt i).toNatClampNeg) ∧ (Int32.ofInt i).toNatClampNeg = i.toNat := by
  have h32 : qz_32 i := ⟨by omega, by omega⟩
  have e : (Int32.ofInt i).toNatClampNeg = i.toNat := by
    show (Int32.ofInt i).toInt.toNat = _
    rw [qz_t32 h32]
  refine ⟨?_, e⟩
  rw [e, qz_l0 h32]
  omega
theorem qz_iald {k0 : Nat} {a i : Int} (h40 : decide (40 ≤ k0) = true) (hT : kz_aT k0 = .int) (he : (kz_ae k0 == 1) = true) (k : qz_J Y G is (pc + 1) ls (qz_i (h a i) :: st) h cs sl t) : qz_J Y G ((.iaload, 1) :: is) pc ls (qz_i i :: qz_r true k0 a :: st) h cs sl (qz_ck (0 ≤ i ∧ i < h a (-1)) t) := by
  obtain ⟨p, l, e, s, m, args, below, meth, c, D, dA, B0, hc, h0⟩ := G
  intro r hr hx lsC stC H locs hca hl hs hW hS
  obtain ⟨h1, h2, h3, h4, h5, h6, h7, h8, h9⟩ := id hx
  obtain ⟨r0, q0, v0, r1, q1, v1, hs⟩ := hs
  obtain ⟨⟨g1, g2⟩, hr⟩ := qz_ck_some hr
  have hok := qz_vot v1
  rw [qz_cvr (qz_ok_ne hok)] at q1
  subst q1
  subst q0
  have h40 : 40 ≤ k0 := by simpa using h40
  have he : kz_ae k0 = 1 := by simpa using he
  obtain ⟨⟨cell, b1, b2, b3, b4, b5, b6, b7⟩, b8, b9, b10⟩ := (hW.2.1 a k0 hok).2 h40
  obtain ⟨x1, x2⟩ := qz_idx g1 g2 b9 b5
  have hv := b7 i.toNat (by omega)
  have hg := b10 i.toNat (by omega)
  rw [he, Int.toNat_of_nonneg g1] at hv hg
  rw [hT] at b2
  refine W.iald h1 h2 b1 b2 b3 x1 (by rw [x2]; exact hv) rfl rfl hca.1 ?_
  exact k r hr hx lsC _ H locs hca.2 hl ⟨r1, rfl, qz_rgI (t := 1) (by decide) (by decide) hg, hs⟩ hW hS
theorem qz_lald {k0 : Nat} {a i : Int} (h40 : decide (40 ≤ k0) = true) (hT : kz_aT k0 = .long) (he : (kz_ae k0 == 2) = true) (k : qz_J Y G is (pc + 1) ls (qz_j (h a i) :: st) h cs sl t) : qz_J Y G ((.laload, 1) :: is) pc ls (qz_i i :: qz_r true k0 a :: st) h cs sl (qz_ck (0 ≤ i ∧ i < h a (-1)) t) := by
  obtain ⟨p, l, e, s, m, args, below, meth, c, D, dA, B0, hc, h0⟩ := G
  intro r hr hx lsC stC H locs hca hl hs hW hS
  obtain ⟨h1, h2, h3, h4, h5, h6, h7, h8, h9⟩ := id hx
  obtain ⟨r0, q0, v0, r1, q1, v1, hs⟩ := hs
  obtain ⟨⟨g1, g2⟩, hr⟩ := qz_ck_some hr
  have hok := qz_vot v1
  rw [qz_cvr (qz_ok_ne hok)] at q1
  subst q1
  subst q0
  have h40 : 40 ≤ k0 := by simpa using h40
  have he : kz_ae k0 = 2 := by simpa using he
  obtain ⟨⟨cell, b1, b2, b3, b4, b5, b6, b7⟩, b8, b9, b10⟩ := (hW.2.1 a k0 hok).2 h40
  obtain ⟨x1, x2⟩ := qz_idx g1 g2 b9 b5
  have hv := b7 i.toNat (by omega)
  have hg := b10 i.toNat (by omega)
  rw [he, Int.toNat_of_nonneg g1] at hv hg
  rw [hT] at b2
  refine W.lald h1 h2 b1 b2 b3 x1 (by rw [x2]; exact hv) rfl rfl hca.1 ?_
  exact k r hr hx lsC _ H locs hca.2 hl ⟨r1, rfl, hg, hs⟩ hW hS
theorem qz_cald {k0 : Nat} {a i : Int} (h40 : decide (40 ≤ k0) = true) (hT : kz_aT k0 = .char) (he : (kz_ae k0 == 4) = true) (k : qz_J Y G is (pc + 1) ls (qz_i (h a i) :: st) h cs sl t) : qz_J Y G ((.caload, 1) :: is) pc ls (qz_i i :: qz_r true k0 a :: st) h cs sl (qz_ck (0 ≤ i ∧ i < h a (-1)) t) := by
  obtain ⟨p, l, e, s, m, args, below, meth, c, D, dA, B0, hc, h0⟩ := G
  intro r hr hx lsC stC H locs hca hl hs hW hS
  obtain ⟨h1, h2, h3, h4, h5, h6, h7, h8, h9⟩ := id hx
  obtain ⟨r0, q0, v0, r1, q1, v1, hs⟩ := hs
  obtain ⟨⟨g1, g2⟩, hr⟩ := qz_ck_some hr
  have hok := qz_vot v1
  rw [qz_cvr (qz_ok_ne hok)] at q1
  subst q1
  subst q0
  have h40 : 40 ≤ k0 := by simpa using h40
  have he : kz_ae k0 = 4 := by simpa using he
  obtain ⟨⟨cell, b1, b2, b3, b4, b5, b6, b7⟩, b8, b9, b10⟩ := (hW.2.1 a k0 hok).2 h40
  obtain ⟨x1, x2⟩ := qz_idx g1 g2 b9 b5
  have hv := b7 i.toNat (by omega)
  have hg := b10 i.toNat (by omega)
  rw [he, Int.toNat_of_nonneg g1] at hv hg
  rw [hT] at b2
  refine W.cald h1 h2 b1 b2 b3 x1 (by rw [x2]; exact hv) rfl rfl hca.1 ?_
  exact k r hr hx lsC _ H locs hca.2 hl ⟨r1, rfl, qz_rgI (t := 4) (by decide) (by decide) hg, hs⟩ hW hS
theorem qz_bald {k0 : Nat} {a i : Int} (h40 : decide (40 ≤ k0) = true) (hT : kz_aT k0 = .byte) (he : (kz_ae k0 == 5) = true) (k : qz_J Y G is (pc + 1) ls (qz_i (h a i) :: st) h cs sl t) : qz_J Y G ((.baload, 1) :: is) pc ls (qz_i i :: qz_r true k0 a :: st) h cs sl (qz_ck (0 ≤ i ∧ i < h a (-1)) t) := by
  obtain ⟨p, l, e, s, m, args, below, meth, c, D, dA, B0, hc, h0⟩ := G
  intro r hr hx lsC stC H locs hca hl hs hW hS
  obtain ⟨h1, h2, h3, h4, h5, h6, h7, h8, h9⟩ := id hx
  obtain ⟨r0, q0, v0, r1, q1, v1, hs⟩ := hs
  obtain ⟨⟨g1, g2⟩, hr⟩ := qz_ck_some hr
  have hok := qz_vot v1
  rw [qz_cvr (qz_ok_ne hok)] at q1
  subst q1
  subst q0
  have h40 : 40 ≤ k0 := by simpa using h40
  have he : kz_ae k0 = 5 := by simpa using he
  obtain ⟨⟨cell, b1, b2, b3, b4, b5, b6, b7⟩, b8, b9, b10⟩ := (hW.2.1 a k0 hok).2 h40
  obtain ⟨x1, x2⟩ := qz_idx g1 g2 b9 b5
  have hv := b7 i.toNat (by omega)
  have hg := b10 i.toNat (by omega)
  rw [he, Int.toNat_of_nonneg g1] at hv hg
  rw [hT] at b2
  refine W.bald h1 h2 b1 b2 b3 x1 (by rw [x2]; exact hv) rfl rfl hca.1 ?_
  exact k r hr hx lsC _ H locs hca.2 hl ⟨r1, rfl, qz_rgI (t := 5) (by decide) (by decide) hg, hs⟩ hW hS
theorem qz_zald {k0 : Nat} {a i : Int} (h40 : decide (40 ≤ k0) = true) (hT : kz_aT k0 = .boolean) (he : (kz_ae k0 == 3) = true) (k : qz_J Y G is (pc + 1) ls (qz_i (h a i) :: st) h cs sl t) : qz_J Y G ((.baload, 1) :: is) pc ls (qz_i i :: qz_r true k0 a :: st) h cs sl (qz_ck (0 ≤ i ∧ i < h a (-1)) t) := by
  obtain ⟨p, l, e, s, m, args, below, meth, c, D, dA, B0, hc, h0⟩ := G
  intro r hr hx lsC stC H locs hca hl hs hW hS
  obtain ⟨h1, h2, h3, h4, h5, h6, h7, h8, h9⟩ := id hx
  obtain ⟨r0, q0, v0, r1, q1, v1, hs⟩ := hs
  obtain ⟨⟨g1, g2⟩, hr⟩ := qz_ck_some hr
  have hok := qz_vot v1
  rw [qz_cvr (qz_ok_ne hok)] at q1
  subst q1
  subst q0
  have h40 : 40 ≤ k0 := by simpa using h40
  have he : kz_ae k0 = 3 := by simpa using he
  obtain ⟨⟨cell, b1, b2, b3, b4, b5, b6, b7⟩, b8, b9, b10⟩ := (hW.2.1 a k0 hok).2 h40
  obtain ⟨x1, x2⟩ := qz_idx g1 g2 b9 b5
  have hv := b7 i.toNat (by omega)
  have hg := b10 i.toNat (by omega)
  rw [he, Int.toNat_of_nonneg g1] at hv hg
  rw [hT] at b2
  refine W.zald h1 h2 b1 b2 b3 x1 (by rw [x2]; exact hv) rfl rfl hca.1 ?_
  exact k r hr hx lsC _ H locs hca.2 hl ⟨r1, rfl, qz_rgI (t := 3) (by decide) (by decide) hg, hs⟩ hW hS
theorem qz_aald {k0 k1 : Nat} {C : String} {a i : Int} (h40 : decide (40 ≤ k0) = true) (hT : kz_aT k0 = .object C) (he : (kz_ae k0 == 10 + k1) = true) (k : qz_J Y G is (pc + 1) ls (qz_r false k1 (h a i) :: st) h cs sl t) : qz_J Y G ((.aaload, 1) :: is) pc ls (qz_i i :: qz_r true k0 a :: st) h cs sl (qz_ck (0 ≤ i ∧ i < h a (-1)) t) := by
  obtain ⟨p, l, e, s, m, args, below, meth, c, D, dA, B0, hc, h0⟩ := G
  intro r hr hx lsC stC H locs hca hl hs hW hS
  obtain ⟨h1, h2, h3, h4, h5, h6, h7, h8, h9⟩ := id hx
  obtain ⟨r0, q0, v0, r1, q1, v1, hs⟩ := hs
  obtain ⟨⟨g1, g2⟩, hr⟩ := qz_ck_some hr
  have hok := qz_vot v1
  rw [qz_cvr (qz_ok_ne hok)] at q1
  subst q1
  subst q0
  have h40 : 40 ≤ k0 := by simpa using h40
  have he : kz_ae k0 = 10 + k1 := by simpa using he
  obtain ⟨⟨cell, b1, b2, b3, b4, b5, b6, b7⟩, b8, b9, b10⟩ := (hW.2.1 a k0 hok).2 h40
  obtain ⟨x1, x2⟩ := qz_idx g1 g2 b9 b5
  have hv := b7 i.toNat (by omega)
  have hg := b10 i.toNat (by omega)
  rw [he, Int.toNat_of_nonneg g1] at hv hg
  have e1 : qz_tv h (10 + k1) (h a i) = qz_cv h (qz_r false k1 (h a i)) := by
    unfold qz_tv; rw [if_neg (by omega), if_neg (by omega)]; rfl
  rw [hT] at b2
  refine W.aald h1 h2 b1 b2 rfl b3 x1 (by rw [x2]; exact hv) rfl rfl hca.1 ?_
  exact k r hr hx lsC _ H locs hca.2 hl ⟨r1, by rw [e1], qz_rgR hg, hs⟩ hW hS
def qz_nc (v : Int) : Int := (Int32.ofInt v).toUInt32.toUInt16.toUInt32.toInt32.toInt
def qz_nb (v : Int) : Int := (Int32.ofInt v).toInt8.toInt32.toInt
def qz_nz (v : Int) : Int := (Int32.ofInt v &&& 1).toInt
theorem qz_nb_rg (v : Int) : -128 ≤ qz_nb v ∧ qz_nb v ≤ 127 := by
  unfold qz_nb
  rw [Int8.toInt_toInt32]
  have h1 := (Int32.ofInt v).toInt8.le_toInt
  have h2 := (Int32.ofInt v).toInt8.toInt_lt
  omega
theorem qz_nc_eq (v : Int) : qz_nc v = v % 65536 := by
  unfold qz_nc
  have h1 : (Int32.ofInt v).toUInt32.toUInt16.toUInt32.toInt32.toBitVec.toNat = (v % 4294967296).toNat % 65536 := by
    rw [UInt32.toBitVec_toInt32, UInt16.toBitVec_toUInt32, UInt32.toBitVec_toUInt16, Int32.toBitVec_toUInt32, Int32.toBitVec_ofInt, BitVec.toNat_setWidth, BitVec.toNat_setWidth, BitVec.toNat_ofInt]
    have e : ∀ n : Nat, n % 2 ^ 16 % 2 ^ 32 = n % 65536 := fun n => by omega
    exact e _
  rw [← Int32.toInt_toBitVec, BitVec.toInt_eq_toNat_of_lt (by rw [h1]; omega), h1]
  omega
theorem qz_nc_rg (v : Int) : 0 ≤ qz_nc v ∧ qz_nc v ≤ 65535 := by
  rw [qz_nc_eq]
  omega
theorem qz_nz_rg (v : Int) : qz_nz v = 0 ∨ qz_nz v = 1 := by
  unfold qz_nz
  generalize Int32.ofInt v = a
  have h2 : (a &&& 1).toBitVec.toNat = a.toBitVec.toNat % 2 := by
    rw [Int32.toBitVec_and, BitVec.toNat_and]
    exact Nat.and_one_is_mod _
  have h3 : (a &&& 1).toInt = ((a &&& 1).toBitVec.toNat : Int) := by
    rw [← Int32.toInt_toBitVec]
    exact BitVec.toInt_eq_toNat_of_lt (by rw [h2]; omega)
  rw [h3, h2]
  omega
theorem qz_iast {k0 : Nat} {a i v : Int} {f : qz_H → Option qz_R} (h40 : decide (40 ≤ k0) = true) (hT : kz_aT k0 = .int) (he : (kz_ae k0 == 1) = true) (k : ∀ h', qz_J Y G is (pc + 1) ls st h' cs sl (f h')) : qz_J Y G ((.iastore, 1) :: is) pc ls (qz_i v :: qz_i i :: qz_r true k0 a :: st) h cs sl (qz_ck (0 < a ∧ 0 ≤ i ∧ i < h a (-1)) (qz_bn (qz_up h a i v) f)) := by
  obtain ⟨p, l, e, s, m, args, below, meth, c, D, dA, B0, hc, h0⟩ := G
  intro r hr hx lsC stC H locs hca hl hs hW hS
  obtain ⟨h1, h2, h3, h4, h5, h6, h7, h8, h9⟩ := id hx
  obtain ⟨rv, qv, v0, r0, q0, vi, r1, q1, v1, hs⟩ := hs
  obtain ⟨⟨hpos, g1, g2⟩, hr⟩ := qz_ck_some hr
  have hok := qz_vot v1
  rw [qz_cvr (qz_ok_ne hok)] at q1
  subst q1
  subst q0
  subst qv
  have h40 : 40 ≤ k0 := by simpa using h40
  have he : kz_ae k0 = 1 := by simpa using he
  obtain ⟨⟨cell, b1, b2, b3, b4, b5, b6, b7⟩, b8, b9, b10⟩ := (hW.2.1 a k0 hok).2 h40
  obtain ⟨x1, x2⟩ := qz_idx g1 g2 b9 b5
  rw [hT] at b2
  refine W.iast h1 h2 b1 b2 b3 x1 rfl rfl hca.1 fun H' e1 e2 e3 => ?_
  have ex := (qz_up_sm (h := h) (v := v) hpos g1).ex
  rw [x2] at e1 ⊢
  refine k _ r hr hx lsC _ H' _ hca.2 (ex.lr hl) (ex.sr _ _ hs) ?_ (hS.put e2 e3 (hW.2.2.1 a (qz_ok_pos hok hpos).1 (qz_ok_pos hok hpos).2).1)
  refine qz_W_elt hW hok hpos h40 g1 g2 b1 (by rw [he]; exact v0) ?_ e2 e3
  rw [he, e1]
  show some (cell.setSlot i.toNat _) = some (cell.setSlot i.toNat _)
  rw [show qz_tv h 1 (v) = Value.int (Int32.ofInt v) from ?_]
  rfl
theorem qz_last {k0 : Nat} {a i v : Int} {f : qz_H → Option qz_R} (h40 : decide (40 ≤ k0) = true) (hT : kz_aT k0 = .long) (he : (kz_ae k0 == 2) = true) (k : ∀ h', qz_J Y G is (pc + 1) ls st h' cs sl (f h')) : qz_J Y G ((.lastore, 1) :: is) pc ls (qz_j v :: qz_i i :: qz_r true k0 a :: st) h cs sl (qz_ck (0 < a ∧ 0 ≤ i ∧ i < h a (-1)) (qz_bn (qz_up h a i v) f)) := by
  obtain ⟨p, l, e, s, m, args, below, meth, c, D, dA, B0, hc, h0⟩ := G
  intro r hr hx lsC stC H locs hca hl hs hW hS
  obtain ⟨h1, h2, h3, h4, h5, h6, h7, h8, h9⟩ := id hx
  obtain ⟨rv, qv, v0, r0, q0, vi, r1, q1, v1, hs⟩ := hs
  obtain ⟨⟨hpos, g1, g2⟩, hr⟩ := qz_ck_some hr
  have hok := qz_vot v1
  rw [qz_cvr (qz_ok_ne hok)] at q1
  subst q1
  subst q0
  subst qv
  have h40 : 40 ≤ k0 := by simpa using h40
  have he : kz_ae k0 = 2 := by simpa using he
  obtain ⟨⟨cell, b1, b2, b3, b4, b5, b6, b7⟩, b8, b9, b10⟩ := (hW.2.1 a k0 hok).2 h40
  obtain ⟨x1, x2⟩ := qz_idx g1 g2 b9 b5
  rw [hT] at b2
  refine W.last h1 h2 b1 b2 b3 x1 rfl rfl hca.1 fun H' e1 e2 e3 => ?_
  have ex := (qz_up_sm (h := h) (v := v) hpos g1).ex
  rw [x2] at e1 ⊢
  refine k _ r hr hx lsC _ H' _ hca.2 (ex.lr hl) (ex.sr _ _ hs) ?_ (hS.put e2 e3 (hW.2.2.1 a (qz_ok_pos hok hpos).1 (qz_ok_pos hok hpos).2).1)
  refine qz_W_elt hW hok hpos h40 g1 g2 b1 (by rw [he]; exact v0) ?_ e2 e3
  rw [he, e1]
  show some (cell.setSlot i.toNat _) = some (cell.setSlot i.toNat _)
  rw [show qz_tv h 2 (v) = Value.long (Int64.ofInt v) from ?_]
  rfl
theorem qz_cast {k0 : Nat} {a i v : Int} {f : qz_H → Option qz_R} (h40 : decide (40 ≤ k0) = true) (hT : kz_aT k0 = .char) (he : (kz_ae k0 == 4) = true) (k : ∀ h', qz_J Y G is (pc + 1) ls st h' cs sl (f h')) : qz_J Y G ((.castore, 1) :: is) pc ls (qz_i v :: qz_i i :: qz_r true k0 a :: st) h cs sl (qz_ck (0 < a ∧ 0 ≤ i ∧ i < h a (-1)) (qz_bn (qz_up h a i (qz_nc v)) f)) := by
  obtain ⟨p, l, e, s, m, args, below, meth, c, D, dA, B0, hc, h0⟩ := G
  intro r hr hx lsC stC H locs hca hl hs hW hS
  obtain ⟨h1, h2, h3, h4, h5, h6, h7, h8, h9⟩ := id hx
  obtain ⟨rv, qv, v0, r0, q0, vi, r1, q1, v1, hs⟩ := hs
  obtain ⟨⟨hpos, g1, g2⟩, hr⟩ := qz_ck_some hr
  have hok := qz_vot v1
  rw [qz_cvr (qz_ok_ne hok)] at q1
  subst q1
  subst q0
  subst qv
  have h40 : 40 ≤ k0 := by simpa using h40
  have he : kz_ae k0 = 4 := by simpa using he
  obtain ⟨⟨cell, b1, b2, b3, b4, b5, b6, b7⟩, b8, b9, b10⟩ := (hW.2.1 a k0 hok).2 h40
  obtain ⟨x1, x2⟩ := qz_idx g1 g2 b9 b5
  rw [hT] at b2
  refine W.cast h1 h2 b1 b2 b3 x1 rfl rfl hca.1 fun H' e1 e2 e3 => ?_
  have ex := (qz_up_sm (h := h) (v := qz_nc v) hpos g1).ex
  rw [x2] at e1 ⊢
  refine k _ r hr hx lsC _ H' _ hca.2 (ex.lr hl) (ex.sr _ _ hs) ?_ (hS.put e2 e3 (hW.2.2.1 a (qz_ok_pos hok hpos).1 (qz_ok_pos hok hpos).2).1)
  refine qz_W_elt hW hok hpos h40 g1 g2 b1 (by rw [he]; exact qz_nc_rg v) ?_ e2 e3
  rw [he, e1]
  show some (cell.setSlot i.toNat _) = some (cell.setSlot i.toNat _)
  rw [show qz_tv h 4 (qz_nc v) = narrow .char (.int (Int32.ofInt v)) from ?_]
  show Value.int (Int32.ofInt (qz_nc v)) = _
  unfold qz_nc
  rw [Int32.ofInt_toInt]
  rfl
theorem qz_bast {k0 : Nat} {a i v : Int} {f : qz_H → Option qz_R} (h40 : decide (40 ≤ k0) = true) (hT : kz_aT k0 = .byte) (he : (kz_ae k0 == 5) = true) (k : ∀ h', qz_J Y G is (pc + 1) ls st h' cs sl (f h')) : qz_J Y G ((.bastore, 1) :: is) pc ls (qz_i v :: qz_i i :: qz_r true k0 a :: st) h cs sl (qz_ck (0 < a ∧ 0 ≤ i ∧ i < h a (-1)) (qz_bn (qz_up h a i (qz_nb v)) f)) := by
  obtain ⟨p, l, e, s, m, args, below, meth, c, D, dA, B0, hc, h0⟩ := G
  intro r hr hx lsC stC H locs hca hl hs hW hS
  obtain ⟨h1, h2, h3, h4, h5, h6, h7, h8, h9⟩ := id hx
  obtain ⟨rv, qv, v0, r0, q0, vi, r1, q1, v1, hs⟩ := hs
  obtain ⟨⟨hpos, g1, g2⟩, hr⟩ := qz_ck_some hr
  have hok := qz_vot v1
  rw [qz_cvr (qz_ok_ne hok)] at q1
  subst q1
  subst q0
  subst qv
  have h40 : 40 ≤ k0 := by simpa using h40
  have he : kz_ae k0 = 5 := by simpa using he
  obtain ⟨⟨cell, b1, b2, b3, b4, b5, b6, b7⟩, b8, b9, b10⟩ := (hW.2.1 a k0 hok).2 h40
  obtain ⟨x1, x2⟩ := qz_idx g1 g2 b9 b5
  rw [hT] at b2
  refine W.bast h1 h2 b1 b2 b3 x1 rfl rfl hca.1 fun H' e1 e2 e3 => ?_
  have ex := (qz_up_sm (h := h) (v := qz_nb v) hpos g1).ex
  rw [x2] at e1 ⊢
  refine k _ r hr hx lsC _ H' _ hca.2 (ex.lr hl) (ex.sr _ _ hs) ?_ (hS.put e2 e3 (hW.2.2.1 a (qz_ok_pos hok hpos).1 (qz_ok_pos hok hpos).2).1)
  refine qz_W_elt hW hok hpos h40 g1 g2 b1 (by rw [he]; exact qz_nb_rg v) ?_ e2 e3
  rw [he, e1]
  show some (cell.setSlot i.toNat _) = some (cell.setSlot i.toNat _)
  rw [show qz_tv h 5 (qz_nb v) = narrow .byte (.int (Int32.ofInt v)) from ?_]
  show Value.int (Int32.ofInt (qz_nb v)) = _
  unfold qz_nb
  rw [Int32.ofInt_toInt]
  rfl
theorem qz_zast {k0 : Nat} {a i v : Int} {f : qz_H → Option qz_R} (h40 : decide (40 ≤ k0) = true) (hT : kz_aT k0 = .boolean) (he : (kz_ae k0 == 3) = true) (k : ∀ h', qz_J Y G is (pc + 1) ls st h' cs sl (f h')) : qz_J Y G ((.bastore, 1) :: is) pc ls (qz_i v :: qz_i i :: qz_r true k0 a :: st) h cs sl (qz_ck (0 < a ∧ 0 ≤ i ∧ i < h a (-1)) (qz_bn (qz_up h a i (qz_nz v)) f)) := by
  obtain ⟨p, l, e, s, m, args, below, meth, c, D, dA, B0, hc, h0⟩ := G
  intro r hr hx lsC stC H locs hca hl hs hW hS
  obtain ⟨h1, h2, h3, h4, h5, h6, h7, h8, h9⟩ := id hx
  obtain ⟨rv, qv, v0, r0, q0, vi, r1, q1, v1, hs⟩ := hs
  obtain ⟨⟨hpos, g1, g2⟩, hr⟩ := qz_ck_some hr
  have hok := qz_vot v1
  rw [qz_cvr (qz_ok_ne hok)] at q1
  subst q1
  subst q0
  subst qv
  have h40 : 40 ≤ k0 := by simpa using h40
  have he : kz_ae k0 = 3 := by simpa using he
  obtain ⟨⟨cell, b1, b2, b3, b4, b5, b6, b7⟩, b8, b9, b10⟩ := (hW.2.1 a k0 hok).2 h40
  obtain ⟨x1, x2⟩ := qz_idx g1 g2 b9 b5
  rw [hT] at b2
  refine W.zast h1 h2 b1 b2 b3 x1 rfl rfl hca.1 fun H' e1 e2 e3 => ?_
  have ex := (qz_up_sm (h := h) (v := qz_nz v) hpos g1).ex
  rw [x2] at e1 ⊢
  refine k _ r hr hx lsC _ H' _ hca.2 (ex.lr hl) (ex.sr _ _ hs) ?_ (hS.put e2 e3 (hW.2.2.1 a (qz_ok_pos hok hpos).1 (qz_ok_pos hok hpos).2).1)
  refine qz_W_elt hW hok hpos h40 g1 g2 b1 (by rw [he]; exact qz_nz_rg v) ?_ e2 e3
  rw [he, e1]
  show some (cell.setSlot i.toNat _) = some (cell.setSlot i.toNat _)
  rw [show qz_tv h 3 (qz_nz v) = narrow .boolean (.int (Int32.ofInt v)) from ?_]
  show Value.int (Int32.ofInt (qz_nz v)) = _
  unfold qz_nz
  rw [Int32.ofInt_toInt]
  rfl
end QR
