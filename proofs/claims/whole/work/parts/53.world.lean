theorem kz_kind {ad : Int → Nat} {sz L : Nat} {xs : Nat → Int32} {k : Nat} {x : Int} (hk : qz_ok (kz_h0 ad sz L xs) k x) : (-126 ≤ x ∧ x ≤ -1) ∧ kz_kc x = k := by
  obtain ⟨h | ⟨h1, h2⟩, h3⟩ := hk
  · have z : kz_h0 ad sz L xs 0 0 = 0 := rfl
    rw [z] at h
    omega
  · have h1' : -126 ≤ x := h1
    rw [kz_h0_kd ad sz L xs x h1 h2] at h3
    exact ⟨⟨h1', h2⟩, Int.ofNat.inj h3⟩
theorem kz_Wd {s : State} {b L : Nat} {xs : Nat → Int32} {ad : Int → Nat} {D : va_G} {dA : Nat → ClassId} (hn : ∀ w ∈ kz_wnw, w.before #[Value.ref b] s = true) (hD : ∀ (c : Nat) (q : vw_C), kz_cl[c]? = some q → kz_P s c q (D.1 c, D.2 c)) (had : ∀ x : Int, -126 ≤ x → x ≤ -1 → (kz_tm x).eval #[Value.ref b] s none [] s = some (.ref (ad x))) (hlt : ∀ x : Int, -126 ≤ x → x ≤ -1 → ad x < s.heap.size) (hX : va_X b L xs s s.heap) (hL : L ≤ 1536) (hb : ad (-34) = b) :
    qz_W D dA s.heap.size (kz_h0 ad s.heap.size L xs) (kz_h0 ad s.heap.size L xs) s (kz_h0 ad s.heap.size L xs) s.heap := by
  refine ⟨⟨Int.le_refl 0, rfl⟩, fun x k hk => ?_, fun x h1 h2 => ?_, fun x y h1 h2 => ?_, fun x h1 h2 => ?_, fun _ _ _ => rfl, qz_ex.rf _⟩
  · obtain ⟨⟨h1, h2⟩, hkc⟩ := kz_kind hk
    unfold kz_kc at hkc
    by_cases c1 : -30 ≤ x
    · rw [if_pos c1] at hkc
      subst hkc
      exact ⟨fun _ => kz_op_ob hn hD had c1 h2, fun z => absurd z (by decide)⟩
    rw [if_neg c1] at hkc
    by_cases c2 : x = -31
    · rw [if_pos c2] at hkc
      subst hkc; subst c2
      exact ⟨fun z => absurd z (by decide), fun _ => kz_al_ay hn had⟩
    rw [if_neg c2] at hkc
    by_cases c3 : -34 ≤ x
    · rw [if_pos c3] at hkc
      subst hkc
      refine ⟨fun z => absurd z (by decide), fun _ => ?_⟩
      have : x = -32 ∨ x = -33 ∨ x = -34 := by omega
      rcases this with rfl | rfl | rfl
      · exact kz_hd_ay hn had
      · exact kz_sw_ay hn had
      · exact kz_sc_ay hX hL hb
    rw [if_neg c3] at hkc
    by_cases c6 : x % 2 = 1
    · rw [if_pos c6] at hkc
      subst hkc
      refine ⟨fun _ => ?_, fun z => absurd z (by decide)⟩
      have e : x = -35 - 2 * (((-35 - x) / 2).toNat : Int) := by omega
      rw [e]
      exact kz_st_ob hn hD had (by omega)
    · rw [if_neg c6] at hkc
      subst hkc
      refine ⟨fun z => absurd z (by decide), fun _ => ?_⟩
      have e : x = -36 - 2 * (((-36 - x) / 2).toNat : Int) := by omega
      rw [e]
      exact kz_sv_ay hn had (by omega)
  · have z : kz_h0 ad s.heap.size L xs 0 0 = 0 := rfl
    rw [z] at h2
    omega
  · have z : kz_h0 ad s.heap.size L xs 0 0 = 0 := rfl
    rw [z] at h2
    omega
  · rw [kz_h0_ad]
    exact hlt x h1 h2
