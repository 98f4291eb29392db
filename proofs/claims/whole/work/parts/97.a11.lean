theorem cz_ush32 {y v : Int} (h : cz_uv y v) : qz_cmp (qz_ushJ y 32) 0 = 0 ↔ v < 4294967296 := by
  obtain ⟨h1, h2, h3, h4, h5⟩ := h
  have e : qz_ushJ y 32 = v / 4294967296 := by
    unfold qz_ushJ
    have ey : (Int32.ofInt 32).toInt64.toUInt64 &&& Int64.toUInt64 63 = 32 := by decide +kernel
    rw [ey]
    show ((Int64.ofInt y).toUInt64 >>> 32).toBitVec.toInt = v / 4294967296
    have e : ((Int64.ofInt y).toUInt64 >>> 32).toBitVec.toNat = (v / 4294967296).toNat := by
      show ((Int64.ofInt y).toUInt64 >>> 32).toNat = (v / 4294967296).toNat
      rw [UInt64.toNat_shiftRight]
      have e1 : (Int64.ofInt y).toUInt64.toNat = v.toNat := by
        show (BitVec.ofInt 64 y).toNat = v.toNat
        rw [BitVec.toNat_ofInt]
        omega
      rw [e1]
      show v.toNat >>> 32 = (v / 4294967296).toNat
      rw [Nat.shiftRight_eq_div_pow]
      omega
    rw [BitVec.toInt_eq_toNat_cond, e, if_pos (by omega)]
    omega
  rw [e]
  unfold qz_cmp
  split <;> (try split) <;> omega
theorem cz_b32 {y v : Int} (h : cz_uv y v) (hm : qz_H) : fn_Md_below32 y hm = some (if v < 4294967296 then 1 else 0, hm) := by
  unfold fn_Md_below32 fn_Md_below32_14
  have e := cz_ush32 h
  rw [bz_ck (by omega), bz_ck (by omega)]
  by_cases c : v < 4294967296
  · rw [if_neg (fun z => z (e.mpr c)), if_pos c]
  · rw [if_pos (fun z => c (e.mp z)), if_neg c]
theorem cz_w32 (z : Int) : -2147483648 ≤ qz_w z ∧ qz_w z ≤ 2147483647 := by
  unfold qz_w
  rw [Int32.toInt_ofInt]
  show -2147483648 ≤ Int.bmod z 4294967296 ∧ Int.bmod z 4294967296 ≤ 2147483647
  unfold Int.bmod
  simp only []
  split <;> omega
section SC
variable {t : Int → Int} {N T : Int} {hc hm : qz_H}
/-- a constant -/
theorem cz_const (w : cz_tt t N) (a : cz_tc t N T hc) (b : cz_tm t N hm) {s : Int} {L : Nat} (tk : cz_tk t N hc hm 2 s L) (h38 : hm 67 38 = 0) {o l1 : Int} (ho : o = 5 ∧ l1 = 0 ∨ o = 6 ∧ l1 = 1) :
    (∃ y v z, fn_Reader_readOperand 30 o hc = some (0, qz_up (qz_up hc 34 5 y) 30 8 v) ∧ fn_Md_constant 67 l1 hm = some (0, qz_up (qz_up hm 67 47 z) 67 38 1)) ∨
    ∃ y v, fn_Reader_readOperand 30 o hc = some (1, qz_up (qz_up hc 34 5 y) 30 8 v) ∧ fn_Md_constant 67 l1 hm = (qz_bc (fn_Md_next 67 (qz_up hm 67 47 v)) fun _ h => some (1, h)) ∧ -9223372036854775808 ≤ v ∧ v ≤ 9223372036854775807 ∧ (o = 5 → -2147483648 ≤ v ∧ v ≤ 2147483647) := by
  have wN := w.2.1
  obtain ⟨k1, k2, k3, k4, k5, k6, k7⟩ := tk
  rcases k7 with k7 | ⟨_, hw, g1, g2, g3, g4, g5, g6⟩ | k7
  · omega
  · have hN := cz_wd_N w hw
    have hL := hw.2.1
    have hT := a.2.2.1
    have c30 := bz_c30_0 a.1
    have bg : ∀ c : Int, fn_Scanner_beginsWith 34 c hc = some (if t s = c then 1 else 0, hc) := by
      intro c
      unfold fn_Scanner_beginsWith fn_Scanner_beginsWith_20
      rw [a.2.1, bz_ck (by omega), k2, cz_tca w a, bz_bc, bz_ck (by omega), bz_ck (by omega)]
      (repeat' split) <;> first | rfl | omega
    -- where the digits begin, and what they say
    have base : ∀ f : Int, f = (if t s = 45 ∨ t s = 43 then s + 1 else s) → ∃ r y z, fn_Scanner_readDigits 34 f hc = some (r, qz_up hc 34 5 y) ∧ fn_Md_digits 67 f hm = some (r, qz_up hm 67 47 z) ∧ (r = 0 ∨ r = 1 ∧ y = z ∧ ∃ v, cz_uv y v) := by
      intro f hf
      refine cz_dig w a b hw g1 k3 g3 ?_ ?_ <;> (rw [hf]; split <;> omega)
    obtain ⟨r, y, z, d1, d2, d3⟩ := base _ rfl
    -- the class
    have cR : ∀ mb ms : Int, fn_Reader_readNumber 30 mb ms hc = qz_bc (fn_Scanner_readDigits 34 (if t s = 45 ∨ t s = 43 then s + 1 else s) hc) fun r1 h2 => qz_bn (r1 : Int) fun x3 => qz_ck ((h2 30 0 : Int) ≠ 0) <| qz_bn (h2 (h2 30 0) 5 : Int) fun x4 => if t s = 45 then fn_Reader_readNumber_91 mb ms 1 x3 x4 30 (qz_x (-x4)) h2 else fn_Reader_readNumber_91 mb ms 0 x3 x4 30 x4 h2 := by
      intro mb ms
      unfold fn_Reader_readNumber fn_Reader_readNumber_28 fn_Reader_readNumber_33 fn_Reader_readNumber_63
      have y1 : ¬ (1 : Int) = 0 := by omega
      have y0 : ¬ ¬ (0 : Int) = 0 := by omega
      rw [c30, bz_ck (by omega), bg, bz_bc, bz_bn]
      by_cases c1 : t s = 45
      · rw [if_pos c1, if_pos y1]
        dsimp only [qz_bn]
        rw [if_neg y1, c30, bz_ck (by omega), k2, bz_w (by omega) (by omega), bz_ck (by omega), if_pos (Or.inl c1)]
        simp [c1]
      · rw [if_neg c1, if_neg y0, c30, bz_ck (by omega), bg, bz_bc]
        by_cases c2 : t s = 43
        · rw [if_pos c2, if_neg y1]
          dsimp only [qz_bn]
          rw [if_neg y1, c30, bz_ck (by omega), k2, bz_w (by omega) (by omega), bz_ck (by omega), if_pos (Or.inr c2)]
          simp [c1]
        · rw [if_neg c2, if_pos rfl]
          dsimp only [qz_bn]
          rw [if_pos rfl, c30, bz_ck (by omega), k2, bz_ck (by omega), if_neg (by omega)]
          simp [c1]
    -- the model
    have mK : fn_Md_constant 67 l1 hm = fn_Md_constant_76 67 l1 (if t s = 45 then 1 else 0) 67 (if t s = 45 ∨ t s = 43 then s + 1 else s) hm := by
      unfold fn_Md_constant fn_Md_constant_33 fn_Md_constant_52 fn_Md_constant_57
      rw [k4, if_neg (show ¬ (2 : Int) = 4 by omega), if_pos (by omega), bz_m67_6 b.1, bz_ck (by omega), k3, bz_m71_m1 b.1, bz_ck (by omega), b.2.2 s k5 (by omega), bz_w (by omega) (by omega)]
      dsimp only [qz_bn]
      by_cases c1 : t s = 45
      · simp [c1]
      · by_cases c2 : t s = 43
        · simp [c1, c2, bz_ck, k5, show s < 320 by omega]
        · simp [c1, c2, bz_ck, k5, show s < 320 by omega]
    have fail : ∀ q : qz_H, q 67 38 = 0 → fn_Md_fail 67 1 q = some (0, qz_up q 67 38 1) := by
      intro q hq
      unfold fn_Md_fail fn_Md_fail_16
      rw [hq, if_neg (by omega), bz_ck (by omega), bz_bn, bz_ck (by omega)]
    have h38' : ∀ x : Int, qz_up hm 67 47 x 67 38 = 0 := fun x => by rw [bz_ui (by omega), h38]
    have m161 : ∀ (l2 x : Int), fn_Md_constant_161 67 l1 l2 0 (qz_up hm 67 47 x) = some (0, qz_up (qz_up hm 67 47 x) 67 38 1) := by
      intro l2 x
      unfold fn_Md_constant_161
      rw [if_neg (by omega), fail _ (h38' x), bz_bc, bz_ck (by omega)]
    have m161' : ∀ (l2 x : Int), fn_Md_constant_161 67 l1 l2 1 (qz_up hm 67 47 x) = qz_bc (fn_Md_next 67 (qz_up hm 67 47 (if l1 = 0 then qz_w (if l2 = 0 then x else qz_x (-x)) else (if l2 = 0 then x else qz_x (-x))))) fun _ h => some (1, h) := by
      intro l2 x
      unfold fn_Md_constant_161 fn_Md_constant_189 fn_Md_constant_210
      rw [if_pos (by omega), bz_us]
      have e1 : ∀ v : Int, (qz_ck ((0 : Int) < 67) <| qz_bn (qz_up (qz_up hm 67 47 x) 67 47 v) fun h1 => if l1 = 0 then (qz_ck ((0 : Int) < 67) <| qz_bn (qz_up h1 67 47 (qz_w (h1 67 47))) fun h1 => qz_bc (fn_Md_next 67 h1) fun _ h3 => qz_ck ((1 : Int) = 0 ∨ (1 : Int) = 1) (some (1, h3))) else (qz_ck ((0 : Int) < 67) <| qz_bn (qz_up h1 67 47 (h1 67 47)) fun h1 => qz_bc (fn_Md_next 67 h1) fun _ h3 => qz_ck ((1 : Int) = 0 ∨ (1 : Int) = 1) (some (1, h3)))) = qz_bc (fn_Md_next 67 (qz_up hm 67 47 (if l1 = 0 then qz_w v else v))) fun _ h => some (1, h) := by
        intro v
        rw [bz_ck (by omega), bz_bn, cz_uu, bz_us, cz_uu, cz_uu, bz_ck (by omega), bz_ck (by omega), bz_bn, bz_bn]
        by_cases c : l1 = 0
        · rw [if_pos c, if_pos c]; congr 1
        · rw [if_neg c, if_neg c, cz_uu]; congr 1
      rw [e1, e1]
      by_cases c : l2 = 0
      · rw [if_pos c, if_pos c]
      · rw [if_neg c, if_neg c]
    rw [d1] at cR
    have cR' : ∀ mb ms : Int, fn_Reader_readNumber 30 mb ms hc = if t s = 45 then fn_Reader_readNumber_91 mb ms 1 r y 30 (qz_x (-y)) (qz_up hc 34 5 y) else fn_Reader_readNumber_91 mb ms 0 r y 30 y (qz_up hc 34 5 y) := by
      intro mb ms
      rw [cR mb ms, bz_bc, bz_bn, bz_uo (by omega), c30, bz_ck (by omega), bz_us, bz_bn]
    unfold fn_Md_constant_76 fn_Md_constant_158 fn_Md_constant_154 fn_Md_constant_159 fn_Md_constant_118 fn_Md_constant_114 fn_Md_constant_119 at mK
    rw [d2, bz_bc, bz_bn] at mK
    dsimp only [qz_bn] at mK
    have c91 : ∀ (mb ms l5 v : Int) (g : qz_H), fn_Reader_readNumber_91 mb ms l5 0 y 30 v g = some (0, qz_up g 30 8 v) := by
      intro mb ms l5 v g
      unfold fn_Reader_readNumber_91 fn_Reader_readNumber_121 fn_Reader_readNumber_122
      rw [bz_ck (by omega), bz_bn, if_pos rfl, bz_ck (by omega)]
    have c91' : ∀ (mb ms l5 v : Int) (g : qz_H), fn_Reader_readNumber_91 mb ms l5 1 y 30 v g = qz_bc (fn_Long_compareUnsigned y (if l5 = 0 then ms else mb) (qz_up g 30 8 v)) fun r1 h2 => some (if 0 < r1 then 0 else 1, h2) := by
      intro mb ms l5 v g
      unfold fn_Reader_readNumber_91 fn_Reader_readNumber_111 fn_Reader_readNumber_121 fn_Reader_readNumber_122
      rw [bz_ck (by omega), bz_bn, if_neg (by omega)]
      have e1 : ∀ q : Option qz_R, (qz_bc q fun r1 h2 => if 0 < r1 then qz_ck ((0 : Int) = 0 ∨ (0 : Int) = 1) (some (0, h2)) else qz_ck ((1 : Int) = 0 ∨ (1 : Int) = 1) (some (1, h2))) = qz_bc q fun r1 h2 => some (if 0 < r1 then 0 else 1, h2) := by
        intro q
        congr 1
        funext r1 h2
        rw [bz_ck (by omega), bz_ck (by omega)]
        split <;> rfl
      rw [e1, e1]
      split <;> rfl
    unfold fn_Reader_readOperand
    rcases d3 with rfl | ⟨rfl, rfl, v, hv⟩
    · left
      rcases ho with ⟨rfl, rfl⟩ | ⟨rfl, rfl⟩
      · rw [if_neg (by omega), cR']
        rw [if_pos rfl, if_pos rfl, m161] at mK
        refine ⟨y, qz_w (if t s = 45 then qz_x (-y) else y), z, ?_, mK⟩
        by_cases c : t s = 45
        · rw [if_pos c, if_pos c, c91, bz_bc, bz_bn, bz_ck (by omega), bz_bn, bz_us, cz_uu, bz_ck (by omega)]
        · rw [if_neg c, if_neg c, c91, bz_bc, bz_bn, bz_ck (by omega), bz_bn, bz_us, cz_uu, bz_ck (by omega)]
      · rw [if_pos (by omega), if_neg (by omega), cR']
        rw [if_neg (by omega), if_pos rfl, m161] at mK
        refine ⟨y, if t s = 45 then qz_x (-y) else y, z, ?_, mK⟩
        by_cases c : t s = 45
        · rw [if_pos c, if_pos c, c91, bz_bc, bz_ck (by omega)]
        · rw [if_neg c, if_neg c, c91, bz_bc, bz_ck (by omega)]
    · have hv' := hv
      obtain ⟨v1, v2, v3, v4, v5⟩ := hv'
      have xn := cz_xb (-y)
      rcases ho with ⟨rfl, rfl⟩ | ⟨rfl, rfl⟩
      · rw [if_neg (by omega), cR']
        rw [if_pos rfl, if_neg (by omega), bz_us, cz_b32 hv, bz_bc, m161, m161', bz_us, if_pos rfl] at mK
        by_cases c : t s = 45
        · rw [if_pos c, c91', if_neg (show ¬ (1 : Int) = 0 by omega), cz_cu hv (u := 2147483648) ⟨by omega, by omega, by omega, by omega, by omega⟩, bz_bc, bz_bc, bz_bn, bz_ck (by omega), bz_bn, bz_us, cz_uu, bz_ck (by split <;> omega)]
          rw [if_pos c, if_neg (show ¬ (1 : Int) = 0 by omega), if_neg (show ¬ (1 : Int) = 0 by omega)] at mK
          by_cases c2 : v ≤ 2147483648
          · right
            refine ⟨y, qz_w (qz_x (-y)), ?_, ?_, ?_⟩
            · rw [if_neg]
              split <;> (try split) <;> omega
            · rw [mK, if_pos (show v < 4294967296 by omega), if_neg (show ¬ (1 : Int) = 0 by omega), if_neg]
              unfold qz_cmp
              split <;> (try split) <;> omega
            · have := cz_w32 (qz_x (-y))
              exact ⟨by omega, by omega, fun _ => this⟩
          · left
            refine ⟨y, qz_w (qz_x (-y)), y, ?_, ?_⟩
            · rw [if_pos]
              split <;> (try split) <;> omega
            · rw [mK]
              by_cases c3 : v < 4294967296
              · rw [if_pos c3, if_neg (show ¬ (1 : Int) = 0 by omega), if_pos]
                unfold qz_cmp
                split <;> (try split) <;> omega
              · rw [if_neg c3, if_pos rfl]
        · rw [if_neg c, c91', if_pos rfl, cz_cu hv (u := 4294967295) ⟨by omega, by omega, by omega, by omega, by omega⟩, bz_bc, bz_bc, bz_bn, bz_ck (by omega), bz_bn, bz_us, cz_uu, bz_ck (by split <;> omega)]
          rw [if_neg c, if_pos rfl, if_pos rfl] at mK
          by_cases c2 : v < 4294967296
          · right
            refine ⟨y, qz_w y, ?_, ?_, ?_⟩
            · rw [if_neg]
              split <;> (try split) <;> omega
            · rw [mK, if_pos c2, if_neg (show ¬ (1 : Int) = 0 by omega)]
            · have := cz_w32 y
              exact ⟨by omega, by omega, fun _ => this⟩
          · left
            refine ⟨y, qz_w y, y, ?_, ?_⟩
            · rw [if_pos]
              split <;> (try split) <;> omega
            · rw [mK, if_neg c2, if_pos rfl]
      · rw [if_pos (by omega), if_neg (by omega), cR']
        rw [if_neg (show ¬ (1 : Int) = 0 by omega), if_neg (show ¬ (1 : Int) = 0 by omega), bz_us, m161, m161', if_neg (show ¬ (1 : Int) = 0 by omega)] at mK
        by_cases c : t s = 45
        · rw [if_pos c, c91', if_neg (show ¬ (1 : Int) = 0 by omega), cz_cu hv (u := 9223372036854775808) ⟨by omega, by omega, by omega, by omega, by omega⟩, bz_bc, bz_bc, bz_ck (by split <;> omega)]
          rw [if_pos c, if_neg (show ¬ (1 : Int) = 0 by omega), if_neg (show ¬ (1 : Int) = 0 by omega)] at mK
          by_cases c2 : v ≤ 9223372036854775808
          · right
            refine ⟨y, qz_x (-y), ?_, ?_, ?_⟩
            · rw [if_neg]
              split <;> (try split) <;> omega
            · rw [mK]
              unfold qz_cmp
              by_cases c3 : 0 ≤ y
              · rw [if_pos]
                split <;> (try split) <;> omega
              · rw [if_neg (by split <;> (try split) <;> omega), if_neg]
                rw [if_neg (by omega), if_pos (by omega)]
                omega
            · exact ⟨by omega, by omega, fun z => by omega⟩
          · left
            refine ⟨y, qz_x (-y), y, ?_, ?_⟩
            · rw [if_pos]
              split <;> (try split) <;> omega
            · rw [mK]
              unfold qz_cmp
              rw [if_neg (by split <;> (try split) <;> omega), if_pos]
              split <;> (try split) <;> omega
        · rw [if_neg c, c91', if_pos rfl, cz_cu hv (u := 18446744073709551615) ⟨by omega, by omega, by omega, by omega, by omega⟩, bz_bc, bz_bc, bz_ck (by split <;> omega)]
          rw [if_neg c, if_pos rfl, if_pos rfl] at mK
          right
          refine ⟨y, y, ?_, mK, ?_⟩
          · rw [if_neg]
            split <;> (try split) <;> omega
          · exact ⟨by omega, by omega, fun z => by omega⟩
  · omega
end SC
