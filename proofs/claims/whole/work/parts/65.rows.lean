/-! Rows of characters that grow: the place of the count (o, i), the row a. -/
def bz_gp (h : qz_H) (o i a c : Int) : qz_H := qz_up (if h o i < 320 then qz_up h a (h o i) c else h) o i (h o i + 1)
def bz_gs (h : qz_H) (o i a : Int) : List Int → qz_H
  | [] => h
  | c :: l => bz_gs (bz_gp h o i a c) o i a l
theorem bz_gs_app (o i a : Int) : ∀ (l1 l2 : List Int) (h : qz_H), bz_gs (bz_gs h o i a l1) o i a l2 = bz_gs h o i a (l1 ++ l2)
  | [], _, _ => rfl
  | c :: l1, l2, h => bz_gs_app o i a l1 l2 (bz_gp h o i a c)
theorem bz_gp_o {h : qz_H} {o i a c x y : Int} (h1 : x ≠ o ∨ y ≠ i) (h2 : x ≠ a) : bz_gp h o i a c x y = h x y := by
  have z : qz_up (if h o i < 320 then qz_up h a (h o i) c else h) o i (h o i + 1) x y = (if h o i < 320 then qz_up h a (h o i) c else h) x y := by
    rcases h1 with h1 | h1
    · exact bz_uo h1
    · exact bz_ui h1
  unfold bz_gp
  rw [z]
  split
  · exact bz_uo h2
  · rfl
theorem bz_gs_o {o i a x y : Int} (h1 : x ≠ o ∨ y ≠ i) (h2 : x ≠ a) : ∀ (l : List Int) (h : qz_H), bz_gs h o i a l x y = h x y
  | [], _ => rfl
  | c :: l, h => (bz_gs_o h1 h2 l (bz_gp h o i a c)).trans (bz_gp_o h1 h2)
theorem bz_gs_n (o i a : Int) : ∀ (l : List Int) (h : qz_H), bz_gs h o i a l o i = h o i + l.length
  | [], h => by rw [bz_gs]; simp
  | c :: l, h => by
    rw [bz_gs, bz_gs_n o i a l]
    unfold bz_gp
    rw [bz_us, List.length_cons]
    omega
/-- a place of the row: what stood there, or the character that came there -/
theorem bz_gs_c {o i a : Int} (hoa : a ≠ o) : ∀ (l : List Int) (h : qz_H) (k : Int), 0 ≤ h o i → bz_gs h o i a l a k = if h o i ≤ k ∧ k < h o i + l.length ∧ k < 320 then l.getD (k - h o i).toNat 0 else h a k
  | [], h, k, h0 => by
    rw [bz_gs, if_neg (by simp only [List.length_nil]; omega)]
  | c :: l, h, k, h0 => by
    have e1 : bz_gp h o i a c o i = h o i + 1 := bz_us _ _ _ _
    rw [bz_gs, bz_gs_c hoa l _ k (by omega), e1, List.length_cons]
    by_cases q : h o i + 1 ≤ k ∧ k < h o i + 1 + l.length ∧ k < 320
    · rw [if_pos q, if_pos (by omega)]
      have e2 : (k - h o i).toNat = (k - (h o i + 1)).toNat + 1 := by omega
      rw [e2, List.getD_cons_succ]
    · rw [if_neg q]
      unfold bz_gp
      rw [bz_uo hoa]
      by_cases q2 : k = h o i ∧ k < 320
      · rw [if_pos (by omega : h o i < 320), if_pos (by omega), q2.1, bz_us]
        have e3 : (h o i - h o i).toNat = 0 := by omega
        rw [e3]
        rfl
      · rw [if_neg (by omega : ¬ (h o i ≤ k ∧ k < h o i + ((l.length + 1 : Nat) : Int) ∧ k < 320))]
        split
        · exact bz_ui (by omega)
        · rfl
/-- longs -/
theorem bz_x {z : Int} (h1 : -9223372036854775808 ≤ z) (h2 : z ≤ 9223372036854775807) : qz_x z = z := Int64.toInt_ofInt_of_le h1 (by omega)
theorem bz_divJ {x y : Int} (h1 : -9223372036854775808 ≤ x) (h2 : x ≤ 9223372036854775807) (h3 : 1 ≤ y) (h4 : y ≤ 9223372036854775807) : qz_divJ x y = x.tdiv y ∧ -9223372036854775808 ≤ x.tdiv y ∧ x.tdiv y ≤ 9223372036854775807 ∧ (x.tdiv y).natAbs ≤ x.natAbs := by
  have e : (x.tdiv y).natAbs ≤ x.natAbs := by
    rw [Int.natAbs_tdiv]
    exact Nat.div_le_self _ _
  have hr : -9223372036854775808 ≤ x.tdiv y ∧ x.tdiv y ≤ 9223372036854775807 := by
    by_cases hx : 0 ≤ x
    · have := Int.tdiv_nonneg hx (show 0 ≤ y by omega)
      omega
    · have z := Int.tdiv_nonneg (show 0 ≤ -x by omega) (show 0 ≤ y by omega)
      rw [Int.neg_tdiv] at z
      omega
  refine ⟨?_, hr.1, hr.2, e⟩
  unfold qz_divJ
  rw [Int64.toInt_div, Int64.toInt_ofInt_of_le h1 (by omega), Int64.toInt_ofInt_of_le (by omega) (by omega)]
  exact Int.bmod_eq_of_le (by omega) (by omega)
theorem bz_remJ {x : Int} (h1 : -9223372036854775808 ≤ x) (h2 : x ≤ 9223372036854775807) : qz_remJ x 10 = x.tmod 10 := by
  have hm := Int.tmod_add_tdiv_mul x 10
  have hb : (-9 ≤ x.tmod 10 ∧ x.tmod 10 ≤ 9) ∧ (0 ≤ x → 0 ≤ x.tmod 10) ∧ (x < 0 → x.tmod 10 ≤ 0) := by
    by_cases hx : 0 ≤ x
    · have a1 := Int.tmod_nonneg 10 hx
      have a2 := Int.tmod_lt_of_pos x (show (0 : Int) < 10 by omega)
      omega
    · have a1 := Int.tmod_nonneg 10 (show 0 ≤ -x by omega)
      have a2 := Int.tmod_lt_of_pos (-x) (show (0 : Int) < 10 by omega)
      rw [Int.neg_tmod] at a1 a2
      omega
  have hd := (bz_divJ h1 h2 (show (1 : Int) ≤ 10 by omega) (by omega)).2
  have hs : (x.tdiv 10).natAbs ≤ x.natAbs ∧ (0 ≤ x → 0 ≤ x.tdiv 10) ∧ (x < 0 → x.tdiv 10 ≤ 0) := by
    refine ⟨hd.2.2, fun hx => Int.tdiv_nonneg hx (by omega), fun hx => ?_⟩
    have z := Int.tdiv_nonneg (show 0 ≤ -x by omega) (show (0 : Int) ≤ 10 by omega)
    rw [Int.neg_tdiv] at z
    omega
  have hq : -9223372036854775808 ≤ x.tdiv 10 * 10 ∧ x.tdiv 10 * 10 ≤ 9223372036854775807 := by omega
  unfold qz_remJ
  have e1 : (Int64.ofInt x / Int64.ofInt 10).toInt = x.tdiv 10 := (bz_divJ h1 h2 (show (1 : Int) ≤ 10 by omega) (by omega)).1
  have e2 : (Int64.ofInt x / Int64.ofInt 10 * Int64.ofInt 10).toInt = x.tdiv 10 * 10 := by
    rw [Int64.toInt_mul, e1, Int64.toInt_ofInt_of_le (by omega) (by omega)]
    exact Int.bmod_eq_of_le (by omega) (by omega)
  rw [Int64.toInt_sub, e2, Int64.toInt_ofInt_of_le h1 (by omega)]
  rw [Int.bmod_eq_of_le (by omega) (by omega)]
  omega
/-- the digits of a long: from 10 to the k down -/
def bz_dg (v : Int) : Nat → List Int
  | 0 => [48 + ((v.tmod 10).natAbs : Int)]
  | k + 1 => (48 + (((v.tdiv (10 ^ (k + 1))).tmod 10).natAbs : Int)) :: bz_dg v k
def bz_sr (v : Int) : Nat → Nat → Nat
  | 0, k => k
  | n + 1, k => if (v.tdiv (10 ^ k)).natAbs ≤ 9 then k else bz_sr v n (k + 1)
def bz_num (v : Int) : List Int := (if v < 0 then [45] else []) ++ bz_dg v (bz_sr v 18 0)
theorem bz_sr_le (v : Int) : ∀ (n k : Nat), bz_sr v n k ≤ n + k
  | 0, k => by rw [bz_sr]; omega
  | n + 1, k => by
    have := bz_sr_le v n (k + 1)
    rw [bz_sr]
    split <;> omega
theorem bz_dg_len (v : Int) : ∀ k : Nat, (bz_dg v k).length = k + 1
  | 0 => rfl
  | k + 1 => by rw [bz_dg, List.length_cons, bz_dg_len v k]
theorem bz_num_len (v : Int) : (bz_num v).length ≤ 20 := by
  unfold bz_num
  have := bz_sr_le v 18 0
  rw [List.length_append, bz_dg_len]
  split <;> simp only [List.length_cons, List.length_nil] <;> omega
theorem bz_p10 : ∀ k : Nat, k ≤ 18 → (1 : Int) ≤ 10 ^ k ∧ (10 : Int) ^ k ≤ 1000000000000000000 := by
  intro k hk
  have z : ∀ k : Nat, k < 19 → (1 : Int) ≤ 10 ^ k ∧ (10 : Int) ^ k ≤ 1000000000000000000 := by decide +kernel
  exact z k (by omega)
/-- what is left of a list of pieces -/
def bz_fl (g : Int → List Int) (a : Int) : Nat → List Int
  | 0 => []
  | n + 1 => g a ++ bz_fl g (a + 1) n
theorem bz_fl_len {g : Int → List Int} {B : Nat} (hg : ∀ k, (g k).length ≤ B) : ∀ (n : Nat) (a : Int), (bz_fl g a n).length ≤ n * B
  | 0, _ => by rw [bz_fl]; simp
  | n + 1, a => by
    have h1 := bz_fl_len hg n (a + 1)
    have h2 := hg a
    rw [bz_fl, List.length_append, Nat.succ_mul]
    omega
