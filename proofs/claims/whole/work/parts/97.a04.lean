/-! Words. -/
theorem cz_or8 {x c : Int} (x0 : 0 ≤ x) (x1 : x < 36028797018963968) (c0 : 0 ≤ c) (c1 : c < 128) : qz_orJ (qz_shlJ x 8) c = x * 256 + c := by
  unfold qz_orJ qz_shlJ
  rw [Int64.ofInt_toInt]
  have ey : (Int32.ofInt 8).toInt64 &&& 63 = 8 := by decide +kernel
  rw [ey]
  show ((BitVec.ofInt 64 x <<< (8 : Int64).toBitVec.smod 64) ||| BitVec.ofInt 64 c).toInt = x * 256 + c
  rw [show (8 : Int64).toBitVec.smod 64 = 8#64 by decide +kernel]
  have e : ((BitVec.ofInt 64 x <<< 8#64) ||| BitVec.ofInt 64 c).toNat = (x * 256 + c).toNat := by
    rw [BitVec.toNat_or, BitVec.shiftLeft_eq', BitVec.toNat_shiftLeft, BitVec.toNat_ofInt, BitVec.toNat_ofInt]
    have e1 : (x % ((2 ^ 64 : Nat) : Int)).toNat = x.toNat := by omega
    have e2 : (c % ((2 ^ 64 : Nat) : Int)).toNat = c.toNat := by omega
    rw [e1, e2, show (8#64).toNat = 8 from rfl, Nat.shiftLeft_eq, Nat.mod_eq_of_lt (by omega), Nat.mul_comm, ← Nat.two_pow_add_eq_or_of_lt (by omega)]
    omega
  rw [BitVec.toInt_eq_toNat_cond, e, if_pos (by omega)]
  omega
def cz_W (t : Int → Int) (s : Int) (L : Nat) : List Int := (List.range L).map fun (i : Nat) => t (s + (i : Int))
def cz_pl (l : List Int) : Int := l.foldl (fun x c => x * 256 + c) 0
def cz_pr : List Int → Int
  | [] => 0
  | c :: l => cz_pr l * 256 + c
theorem cz_W_succ (t : Int → Int) (s : Int) (L : Nat) : cz_W t s (L + 1) = cz_W t s L ++ [t (s + (L : Int))] := by
  unfold cz_W
  rw [List.range_succ, List.map_append]
  rfl
theorem cz_W_len (t : Int → Int) (s : Int) (L : Nat) : (cz_W t s L).length = L := by
  unfold cz_W
  rw [List.length_map, List.length_range]
theorem cz_W_get (t : Int → Int) (s : Int) {L i : Nat} (h : i < L) : (cz_W t s L).getD i 0 = t (s + (i : Int)) := by
  unfold cz_W
  rw [List.getD_eq_getElem?_getD, List.getElem?_map, List.getElem?_range h]
  rfl
theorem cz_pl_app (l : List Int) (c : Int) : cz_pl (l ++ [c]) = cz_pl l * 256 + c := by
  unfold cz_pl
  rw [List.foldl_append]
  rfl
theorem cz_pr_app : ∀ (l : List Int) (x : Int), l.foldl (fun x c => x * 256 + c) x = cz_pr (l.reverse) + x * 256 ^ l.length
  | [], x => by simp [cz_pr]
  | c :: l, x => by
    rw [List.foldl_cons, cz_pr_app l, List.reverse_cons, List.length_cons]
    have e : ∀ (r : List Int), cz_pr (r ++ [c]) = cz_pr r + c * 256 ^ r.length := by
      intro r
      induction r with
      | nil => simp [cz_pr]
      | cons d r ih =>
        rw [List.cons_append, cz_pr, cz_pr, ih, List.length_cons, Int.pow_succ, Int.add_mul, Int.mul_assoc]
        omega
    rw [e, List.length_reverse, Int.pow_succ, Int.add_mul, Int.mul_assoc, Int.mul_comm 256]
    omega
theorem cz_pl_pr (l : List Int) : cz_pl l = cz_pr l.reverse := by
  unfold cz_pl
  rw [cz_pr_app, Int.zero_mul, Int.add_zero]
theorem cz_pr_nn : ∀ {l : List Int}, (∀ c ∈ l, 1 ≤ c ∧ c ≤ 255) → 0 ≤ cz_pr l
  | [], _ => Int.le_refl _
  | c :: l, h => by
    have h1 := h c (List.mem_cons_self)
    have h2 := cz_pr_nn (l := l) fun d hd => h d (List.mem_cons_of_mem _ hd)
    rw [cz_pr]; omega
theorem cz_pr_inj : ∀ {l r : List Int}, (∀ c ∈ l, 1 ≤ c ∧ c ≤ 255) → (∀ c ∈ r, 1 ≤ c ∧ c ≤ 255) → cz_pr l = cz_pr r → l = r
  | [], [], _, _, _ => rfl
  | [], d :: r, _, hr, e => by
    have h1 := hr d (List.mem_cons_self)
    have h2 := cz_pr_nn (l := r) fun c hd => hr c (List.mem_cons_of_mem _ hd)
    rw [cz_pr, cz_pr] at e; omega
  | c :: l, [], hl, _, e => by
    have h1 := hl c (List.mem_cons_self)
    have h2 := cz_pr_nn (l := l) fun c hd => hl c (List.mem_cons_of_mem _ hd)
    rw [cz_pr, cz_pr] at e; omega
  | c :: l, d :: r, hl, hr, e => by
    have h1 := hl c (List.mem_cons_self)
    have h2 := hr d (List.mem_cons_self)
    rw [cz_pr, cz_pr] at e
    have e1 : c = d := by omega
    have e2 : cz_pr l = cz_pr r := by omega
    rw [e1, cz_pr_inj (fun c hd => hl c (List.mem_cons_of_mem _ hd)) (fun c hd => hr c (List.mem_cons_of_mem _ hd)) e2]
theorem cz_pl_inj {l r : List Int} (hl : ∀ c ∈ l, 1 ≤ c ∧ c ≤ 255) (hr : ∀ c ∈ r, 1 ≤ c ∧ c ≤ 255) (e : cz_pl l = cz_pl r) : l = r := by
  rw [cz_pl_pr, cz_pl_pr] at e
  have := cz_pr_inj (fun c hc => hl c (List.mem_reverse.mp hc)) (fun c hc => hr c (List.mem_reverse.mp hc)) e
  rw [← List.reverse_reverse l, this, List.reverse_reverse]
theorem cz_pl2 {l r : List Int} (hl : ∀ c ∈ l, 1 ≤ c ∧ c ≤ 255) (hr : ∀ c ∈ r, 1 ≤ c ∧ c ≤ 255) (l1 : l.length ≤ 16) (r1 : r.length ≤ 16) : (cz_pl (l.take 8) = cz_pl (r.take 8) ∧ cz_pl ((l.drop 8).take 8) = cz_pl ((r.drop 8).take 8)) ↔ l = r := by
  constructor
  · intro ⟨e1, e2⟩
    have a1 := cz_pl_inj (fun c hc => hl c (List.mem_of_mem_take hc)) (fun c hc => hr c (List.mem_of_mem_take hc)) e1
    have a2 := cz_pl_inj (fun c hc => hl c (List.mem_of_mem_drop (List.mem_of_mem_take hc))) (fun c hc => hr c (List.mem_of_mem_drop (List.mem_of_mem_take hc))) e2
    rw [List.take_of_length_le (by rw [List.length_drop]; omega), List.take_of_length_le (by rw [List.length_drop]; omega)] at a2
    rw [← List.take_append_drop 8 l, a1, a2, List.take_append_drop]
  · intro e; rw [e]; exact ⟨rfl, rfl⟩
theorem cz_pl_bd : ∀ (L : Nat) (t : Int → Int) (s : Int), (∀ k : Int, 0 ≤ t k ∧ t k ≤ 126) → 0 ≤ cz_pl (cz_W t s L) ∧ 2 * cz_pl (cz_W t s L) < 256 ^ L
  | 0, _, _, _ => ⟨Int.le_refl _, by show 2 * (0 : Int) < 256 ^ 0; decide⟩
  | L + 1, t, s, h => by
    have ih := cz_pl_bd L t s h
    have hc := h (s + (L : Int))
    rw [cz_W_succ, cz_pl_app, Int.pow_succ]
    omega
