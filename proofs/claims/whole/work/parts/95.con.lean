/-! The constructors. A heap as a list of what was done to it, the last first. -/
abbrev bz_Op : Type := Nat × Int × Int × Int
def bz_nx (h : qz_H) (x k n : Int) : qz_H := fun a b => if a = 0 then (if b = 0 then x else if b = 1 then h 0 1 + 1 else h 0 b) else if a = x then (if b = -1 then n else if b = -2 then k else if b = -3 then h 0 1 else 0) else h a b
def bz_ev (g : qz_H) : List bz_Op → qz_H
  | [] => g
  | (0, o, i, v) :: l => qz_up (bz_ev g l) o i v
  | (_ + 1, x, k, n) :: l => bz_nx (bz_ev g l) x k n
theorem bz_eup (g : qz_H) (l : List bz_Op) (o i v : Int) : qz_up (bz_ev g l) o i v = bz_ev g ((0, o, i, v) :: l) := rfl
theorem bz_emk (g : qz_H) (l : List bz_Op) (k n : Int) (f : qz_H → Int → Option qz_R) : qz_mk (bz_ev g l) k n f = f (bz_ev g ((1, bz_ev g l 0 0 + 1, k, n) :: l)) (bz_ev g l 0 0 + 1) := rfl
theorem bz_erd {g : qz_H} {l : List bz_Op} {o i v a b : Int} : bz_ev g ((0, o, i, v) :: l) a b = if a = o ∧ b = i then v else bz_ev g l a b := rfl
theorem bz_ern {g : qz_H} {l : List bz_Op} {x k n a b : Int} : bz_ev g ((1, x, k, n) :: l) a b = if a = 0 then (if b = 0 then x else if b = 1 then bz_ev g l 0 1 + 1 else bz_ev g l 0 b) else if a = x then (if b = -1 then n else if b = -2 then k else if b = -3 then bz_ev g l 0 1 else 0) else bz_ev g l a b := rfl
/-- reading: what the list says, else what was there before -/
def bz_lkp : List bz_Op → Int → Int → Option Int
  | [], _, _ => none
  | (0, o, i, v) :: l, a, b => if a = o ∧ b = i then some v else bz_lkp l a b
  | (_ + 1, x, k, n) :: l, a, b => if a = x then some (if b = -1 then n else if b = -2 then k else 0) else bz_lkp l a b
theorem bz_lk_ok {g : qz_H} : ∀ (l : List bz_Op) (a b : Int), a ≠ 0 → b ≠ -3 → bz_ev g l a b = (bz_lkp l a b).getD (g a b)
  | [], a, b, _, _ => rfl
  | (0, o, i, v) :: l, a, b, ha, hb => by
    rw [bz_erd, bz_lkp]
    by_cases z : a = o ∧ b = i
    · rw [if_pos z, if_pos z]; rfl
    · rw [if_neg z, if_neg z]
      exact bz_lk_ok l a b ha hb
  | (t + 1, x, k, n) :: l, a, b, ha, hb => by
    rw [show bz_ev g ((t + 1, x, k, n) :: l) a b = bz_ev g ((1, x, k, n) :: l) a b from rfl, bz_ern, bz_lkp, if_neg ha]
    by_cases z : a = x
    · rw [if_pos z, if_pos z, if_neg hb]; rfl
    · rw [if_neg z, if_neg z]
      exact bz_lk_ok l a b ha hb
def bz_lk0 : List bz_Op → Int
  | [] => 0
  | (0, o, i, v) :: l => if o = 0 ∧ i = 0 then v else bz_lk0 l
  | (_ + 1, x, _, _) :: _ => x
theorem bz_ev00 {g : qz_H} (hg : g 0 0 = 0) : ∀ l : List bz_Op, bz_ev g l 0 0 = bz_lk0 l
  | [] => hg
  | (0, o, i, v) :: l => by
    rw [bz_erd, bz_lk0]
    by_cases z : o = 0 ∧ i = 0
    · rw [if_pos (show (0 : Int) = o ∧ (0 : Int) = i by omega), if_pos z]
    · rw [if_neg (show ¬ ((0 : Int) = o ∧ (0 : Int) = i) by omega), if_neg z]
      exact bz_ev00 hg l
  | (t + 1, x, k, n) :: l => rfl
theorem bz_kmk {g : qz_H} {l : List bz_Op} {k n c d : Int} {f : qz_H → Int → Option qz_R} {R : Option qz_R} (hc : bz_ev g l 0 0 = c) (hd : c + 1 = d) (h : f (bz_ev g ((1, d, k, n) :: l)) d = R) : qz_mk (bz_ev g l) k n f = R := by
  rw [bz_emk, hc, hd]
  exact h
theorem bz_kbn {g : qz_H} {l : List bz_Op} {o i v : Int} {f : qz_H → Option qz_R} {R : Option qz_R} (h : f (bz_ev g ((0, o, i, v) :: l)) = R) : qz_bn (qz_up (bz_ev g l) o i v) f = R := h
theorem bz_kbm {g : qz_H} {l : List bz_Op} {o i v : Int} {f : qz_H → Option qz_R} {R : Option qz_R} (o' v' : Int) (ho : o = o') (hv : v = v') (h : f (bz_ev g ((0, o', i, v') :: l)) = R) : qz_bn (qz_up (bz_ev g l) o i v) f = R := by
  subst ho; subst hv
  exact h
theorem bz_kck {c : Prop} [Decidable c] {t R : Option qz_R} (hc : c) (h : t = R) : qz_ck c t = R := (bz_ck hc).trans h
theorem bz_kbc {e : Option qz_R} {r : Int} {h' : qz_H} {f : Int → qz_H → Option qz_R} {R : Option qz_R} (he : e = some (r, h')) (h : f r h' = R) : qz_bc e f = R := by
  rw [he]
  exact h
section CON
variable {g : qz_H} {l : List bz_Op}
theorem bz_iText {t c d : Int} (ht : 0 < t) (hc : bz_ev g l 0 0 = c) (hd : c + 1 = d) : fn_Text_init t (bz_ev g l) = some (0, bz_ev g ((0, t, 0, d) :: (1, d, 42, 320) :: l)) := by
  unfold fn_Text_init
  exact bz_kmk hc hd (bz_kck ht rfl)
theorem bz_iFun {t c d : Int} (ht : 0 < t) (hc : bz_ev g l 0 0 = c) (hd : c + 1 = d) : fn_Function_init t (bz_ev g l) = some (0, bz_ev g ((0, t, 0, d) :: (1, d, 40, 8) :: l)) := by
  unfold fn_Function_init
  exact bz_kmk hc hd (bz_kck ht rfl)
theorem bz_iLev (t : Int) (ht : 0 < t) : fn_Level_init t (bz_ev g l) = some (0, bz_ev g ((0, t, 3, -2) :: l)) := by
  unfold fn_Level_init
  rw [bz_ck ht]
  rfl
theorem bz_iScn (t x : Int) (ht : 0 < t) : fn_Scanner_init t x (bz_ev g l) = some (0, bz_ev g ((0, t, 0, x) :: l)) := by
  unfold fn_Scanner_init
  rw [bz_ck ht]
  rfl
/-- the row of nops -/
def bz_nops (o : Int) : Nat → Int → List bz_Op → List bz_Op
  | 0, _, l => l
  | m + 1, i, l => bz_nops o m (i + 1) ((0, o, i, -2) :: l)
theorem bz_i57 {M o : Int} (hMo : M ≠ o) (ho : 0 < o) : ∀ (m n : Nat) (i : Int) (l : List bz_Op), (m : Int) + i = 64 → 0 ≤ i → bz_ev g l M 1 = o → bz_ev g l o (-1) = 64 → fn_Module_init_57 (n + m + 1) M i (bz_ev g l) = some (0, bz_ev g (bz_nops o m i l)) := by
  intro m
  induction m with
  | zero =>
    intro n i l hm i0 h1 h2
    rw [fn_Module_init_57, bz_nops]
    unfold fn_Module_init_57_b
    rw [if_pos (by omega)]
  | succ m ih =>
    intro n i l hm i0 h1 h2
    rw [show n + (m + 1) + 1 = (n + m + 1) + 1 from by omega, fn_Module_init_57, bz_nops]
    unfold fn_Module_init_57_b
    rw [if_neg (by omega), h1, h2, bz_ck (by omega), bz_ck (by omega), bz_bn, bz_bn, bz_w (by omega) (by omega), bz_eup]
    refine ih n (i + 1) _ (by omega) (by omega) ?_ ?_
    · rw [bz_erd, if_neg (by omega)]; exact h1
    · rw [bz_erd, if_neg (by omega)]; exact h2

theorem bz_iMod6a (hc : bz_ev g l 0 0 = 6) : fn_Module_init 6 (bz_ev g l) = fn_Module_init_57 qz_NF 6 0 (bz_ev g ((0, 7, 3, 16) :: (0, 16, 0, 17) :: (1, 17, 40, 8) :: (1, 16, 4, 0) :: (0, 7, 2, 14) :: (0, 14, 0, 15) :: (1, 15, 40, 8) :: (1, 14, 4, 0) :: (0, 7, 1, 12) :: (0, 12, 0, 13) :: (1, 13, 40, 8) :: (1, 12, 4, 0) :: (0, 7, 0, 10) :: (0, 10, 0, 11) :: (1, 11, 40, 8) :: (1, 10, 4, 0) :: (0, 6, 2, 9) :: (1, 9, 41, 64) :: (0, 6, 1, 8) :: (1, 8, 46, 64) :: (0, 6, 0, 7) :: (1, 7, 45, 4) :: l)) := by
  unfold fn_Module_init
  refine bz_kmk (c := 6) (d := 7) (by simp [bz_erd, bz_ern, hc]) rfl ?_
  refine bz_kck (by simp [bz_erd, bz_ern, hc]) ?_
  refine bz_kbn ?_
  refine bz_kmk (c := 7) (d := 8) (by simp [bz_erd, bz_ern, hc]) rfl ?_
  refine bz_kck (by simp [bz_erd, bz_ern, hc]) ?_
  refine bz_kbn ?_
  refine bz_kmk (c := 8) (d := 9) (by simp [bz_erd, bz_ern, hc]) rfl ?_
  refine bz_kck (by simp [bz_erd, bz_ern, hc]) ?_
  refine bz_kbn ?_
  refine bz_kmk (c := 9) (d := 10) (by simp [bz_erd, bz_ern, hc]) rfl ?_
  refine bz_kbc (bz_iFun (c := 10) (d := 11) (by omega) (by simp [bz_erd, bz_ern, hc]) rfl) ?_
  refine bz_kck (by simp [bz_erd, bz_ern, hc]) ?_
  refine bz_kck (by simp [bz_erd, bz_ern, hc]) ?_
  refine bz_kbm 7 10 (by first | rfl | simp [bz_erd, bz_ern, hc]) (by first | rfl | simp [bz_erd, bz_ern, hc]) ?_
  refine bz_kmk (c := 11) (d := 12) (by simp [bz_erd, bz_ern, hc]) rfl ?_
  refine bz_kbc (bz_iFun (c := 12) (d := 13) (by omega) (by simp [bz_erd, bz_ern, hc]) rfl) ?_
  refine bz_kck (by simp [bz_erd, bz_ern, hc]) ?_
  refine bz_kck (by simp [bz_erd, bz_ern, hc]) ?_
  refine bz_kbm 7 12 (by first | rfl | simp [bz_erd, bz_ern, hc]) (by first | rfl | simp [bz_erd, bz_ern, hc]) ?_
  refine bz_kmk (c := 13) (d := 14) (by simp [bz_erd, bz_ern, hc]) rfl ?_
  refine bz_kbc (bz_iFun (c := 14) (d := 15) (by omega) (by simp [bz_erd, bz_ern, hc]) rfl) ?_
  refine bz_kck (by simp [bz_erd, bz_ern, hc]) ?_
  refine bz_kck (by simp [bz_erd, bz_ern, hc]) ?_
  refine bz_kbm 7 14 (by first | rfl | simp [bz_erd, bz_ern, hc]) (by first | rfl | simp [bz_erd, bz_ern, hc]) ?_
  refine bz_kmk (c := 15) (d := 16) (by simp [bz_erd, bz_ern, hc]) rfl ?_
  refine bz_kbc (bz_iFun (c := 16) (d := 17) (by omega) (by simp [bz_erd, bz_ern, hc]) rfl) ?_
  refine bz_kck (by simp [bz_erd, bz_ern, hc]) ?_
  refine bz_kck (by simp [bz_erd, bz_ern, hc]) ?_
  refine bz_kbm 7 16 (by first | rfl | simp [bz_erd, bz_ern, hc]) (by first | rfl | simp [bz_erd, bz_ern, hc]) ?_
  simp [bz_erd, bz_ern, hc]
theorem bz_iMod18a (hc : bz_ev g l 0 0 = 18) : fn_Module_init 18 (bz_ev g l) = fn_Module_init_57 qz_NF 18 0 (bz_ev g ((0, 19, 3, 28) :: (0, 28, 0, 29) :: (1, 29, 40, 8) :: (1, 28, 4, 0) :: (0, 19, 2, 26) :: (0, 26, 0, 27) :: (1, 27, 40, 8) :: (1, 26, 4, 0) :: (0, 19, 1, 24) :: (0, 24, 0, 25) :: (1, 25, 40, 8) :: (1, 24, 4, 0) :: (0, 19, 0, 22) :: (0, 22, 0, 23) :: (1, 23, 40, 8) :: (1, 22, 4, 0) :: (0, 18, 2, 21) :: (1, 21, 41, 64) :: (0, 18, 1, 20) :: (1, 20, 46, 64) :: (0, 18, 0, 19) :: (1, 19, 45, 4) :: l)) := by
  unfold fn_Module_init
  refine bz_kmk (c := 18) (d := 19) (by simp [bz_erd, bz_ern, hc]) rfl ?_
  refine bz_kck (by simp [bz_erd, bz_ern, hc]) ?_
  refine bz_kbn ?_
  refine bz_kmk (c := 19) (d := 20) (by simp [bz_erd, bz_ern, hc]) rfl ?_
  refine bz_kck (by simp [bz_erd, bz_ern, hc]) ?_
  refine bz_kbn ?_
  refine bz_kmk (c := 20) (d := 21) (by simp [bz_erd, bz_ern, hc]) rfl ?_
  refine bz_kck (by simp [bz_erd, bz_ern, hc]) ?_
  refine bz_kbn ?_
  refine bz_kmk (c := 21) (d := 22) (by simp [bz_erd, bz_ern, hc]) rfl ?_
  refine bz_kbc (bz_iFun (c := 22) (d := 23) (by omega) (by simp [bz_erd, bz_ern, hc]) rfl) ?_
  refine bz_kck (by simp [bz_erd, bz_ern, hc]) ?_
  refine bz_kck (by simp [bz_erd, bz_ern, hc]) ?_
  refine bz_kbm 19 22 (by first | rfl | simp [bz_erd, bz_ern, hc]) (by first | rfl | simp [bz_erd, bz_ern, hc]) ?_
  refine bz_kmk (c := 23) (d := 24) (by simp [bz_erd, bz_ern, hc]) rfl ?_
  refine bz_kbc (bz_iFun (c := 24) (d := 25) (by omega) (by simp [bz_erd, bz_ern, hc]) rfl) ?_
  refine bz_kck (by simp [bz_erd, bz_ern, hc]) ?_
  refine bz_kck (by simp [bz_erd, bz_ern, hc]) ?_
  refine bz_kbm 19 24 (by first | rfl | simp [bz_erd, bz_ern, hc]) (by first | rfl | simp [bz_erd, bz_ern, hc]) ?_
  refine bz_kmk (c := 25) (d := 26) (by simp [bz_erd, bz_ern, hc]) rfl ?_
  refine bz_kbc (bz_iFun (c := 26) (d := 27) (by omega) (by simp [bz_erd, bz_ern, hc]) rfl) ?_
  refine bz_kck (by simp [bz_erd, bz_ern, hc]) ?_
  refine bz_kck (by simp [bz_erd, bz_ern, hc]) ?_
  refine bz_kbm 19 26 (by first | rfl | simp [bz_erd, bz_ern, hc]) (by first | rfl | simp [bz_erd, bz_ern, hc]) ?_
  refine bz_kmk (c := 27) (d := 28) (by simp [bz_erd, bz_ern, hc]) rfl ?_
  refine bz_kbc (bz_iFun (c := 28) (d := 29) (by omega) (by simp [bz_erd, bz_ern, hc]) rfl) ?_
  refine bz_kck (by simp [bz_erd, bz_ern, hc]) ?_
  refine bz_kck (by simp [bz_erd, bz_ern, hc]) ?_
  refine bz_kbm 19 28 (by first | rfl | simp [bz_erd, bz_ern, hc]) (by first | rfl | simp [bz_erd, bz_ern, hc]) ?_
  simp [bz_erd, bz_ern, hc]
theorem bz_iMod6 (hc : bz_ev g l 0 0 = 6) : fn_Module_init 6 (bz_ev g l) = some (0, bz_ev g (bz_nops 8 64 0 ((0, 7, 3, 16) :: (0, 16, 0, 17) :: (1, 17, 40, 8) :: (1, 16, 4, 0) :: (0, 7, 2, 14) :: (0, 14, 0, 15) :: (1, 15, 40, 8) :: (1, 14, 4, 0) :: (0, 7, 1, 12) :: (0, 12, 0, 13) :: (1, 13, 40, 8) :: (1, 12, 4, 0) :: (0, 7, 0, 10) :: (0, 10, 0, 11) :: (1, 11, 40, 8) :: (1, 10, 4, 0) :: (0, 6, 2, 9) :: (1, 9, 41, 64) :: (0, 6, 1, 8) :: (1, 8, 46, 64) :: (0, 6, 0, 7) :: (1, 7, 45, 4) :: l))) := by
  rw [bz_iMod6a hc]
  exact bz_i57 (g := g) (M := 6) (o := 8) (by omega) (by omega) 64 3935 0 _ rfl (by omega) (by simp [bz_erd, bz_ern]) (by simp [bz_erd, bz_ern])
theorem bz_iMod18 (hc : bz_ev g l 0 0 = 18) : fn_Module_init 18 (bz_ev g l) = some (0, bz_ev g (bz_nops 20 64 0 ((0, 19, 3, 28) :: (0, 28, 0, 29) :: (1, 29, 40, 8) :: (1, 28, 4, 0) :: (0, 19, 2, 26) :: (0, 26, 0, 27) :: (1, 27, 40, 8) :: (1, 26, 4, 0) :: (0, 19, 1, 24) :: (0, 24, 0, 25) :: (1, 25, 40, 8) :: (1, 24, 4, 0) :: (0, 19, 0, 22) :: (0, 22, 0, 23) :: (1, 23, 40, 8) :: (1, 22, 4, 0) :: (0, 18, 2, 21) :: (1, 21, 41, 64) :: (0, 18, 1, 20) :: (1, 20, 46, 64) :: (0, 18, 0, 19) :: (1, 19, 45, 4) :: l))) := by
  rw [bz_iMod18a hc]
  exact bz_i57 (g := g) (M := 18) (o := 20) (by omega) (by omega) 64 3935 0 _ rfl (by omega) (by simp [bz_erd, bz_ern]) (by simp [bz_erd, bz_ern])
theorem bz_iRdr (hc : bz_ev g l 0 0 = 30) : fn_Reader_init 30 2 18 (bz_ev g l) = some (0, bz_ev g ((0, 31, 12, 47) :: (0, 47, 3, (-2)) :: (1, 47, 5, 0) :: (0, 31, 11, 46) :: (0, 46, 3, (-2)) :: (1, 46, 5, 0) :: (0, 31, 10, 45) :: (0, 45, 3, (-2)) :: (1, 45, 5, 0) :: (0, 31, 9, 44) :: (0, 44, 3, (-2)) :: (1, 44, 5, 0) :: (0, 31, 8, 43) :: (0, 43, 3, (-2)) :: (1, 43, 5, 0) :: (0, 31, 7, 42) :: (0, 42, 3, (-2)) :: (1, 42, 5, 0) :: (0, 31, 6, 41) :: (0, 41, 3, (-2)) :: (1, 41, 5, 0) :: (0, 31, 5, 40) :: (0, 40, 3, (-2)) :: (1, 40, 5, 0) :: (0, 31, 4, 39) :: (0, 39, 3, (-2)) :: (1, 39, 5, 0) :: (0, 31, 3, 38) :: (0, 38, 3, (-2)) :: (1, 38, 5, 0) :: (0, 31, 2, 37) :: (0, 37, 3, (-2)) :: (1, 37, 5, 0) :: (0, 31, 1, 36) :: (0, 36, 3, (-2)) :: (1, 36, 5, 0) :: (0, 31, 0, 35) :: (0, 35, 3, (-2)) :: (1, 35, 5, 0) :: (0, 30, 0, 34) :: (0, 34, 0, 2) :: (1, 34, 10, 0) :: (0, 30, 4, 18) :: (0, 30, 3, 33) :: (1, 33, 40, 8) :: (0, 30, 2, 32) :: (1, 32, 40, 4) :: (0, 30, 1, 31) :: (1, 31, 47, 13) :: l)) := by
  unfold fn_Reader_init
  refine bz_kmk (c := 30) (d := 31) (by simp [bz_erd, bz_ern, hc]) rfl ?_
  refine bz_kck (by simp [bz_erd, bz_ern, hc]) ?_
  refine bz_kbn ?_
  refine bz_kmk (c := 31) (d := 32) (by simp [bz_erd, bz_ern, hc]) rfl ?_
  refine bz_kck (by simp [bz_erd, bz_ern, hc]) ?_
  refine bz_kbn ?_
  refine bz_kmk (c := 32) (d := 33) (by simp [bz_erd, bz_ern, hc]) rfl ?_
  refine bz_kck (by simp [bz_erd, bz_ern, hc]) ?_
  refine bz_kbn ?_
  refine bz_kck (by simp [bz_erd, bz_ern, hc]) ?_
  refine bz_kbn ?_
  refine bz_kmk (c := 33) (d := 34) (by simp [bz_erd, bz_ern, hc]) rfl ?_
  refine bz_kbc (bz_iScn _ _ (by omega)) ?_
  refine bz_kck (by simp [bz_erd, bz_ern, hc]) ?_
  refine bz_kbn ?_
  refine bz_kmk (c := 34) (d := 35) (by simp [bz_erd, bz_ern, hc]) rfl ?_
  refine bz_kbc (bz_iLev _ (by omega)) ?_
  refine bz_kck (by simp [bz_erd, bz_ern, hc]) ?_
  refine bz_kck (by simp [bz_erd, bz_ern, hc]) ?_
  refine bz_kbm 31 35 (by first | rfl | simp [bz_erd, bz_ern, hc]) (by first | rfl | simp [bz_erd, bz_ern, hc]) ?_
  refine bz_kmk (c := 35) (d := 36) (by simp [bz_erd, bz_ern, hc]) rfl ?_
  refine bz_kbc (bz_iLev _ (by omega)) ?_
  refine bz_kck (by simp [bz_erd, bz_ern, hc]) ?_
  refine bz_kck (by simp [bz_erd, bz_ern, hc]) ?_
  refine bz_kbm 31 36 (by first | rfl | simp [bz_erd, bz_ern, hc]) (by first | rfl | simp [bz_erd, bz_ern, hc]) ?_
  refine bz_kmk (c := 36) (d := 37) (by simp [bz_erd, bz_ern, hc]) rfl ?_
  refine bz_kbc (bz_iLev _ (by omega)) ?_
  refine bz_kck (by simp [bz_erd, bz_ern, hc]) ?_
  refine bz_kck (by simp [bz_erd, bz_ern, hc]) ?_
  refine bz_kbm 31 37 (by first | rfl | simp [bz_erd, bz_ern, hc]) (by first | rfl | simp [bz_erd, bz_ern, hc]) ?_
  refine bz_kmk (c := 37) (d := 38) (by simp [bz_erd, bz_ern, hc]) rfl ?_
  refine bz_kbc (bz_iLev _ (by omega)) ?_
  refine bz_kck (by simp [bz_erd, bz_ern, hc]) ?_
  refine bz_kck (by simp [bz_erd, bz_ern, hc]) ?_
  refine bz_kbm 31 38 (by first | rfl | simp [bz_erd, bz_ern, hc]) (by first | rfl | simp [bz_erd, bz_ern, hc]) ?_
  refine bz_kmk (c := 38) (d := 39) (by simp [bz_erd, bz_ern, hc]) rfl ?_
  refine bz_kbc (bz_iLev _ (by omega)) ?_
  refine bz_kck (by simp [bz_erd, bz_ern, hc]) ?_
  refine bz_kck (by simp [bz_erd, bz_ern, hc]) ?_
  refine bz_kbm 31 39 (by first | rfl | simp [bz_erd, bz_ern, hc]) (by first | rfl | simp [bz_erd, bz_ern, hc]) ?_
  refine bz_kmk (c := 39) (d := 40) (by simp [bz_erd, bz_ern, hc]) rfl ?_
  refine bz_kbc (bz_iLev _ (by omega)) ?_
  refine bz_kck (by simp [bz_erd, bz_ern, hc]) ?_
  refine bz_kck (by simp [bz_erd, bz_ern, hc]) ?_
  refine bz_kbm 31 40 (by first | rfl | simp [bz_erd, bz_ern, hc]) (by first | rfl | simp [bz_erd, bz_ern, hc]) ?_
  refine bz_kmk (c := 40) (d := 41) (by simp [bz_erd, bz_ern, hc]) rfl ?_
  refine bz_kbc (bz_iLev _ (by omega)) ?_
  refine bz_kck (by simp [bz_erd, bz_ern, hc]) ?_
  refine bz_kck (by simp [bz_erd, bz_ern, hc]) ?_
  refine bz_kbm 31 41 (by first | rfl | simp [bz_erd, bz_ern, hc]) (by first | rfl | simp [bz_erd, bz_ern, hc]) ?_
  refine bz_kmk (c := 41) (d := 42) (by simp [bz_erd, bz_ern, hc]) rfl ?_
  refine bz_kbc (bz_iLev _ (by omega)) ?_
  refine bz_kck (by simp [bz_erd, bz_ern, hc]) ?_
  refine bz_kck (by simp [bz_erd, bz_ern, hc]) ?_
  refine bz_kbm 31 42 (by first | rfl | simp [bz_erd, bz_ern, hc]) (by first | rfl | simp [bz_erd, bz_ern, hc]) ?_
  refine bz_kmk (c := 42) (d := 43) (by simp [bz_erd, bz_ern, hc]) rfl ?_
  refine bz_kbc (bz_iLev _ (by omega)) ?_
  refine bz_kck (by simp [bz_erd, bz_ern, hc]) ?_
  refine bz_kck (by simp [bz_erd, bz_ern, hc]) ?_
  refine bz_kbm 31 43 (by first | rfl | simp [bz_erd, bz_ern, hc]) (by first | rfl | simp [bz_erd, bz_ern, hc]) ?_
  refine bz_kmk (c := 43) (d := 44) (by simp [bz_erd, bz_ern, hc]) rfl ?_
  refine bz_kbc (bz_iLev _ (by omega)) ?_
  refine bz_kck (by simp [bz_erd, bz_ern, hc]) ?_
  refine bz_kck (by simp [bz_erd, bz_ern, hc]) ?_
  refine bz_kbm 31 44 (by first | rfl | simp [bz_erd, bz_ern, hc]) (by first | rfl | simp [bz_erd, bz_ern, hc]) ?_
  refine bz_kmk (c := 44) (d := 45) (by simp [bz_erd, bz_ern, hc]) rfl ?_
  refine bz_kbc (bz_iLev _ (by omega)) ?_
  refine bz_kck (by simp [bz_erd, bz_ern, hc]) ?_
  refine bz_kck (by simp [bz_erd, bz_ern, hc]) ?_
  refine bz_kbm 31 45 (by first | rfl | simp [bz_erd, bz_ern, hc]) (by first | rfl | simp [bz_erd, bz_ern, hc]) ?_
  refine bz_kmk (c := 45) (d := 46) (by simp [bz_erd, bz_ern, hc]) rfl ?_
  refine bz_kbc (bz_iLev _ (by omega)) ?_
  refine bz_kck (by simp [bz_erd, bz_ern, hc]) ?_
  refine bz_kck (by simp [bz_erd, bz_ern, hc]) ?_
  refine bz_kbm 31 46 (by first | rfl | simp [bz_erd, bz_ern, hc]) (by first | rfl | simp [bz_erd, bz_ern, hc]) ?_
  refine bz_kmk (c := 46) (d := 47) (by simp [bz_erd, bz_ern, hc]) rfl ?_
  refine bz_kbc (bz_iLev _ (by omega)) ?_
  refine bz_kck (by simp [bz_erd, bz_ern, hc]) ?_
  refine bz_kck (by simp [bz_erd, bz_ern, hc]) ?_
  refine bz_kbm 31 47 (by first | rfl | simp [bz_erd, bz_ern, hc]) (by first | rfl | simp [bz_erd, bz_ern, hc]) ?_
  rfl
theorem bz_iLat (h1 : bz_ev g l 18 0 = 19) (h2 : bz_ev g l 18 3 = 0) (h3 : bz_ev g l 19 (-1) = 4) (h4 : bz_ev g l 19 0 = 22) : fn_Module_latest 18 (bz_ev g l) = some (22, bz_ev g l) := by
  have e : qz_max 0 (qz_w (qz_min 0 4 - 1)) = 0 := by decide +kernel
  unfold fn_Module_latest
  rw [h1, h2, e, h3, h4, bz_ck (by omega), bz_ck (by omega)]
theorem bz_iChk (hc : bz_ev g l 0 0 = 48) (h1 : bz_ev g l 18 0 = 19) (h2 : bz_ev g l 18 3 = 0) (h3 : bz_ev g l 19 (-1) = 4) (h4 : bz_ev g l 19 0 = 22) : fn_Checker_init 48 18 (bz_ev g l) = some (0, bz_ev g ((0, 50, 11, 62) :: (1, 62, 3, 0) :: (0, 50, 10, 61) :: (1, 61, 3, 0) :: (0, 50, 9, 60) :: (1, 60, 3, 0) :: (0, 50, 8, 59) :: (1, 59, 3, 0) :: (0, 50, 7, 58) :: (1, 58, 3, 0) :: (0, 50, 6, 57) :: (1, 57, 3, 0) :: (0, 50, 5, 56) :: (1, 56, 3, 0) :: (0, 50, 4, 55) :: (1, 55, 3, 0) :: (0, 50, 3, 54) :: (1, 54, 3, 0) :: (0, 50, 2, 53) :: (1, 53, 3, 0) :: (0, 50, 1, 52) :: (1, 52, 3, 0) :: (0, 50, 0, 51) :: (1, 51, 3, 0) :: (0, 48, 3, 22) :: (0, 48, 2, 18) :: (0, 48, 1, 50) :: (1, 50, 48, 12) :: (0, 48, 0, 49) :: (1, 49, 40, 64) :: l)) := by
  unfold fn_Checker_init
  refine bz_kmk (c := 48) (d := 49) (by simp [bz_erd, bz_ern, hc, h1, h2, h3, h4]) rfl ?_
  refine bz_kck (by simp [bz_erd, bz_ern, hc, h1, h2, h3, h4]) ?_
  refine bz_kbn ?_
  refine bz_kmk (c := 49) (d := 50) (by simp [bz_erd, bz_ern, hc, h1, h2, h3, h4]) rfl ?_
  refine bz_kck (by simp [bz_erd, bz_ern, hc, h1, h2, h3, h4]) ?_
  refine bz_kbn ?_
  refine bz_kck (by simp [bz_erd, bz_ern, hc, h1, h2, h3, h4]) ?_
  refine bz_kbn ?_
  refine bz_kck (by simp [bz_erd, bz_ern, hc, h1, h2, h3, h4]) ?_
  refine bz_kbc (bz_iLat (by simp [bz_erd, bz_ern, hc, h1, h2, h3, h4]) (by simp [bz_erd, bz_ern, hc, h1, h2, h3, h4]) (by simp [bz_erd, bz_ern, hc, h1, h2, h3, h4]) (by simp [bz_erd, bz_ern, hc, h1, h2, h3, h4])) ?_
  refine bz_kck (by simp [bz_erd, bz_ern, hc, h1, h2, h3, h4]) ?_
  refine bz_kbn ?_
  refine bz_kmk (c := 50) (d := 51) (by simp [bz_erd, bz_ern, hc, h1, h2, h3, h4]) rfl ?_
  refine bz_kbc (show fn_Frame_init _ _ = some (0, _) from rfl) ?_
  refine bz_kck (by simp [bz_erd, bz_ern, hc, h1, h2, h3, h4]) ?_
  refine bz_kck (by simp [bz_erd, bz_ern, hc, h1, h2, h3, h4]) ?_
  refine bz_kbm 50 51 (by first | rfl | simp [bz_erd, bz_ern, hc, h1, h2, h3, h4]) (by first | rfl | simp [bz_erd, bz_ern, hc, h1, h2, h3, h4]) ?_
  refine bz_kmk (c := 51) (d := 52) (by simp [bz_erd, bz_ern, hc, h1, h2, h3, h4]) rfl ?_
  refine bz_kbc (show fn_Frame_init _ _ = some (0, _) from rfl) ?_
  refine bz_kck (by simp [bz_erd, bz_ern, hc, h1, h2, h3, h4]) ?_
  refine bz_kck (by simp [bz_erd, bz_ern, hc, h1, h2, h3, h4]) ?_
  refine bz_kbm 50 52 (by first | rfl | simp [bz_erd, bz_ern, hc, h1, h2, h3, h4]) (by first | rfl | simp [bz_erd, bz_ern, hc, h1, h2, h3, h4]) ?_
  refine bz_kmk (c := 52) (d := 53) (by simp [bz_erd, bz_ern, hc, h1, h2, h3, h4]) rfl ?_
  refine bz_kbc (show fn_Frame_init _ _ = some (0, _) from rfl) ?_
  refine bz_kck (by simp [bz_erd, bz_ern, hc, h1, h2, h3, h4]) ?_
  refine bz_kck (by simp [bz_erd, bz_ern, hc, h1, h2, h3, h4]) ?_
  refine bz_kbm 50 53 (by first | rfl | simp [bz_erd, bz_ern, hc, h1, h2, h3, h4]) (by first | rfl | simp [bz_erd, bz_ern, hc, h1, h2, h3, h4]) ?_
  refine bz_kmk (c := 53) (d := 54) (by simp [bz_erd, bz_ern, hc, h1, h2, h3, h4]) rfl ?_
  refine bz_kbc (show fn_Frame_init _ _ = some (0, _) from rfl) ?_
  refine bz_kck (by simp [bz_erd, bz_ern, hc, h1, h2, h3, h4]) ?_
  refine bz_kck (by simp [bz_erd, bz_ern, hc, h1, h2, h3, h4]) ?_
  refine bz_kbm 50 54 (by first | rfl | simp [bz_erd, bz_ern, hc, h1, h2, h3, h4]) (by first | rfl | simp [bz_erd, bz_ern, hc, h1, h2, h3, h4]) ?_
  refine bz_kmk (c := 54) (d := 55) (by simp [bz_erd, bz_ern, hc, h1, h2, h3, h4]) rfl ?_
  refine bz_kbc (show fn_Frame_init _ _ = some (0, _) from rfl) ?_
  refine bz_kck (by simp [bz_erd, bz_ern, hc, h1, h2, h3, h4]) ?_
  refine bz_kck (by simp [bz_erd, bz_ern, hc, h1, h2, h3, h4]) ?_
  refine bz_kbm 50 55 (by first | rfl | simp [bz_erd, bz_ern, hc, h1, h2, h3, h4]) (by first | rfl | simp [bz_erd, bz_ern, hc, h1, h2, h3, h4]) ?_
  refine bz_kmk (c := 55) (d := 56) (by simp [bz_erd, bz_ern, hc, h1, h2, h3, h4]) rfl ?_
  refine bz_kbc (show fn_Frame_init _ _ = some (0, _) from rfl) ?_
  refine bz_kck (by simp [bz_erd, bz_ern, hc, h1, h2, h3, h4]) ?_
  refine bz_kck (by simp [bz_erd, bz_ern, hc, h1, h2, h3, h4]) ?_
  refine bz_kbm 50 56 (by first | rfl | simp [bz_erd, bz_ern, hc, h1, h2, h3, h4]) (by first | rfl | simp [bz_erd, bz_ern, hc, h1, h2, h3, h4]) ?_
  refine bz_kmk (c := 56) (d := 57) (by simp [bz_erd, bz_ern, hc, h1, h2, h3, h4]) rfl ?_
  refine bz_kbc (show fn_Frame_init _ _ = some (0, _) from rfl) ?_
  refine bz_kck (by simp [bz_erd, bz_ern, hc, h1, h2, h3, h4]) ?_
  refine bz_kck (by simp [bz_erd, bz_ern, hc, h1, h2, h3, h4]) ?_
  refine bz_kbm 50 57 (by first | rfl | simp [bz_erd, bz_ern, hc, h1, h2, h3, h4]) (by first | rfl | simp [bz_erd, bz_ern, hc, h1, h2, h3, h4]) ?_
  refine bz_kmk (c := 57) (d := 58) (by simp [bz_erd, bz_ern, hc, h1, h2, h3, h4]) rfl ?_
  refine bz_kbc (show fn_Frame_init _ _ = some (0, _) from rfl) ?_
  refine bz_kck (by simp [bz_erd, bz_ern, hc, h1, h2, h3, h4]) ?_
  refine bz_kck (by simp [bz_erd, bz_ern, hc, h1, h2, h3, h4]) ?_
  refine bz_kbm 50 58 (by first | rfl | simp [bz_erd, bz_ern, hc, h1, h2, h3, h4]) (by first | rfl | simp [bz_erd, bz_ern, hc, h1, h2, h3, h4]) ?_
  refine bz_kmk (c := 58) (d := 59) (by simp [bz_erd, bz_ern, hc, h1, h2, h3, h4]) rfl ?_
  refine bz_kbc (show fn_Frame_init _ _ = some (0, _) from rfl) ?_
  refine bz_kck (by simp [bz_erd, bz_ern, hc, h1, h2, h3, h4]) ?_
  refine bz_kck (by simp [bz_erd, bz_ern, hc, h1, h2, h3, h4]) ?_
  refine bz_kbm 50 59 (by first | rfl | simp [bz_erd, bz_ern, hc, h1, h2, h3, h4]) (by first | rfl | simp [bz_erd, bz_ern, hc, h1, h2, h3, h4]) ?_
  refine bz_kmk (c := 59) (d := 60) (by simp [bz_erd, bz_ern, hc, h1, h2, h3, h4]) rfl ?_
  refine bz_kbc (show fn_Frame_init _ _ = some (0, _) from rfl) ?_
  refine bz_kck (by simp [bz_erd, bz_ern, hc, h1, h2, h3, h4]) ?_
  refine bz_kck (by simp [bz_erd, bz_ern, hc, h1, h2, h3, h4]) ?_
  refine bz_kbm 50 60 (by first | rfl | simp [bz_erd, bz_ern, hc, h1, h2, h3, h4]) (by first | rfl | simp [bz_erd, bz_ern, hc, h1, h2, h3, h4]) ?_
  refine bz_kmk (c := 60) (d := 61) (by simp [bz_erd, bz_ern, hc, h1, h2, h3, h4]) rfl ?_
  refine bz_kbc (show fn_Frame_init _ _ = some (0, _) from rfl) ?_
  refine bz_kck (by simp [bz_erd, bz_ern, hc, h1, h2, h3, h4]) ?_
  refine bz_kck (by simp [bz_erd, bz_ern, hc, h1, h2, h3, h4]) ?_
  refine bz_kbm 50 61 (by first | rfl | simp [bz_erd, bz_ern, hc, h1, h2, h3, h4]) (by first | rfl | simp [bz_erd, bz_ern, hc, h1, h2, h3, h4]) ?_
  refine bz_kmk (c := 61) (d := 62) (by simp [bz_erd, bz_ern, hc, h1, h2, h3, h4]) rfl ?_
  refine bz_kbc (show fn_Frame_init _ _ = some (0, _) from rfl) ?_
  refine bz_kck (by simp [bz_erd, bz_ern, hc, h1, h2, h3, h4]) ?_
  refine bz_kck (by simp [bz_erd, bz_ern, hc, h1, h2, h3, h4]) ?_
  refine bz_kbm 50 62 (by first | rfl | simp [bz_erd, bz_ern, hc, h1, h2, h3, h4]) (by first | rfl | simp [bz_erd, bz_ern, hc, h1, h2, h3, h4]) ?_
  rfl
theorem bz_iEnc (hc : bz_ev g l 0 0 = 63) : fn_Encoder_init 63 (bz_ev g l) = some (0, bz_ev g ((0, 63, 1, 65) :: (1, 65, 40, 4) :: (0, 63, 0, 64) :: (1, 64, 43, 1024) :: l)) := by
  unfold fn_Encoder_init
  refine bz_kmk (c := 63) (d := 64) (by simp [bz_erd, bz_ern, hc]) rfl ?_
  refine bz_kck (by simp [bz_erd, bz_ern, hc]) ?_
  refine bz_kbn ?_
  refine bz_kmk (c := 64) (d := 65) (by simp [bz_erd, bz_ern, hc]) rfl ?_
  refine bz_kck (by simp [bz_erd, bz_ern, hc]) ?_
  refine bz_kbn ?_
  rfl
theorem bz_iPrn : fn_Printer_init 66 4 (bz_ev g l) = some (0, bz_ev g ((0, 66, 0, 4) :: l)) := by
  unfold fn_Printer_init
  refine bz_kck (by omega) ?_
  rfl
theorem bz_i_fn_Md_init (hc : bz_ev g l 0 0 = 67) : fn_Md_init 67 (bz_ev g l) = fn_Md_init_216 67 (bz_ev g ((0, 67, 0, 68) :: (0, 68, 29, 7581304396600341605) :: (0, 68, 28, 7580457772948545904) :: (0, 68, 27, 29614470299743596) :: (0, 68, 26, 29614470298952804) :: (0, 68, 25, 115681524606321) :: (0, 68, 24, 29614470299218298) :: (0, 68, 23, 29611163174925676) :: (0, 68, 22, 29611163175318882) :: (0, 68, 21, 29611163174134884) :: (0, 68, 20, 7580457772764127091) :: (0, 68, 19, 115668606150001) :: (0, 68, 18, 29611163174400378) :: (0, 68, 17, 7581304396566195827) :: (0, 68, 16, 7580457772612808307) :: (0, 68, 15, 7813573148589061221) :: (0, 68, 14, 7813573148589060965) :: (0, 68, 13, 7813573148589057893) :: (0, 68, 12, 126879447475060) :: (0, 68, 11, 1685221232) :: (0, 68, 10, 1667329132) :: (0, 68, 9, 125780071117422) :: (0, 68, 8, 422825650534) :: (0, 68, 7, 25202) :: (0, 68, 6, 6647396) :: (0, 68, 5, 1701606245) :: (0, 68, 4, 26982) :: (0, 68, 3, 1819242352) :: (0, 68, 2, 422726034283) :: (0, 68, 1, 7237488) :: (0, 68, 0, 8461826529626908769) :: (1, 68, 41, 30) :: l)) := by
  unfold fn_Md_init
  refine bz_kmk (c := 67) (d := 68) (by simp [bz_erd, bz_ern, hc]) rfl ?_
  refine bz_kck (by simp [bz_erd, bz_ern, hc]) ?_
  refine bz_kbn ?_
  refine bz_kck (by simp [bz_erd, bz_ern, hc]) ?_
  refine bz_kbn ?_
  refine bz_kck (by simp [bz_erd, bz_ern, hc]) ?_
  refine bz_kbn ?_
  refine bz_kck (by simp [bz_erd, bz_ern, hc]) ?_
  refine bz_kbn ?_
  refine bz_kck (by simp [bz_erd, bz_ern, hc]) ?_
  refine bz_kbn ?_
  refine bz_kck (by simp [bz_erd, bz_ern, hc]) ?_
  refine bz_kbn ?_
  refine bz_kck (by simp [bz_erd, bz_ern, hc]) ?_
  refine bz_kbn ?_
  refine bz_kck (by simp [bz_erd, bz_ern, hc]) ?_
  refine bz_kbn ?_
  refine bz_kck (by simp [bz_erd, bz_ern, hc]) ?_
  refine bz_kbn ?_
  refine bz_kck (by simp [bz_erd, bz_ern, hc]) ?_
  refine bz_kbn ?_
  refine bz_kck (by simp [bz_erd, bz_ern, hc]) ?_
  refine bz_kbn ?_
  refine bz_kck (by simp [bz_erd, bz_ern, hc]) ?_
  refine bz_kbn ?_
  refine bz_kck (by simp [bz_erd, bz_ern, hc]) ?_
  refine bz_kbn ?_
  refine bz_kck (by simp [bz_erd, bz_ern, hc]) ?_
  refine bz_kbn ?_
  refine bz_kck (by simp [bz_erd, bz_ern, hc]) ?_
  refine bz_kbn ?_
  refine bz_kck (by simp [bz_erd, bz_ern, hc]) ?_
  refine bz_kbn ?_
  refine bz_kck (by simp [bz_erd, bz_ern, hc]) ?_
  refine bz_kbn ?_
  refine bz_kck (by simp [bz_erd, bz_ern, hc]) ?_
  refine bz_kbn ?_
  refine bz_kck (by simp [bz_erd, bz_ern, hc]) ?_
  refine bz_kbn ?_
  refine bz_kck (by simp [bz_erd, bz_ern, hc]) ?_
  refine bz_kbn ?_
  refine bz_kck (by simp [bz_erd, bz_ern, hc]) ?_
  refine bz_kbn ?_
  refine bz_kck (by simp [bz_erd, bz_ern, hc]) ?_
  refine bz_kbn ?_
  refine bz_kck (by simp [bz_erd, bz_ern, hc]) ?_
  refine bz_kbn ?_
  refine bz_kck (by simp [bz_erd, bz_ern, hc]) ?_
  refine bz_kbn ?_
  refine bz_kck (by simp [bz_erd, bz_ern, hc]) ?_
  refine bz_kbn ?_
  refine bz_kck (by simp [bz_erd, bz_ern, hc]) ?_
  refine bz_kbn ?_
  refine bz_kck (by simp [bz_erd, bz_ern, hc]) ?_
  refine bz_kbn ?_
  refine bz_kck (by simp [bz_erd, bz_ern, hc]) ?_
  refine bz_kbn ?_
  refine bz_kck (by simp [bz_erd, bz_ern, hc]) ?_
  refine bz_kbn ?_
  refine bz_kck (by simp [bz_erd, bz_ern, hc]) ?_
  refine bz_kbn ?_
  refine bz_kck (by simp [bz_erd, bz_ern, hc]) ?_
  refine bz_kbn ?_
  rfl
theorem bz_i_fn_Md_init_216 (hc : bz_ev g l 0 0 = 68) : fn_Md_init_216 67 (bz_ev g l) = fn_Md_init_384 67 (bz_ev g ((0, 67, 1, 69) :: (0, 69, 29, 7954587747278282611) :: (0, 69, 28, 1600730676) :: (0, 69, 27, 0) :: (0, 69, 26, 0) :: (0, 69, 25, 0) :: (0, 69, 24, 0) :: (0, 69, 23, 0) :: (0, 69, 22, 0) :: (0, 69, 21, 0) :: (0, 69, 20, 0) :: (0, 69, 19, 0) :: (0, 69, 18, 0) :: (0, 69, 17, 116) :: (0, 69, 16, 116) :: (0, 69, 15, 101) :: (0, 69, 14, 116) :: (0, 69, 13, 116) :: (0, 69, 12, 0) :: (0, 69, 11, 0) :: (0, 69, 10, 0) :: (0, 69, 9, 0) :: (0, 69, 8, 0) :: (0, 69, 7, 0) :: (0, 69, 6, 0) :: (0, 69, 5, 0) :: (0, 69, 4, 0) :: (0, 69, 3, 0) :: (0, 69, 2, 0) :: (0, 69, 1, 0) :: (0, 69, 0, 6450277) :: (1, 69, 41, 30) :: l)) := by
  unfold fn_Md_init_216
  refine bz_kmk (c := 68) (d := 69) (by simp [bz_erd, bz_ern, hc]) rfl ?_
  refine bz_kck (by simp [bz_erd, bz_ern, hc]) ?_
  refine bz_kbn ?_
  refine bz_kck (by simp [bz_erd, bz_ern, hc]) ?_
  refine bz_kbn ?_
  refine bz_kck (by simp [bz_erd, bz_ern, hc]) ?_
  refine bz_kbn ?_
  refine bz_kck (by simp [bz_erd, bz_ern, hc]) ?_
  refine bz_kbn ?_
  refine bz_kck (by simp [bz_erd, bz_ern, hc]) ?_
  refine bz_kbn ?_
  refine bz_kck (by simp [bz_erd, bz_ern, hc]) ?_
  refine bz_kbn ?_
  refine bz_kck (by simp [bz_erd, bz_ern, hc]) ?_
  refine bz_kbn ?_
  refine bz_kck (by simp [bz_erd, bz_ern, hc]) ?_
  refine bz_kbn ?_
  refine bz_kck (by simp [bz_erd, bz_ern, hc]) ?_
  refine bz_kbn ?_
  refine bz_kck (by simp [bz_erd, bz_ern, hc]) ?_
  refine bz_kbn ?_
  refine bz_kck (by simp [bz_erd, bz_ern, hc]) ?_
  refine bz_kbn ?_
  refine bz_kck (by simp [bz_erd, bz_ern, hc]) ?_
  refine bz_kbn ?_
  refine bz_kck (by simp [bz_erd, bz_ern, hc]) ?_
  refine bz_kbn ?_
  refine bz_kck (by simp [bz_erd, bz_ern, hc]) ?_
  refine bz_kbn ?_
  refine bz_kck (by simp [bz_erd, bz_ern, hc]) ?_
  refine bz_kbn ?_
  refine bz_kck (by simp [bz_erd, bz_ern, hc]) ?_
  refine bz_kbn ?_
  refine bz_kck (by simp [bz_erd, bz_ern, hc]) ?_
  refine bz_kbn ?_
  refine bz_kck (by simp [bz_erd, bz_ern, hc]) ?_
  refine bz_kbn ?_
  refine bz_kck (by simp [bz_erd, bz_ern, hc]) ?_
  refine bz_kbn ?_
  refine bz_kck (by simp [bz_erd, bz_ern, hc]) ?_
  refine bz_kbn ?_
  refine bz_kck (by simp [bz_erd, bz_ern, hc]) ?_
  refine bz_kbn ?_
  refine bz_kck (by simp [bz_erd, bz_ern, hc]) ?_
  refine bz_kbn ?_
  refine bz_kck (by simp [bz_erd, bz_ern, hc]) ?_
  refine bz_kbn ?_
  refine bz_kck (by simp [bz_erd, bz_ern, hc]) ?_
  refine bz_kbn ?_
  refine bz_kck (by simp [bz_erd, bz_ern, hc]) ?_
  refine bz_kbn ?_
  refine bz_kck (by simp [bz_erd, bz_ern, hc]) ?_
  refine bz_kbn ?_
  refine bz_kck (by simp [bz_erd, bz_ern, hc]) ?_
  refine bz_kbn ?_
  refine bz_kck (by simp [bz_erd, bz_ern, hc]) ?_
  refine bz_kbn ?_
  refine bz_kck (by simp [bz_erd, bz_ern, hc]) ?_
  refine bz_kbn ?_
  refine bz_kck (by simp [bz_erd, bz_ern, hc]) ?_
  refine bz_kbn ?_
  refine bz_kck (by simp [bz_erd, bz_ern, hc]) ?_
  refine bz_kbn ?_
  rfl
theorem bz_i_fn_Md_init_384 (hc : bz_ev g l 0 0 = 69) : fn_Md_init_384 67 (bz_ev g l) = fn_Md_init_562 67 (bz_ev g ((0, 67, 2, 70) :: (0, 70, 29, 172) :: (0, 70, 28, 167) :: (0, 70, 27, 126) :: (0, 70, 26, 124) :: (0, 70, 25, 81) :: (0, 70, 24, 80) :: (0, 70, 23, 108) :: (0, 70, 22, 107) :: (0, 70, 21, 106) :: (0, 70, 20, 72) :: (0, 70, 19, 70) :: (0, 70, 18, 69) :: (0, 70, 17, 66) :: (0, 70, 16, 65) :: (0, 70, 15, 34) :: (0, 70, 14, 33) :: (0, 70, 13, 32) :: (0, 70, 12, 27) :: (0, 70, 11, 26) :: (0, 70, 10, 16) :: (0, 70, 9, 15) :: (0, 70, 8, 13) :: (0, 70, 7, 12) :: (0, 70, 6, 11) :: (0, 70, 5, 5) :: (0, 70, 4, 4) :: (0, 70, 3, 3) :: (0, 70, 2, 2) :: (0, 70, 1, 1) :: (0, 70, 0, 0) :: (1, 70, 40, 30) :: l)) := by
  unfold fn_Md_init_384
  refine bz_kmk (c := 69) (d := 70) (by simp [bz_erd, bz_ern, hc]) rfl ?_
  refine bz_kck (by simp [bz_erd, bz_ern, hc]) ?_
  refine bz_kbn ?_
  refine bz_kck (by simp [bz_erd, bz_ern, hc]) ?_
  refine bz_kbn ?_
  refine bz_kck (by simp [bz_erd, bz_ern, hc]) ?_
  refine bz_kbn ?_
  refine bz_kck (by simp [bz_erd, bz_ern, hc]) ?_
  refine bz_kbn ?_
  refine bz_kck (by simp [bz_erd, bz_ern, hc]) ?_
  refine bz_kbn ?_
  refine bz_kck (by simp [bz_erd, bz_ern, hc]) ?_
  refine bz_kbn ?_
  refine bz_kck (by simp [bz_erd, bz_ern, hc]) ?_
  refine bz_kbn ?_
  refine bz_kck (by simp [bz_erd, bz_ern, hc]) ?_
  refine bz_kbn ?_
  refine bz_kck (by simp [bz_erd, bz_ern, hc]) ?_
  refine bz_kbn ?_
  refine bz_kck (by simp [bz_erd, bz_ern, hc]) ?_
  refine bz_kbn ?_
  refine bz_kck (by simp [bz_erd, bz_ern, hc]) ?_
  refine bz_kbn ?_
  refine bz_kck (by simp [bz_erd, bz_ern, hc]) ?_
  refine bz_kbn ?_
  refine bz_kck (by simp [bz_erd, bz_ern, hc]) ?_
  refine bz_kbn ?_
  refine bz_kck (by simp [bz_erd, bz_ern, hc]) ?_
  refine bz_kbn ?_
  refine bz_kck (by simp [bz_erd, bz_ern, hc]) ?_
  refine bz_kbn ?_
  refine bz_kck (by simp [bz_erd, bz_ern, hc]) ?_
  refine bz_kbn ?_
  refine bz_kck (by simp [bz_erd, bz_ern, hc]) ?_
  refine bz_kbn ?_
  refine bz_kck (by simp [bz_erd, bz_ern, hc]) ?_
  refine bz_kbn ?_
  refine bz_kck (by simp [bz_erd, bz_ern, hc]) ?_
  refine bz_kbn ?_
  refine bz_kck (by simp [bz_erd, bz_ern, hc]) ?_
  refine bz_kbn ?_
  refine bz_kck (by simp [bz_erd, bz_ern, hc]) ?_
  refine bz_kbn ?_
  refine bz_kck (by simp [bz_erd, bz_ern, hc]) ?_
  refine bz_kbn ?_
  refine bz_kck (by simp [bz_erd, bz_ern, hc]) ?_
  refine bz_kbn ?_
  refine bz_kck (by simp [bz_erd, bz_ern, hc]) ?_
  refine bz_kbn ?_
  refine bz_kck (by simp [bz_erd, bz_ern, hc]) ?_
  refine bz_kbn ?_
  refine bz_kck (by simp [bz_erd, bz_ern, hc]) ?_
  refine bz_kbn ?_
  refine bz_kck (by simp [bz_erd, bz_ern, hc]) ?_
  refine bz_kbn ?_
  refine bz_kck (by simp [bz_erd, bz_ern, hc]) ?_
  refine bz_kbn ?_
  refine bz_kck (by simp [bz_erd, bz_ern, hc]) ?_
  refine bz_kbn ?_
  refine bz_kck (by simp [bz_erd, bz_ern, hc]) ?_
  refine bz_kbn ?_
  refine bz_kck (by simp [bz_erd, bz_ern, hc]) ?_
  refine bz_kbn ?_
  rfl
theorem bz_i_fn_Md_init_562 (hc : bz_ev g l 0 0 = 70) : fn_Md_init_562 67 (bz_ev g l) = fn_Md_init_682 67 (bz_ev g ((0, 67, 24, 86) :: (1, 86, 40, 4) :: (0, 67, 22, 85) :: (1, 85, 41, 64) :: (0, 67, 21, 84) :: (1, 84, 40, 64) :: (0, 67, 20, 83) :: (1, 83, 40, 5) :: (0, 67, 19, 82) :: (1, 82, 40, 32) :: (0, 67, 18, 81) :: (1, 81, 40, 4) :: (0, 67, 17, 80) :: (1, 80, 40, 4) :: (0, 67, 16, 79) :: (1, 79, 40, 4) :: (0, 67, 14, 78) :: (1, 78, 41, 64) :: (0, 67, 13, 77) :: (1, 77, 40, 64) :: (0, 67, 12, 76) :: (1, 76, 40, 5) :: (0, 67, 11, 75) :: (1, 75, 40, 32) :: (0, 67, 10, 74) :: (1, 74, 40, 4) :: (0, 67, 9, 73) :: (1, 73, 40, 4) :: (0, 67, 8, 72) :: (1, 72, 40, 4) :: (0, 67, 6, 71) :: (1, 71, 42, 320) :: l)) := by
  unfold fn_Md_init_562
  refine bz_kmk (c := 70) (d := 71) (by simp [bz_erd, bz_ern, hc]) rfl ?_
  refine bz_kck (by simp [bz_erd, bz_ern, hc]) ?_
  refine bz_kbn ?_
  refine bz_kmk (c := 71) (d := 72) (by simp [bz_erd, bz_ern, hc]) rfl ?_
  refine bz_kck (by simp [bz_erd, bz_ern, hc]) ?_
  refine bz_kbn ?_
  refine bz_kmk (c := 72) (d := 73) (by simp [bz_erd, bz_ern, hc]) rfl ?_
  refine bz_kck (by simp [bz_erd, bz_ern, hc]) ?_
  refine bz_kbn ?_
  refine bz_kmk (c := 73) (d := 74) (by simp [bz_erd, bz_ern, hc]) rfl ?_
  refine bz_kck (by simp [bz_erd, bz_ern, hc]) ?_
  refine bz_kbn ?_
  refine bz_kmk (c := 74) (d := 75) (by simp [bz_erd, bz_ern, hc]) rfl ?_
  refine bz_kck (by simp [bz_erd, bz_ern, hc]) ?_
  refine bz_kbn ?_
  refine bz_kmk (c := 75) (d := 76) (by simp [bz_erd, bz_ern, hc]) rfl ?_
  refine bz_kck (by simp [bz_erd, bz_ern, hc]) ?_
  refine bz_kbn ?_
  refine bz_kmk (c := 76) (d := 77) (by simp [bz_erd, bz_ern, hc]) rfl ?_
  refine bz_kck (by simp [bz_erd, bz_ern, hc]) ?_
  refine bz_kbn ?_
  refine bz_kmk (c := 77) (d := 78) (by simp [bz_erd, bz_ern, hc]) rfl ?_
  refine bz_kck (by simp [bz_erd, bz_ern, hc]) ?_
  refine bz_kbn ?_
  refine bz_kmk (c := 78) (d := 79) (by simp [bz_erd, bz_ern, hc]) rfl ?_
  refine bz_kck (by simp [bz_erd, bz_ern, hc]) ?_
  refine bz_kbn ?_
  refine bz_kmk (c := 79) (d := 80) (by simp [bz_erd, bz_ern, hc]) rfl ?_
  refine bz_kck (by simp [bz_erd, bz_ern, hc]) ?_
  refine bz_kbn ?_
  refine bz_kmk (c := 80) (d := 81) (by simp [bz_erd, bz_ern, hc]) rfl ?_
  refine bz_kck (by simp [bz_erd, bz_ern, hc]) ?_
  refine bz_kbn ?_
  refine bz_kmk (c := 81) (d := 82) (by simp [bz_erd, bz_ern, hc]) rfl ?_
  refine bz_kck (by simp [bz_erd, bz_ern, hc]) ?_
  refine bz_kbn ?_
  refine bz_kmk (c := 82) (d := 83) (by simp [bz_erd, bz_ern, hc]) rfl ?_
  refine bz_kck (by simp [bz_erd, bz_ern, hc]) ?_
  refine bz_kbn ?_
  refine bz_kmk (c := 83) (d := 84) (by simp [bz_erd, bz_ern, hc]) rfl ?_
  refine bz_kck (by simp [bz_erd, bz_ern, hc]) ?_
  refine bz_kbn ?_
  refine bz_kmk (c := 84) (d := 85) (by simp [bz_erd, bz_ern, hc]) rfl ?_
  refine bz_kck (by simp [bz_erd, bz_ern, hc]) ?_
  refine bz_kbn ?_
  refine bz_kmk (c := 85) (d := 86) (by simp [bz_erd, bz_ern, hc]) rfl ?_
  refine bz_kck (by simp [bz_erd, bz_ern, hc]) ?_
  refine bz_kbn ?_
  rfl
theorem bz_i_fn_Md_init_682 (hc : bz_ev g l 0 0 = 86) : fn_Md_init_682 67 (bz_ev g l) = fn_Md_init_809 67 (bz_ev g ((0, 67, 53, 102) :: (1, 102, 40, 14) :: (0, 67, 52, 101) :: (1, 101, 40, 14) :: (0, 67, 50, 100) :: (1, 100, 40, 80) :: (0, 67, 46, 99) :: (1, 99, 40, 12) :: (0, 67, 45, 98) :: (1, 98, 41, 12) :: (0, 67, 44, 97) :: (1, 97, 40, 12) :: (0, 67, 43, 96) :: (1, 96, 40, 12) :: (0, 67, 42, 95) :: (1, 95, 44, 12) :: (0, 67, 41, 94) :: (1, 94, 44, 12) :: (0, 67, 40, 93) :: (1, 93, 40, 12) :: (0, 67, 31, 92) :: (1, 92, 40, 100) :: (0, 67, 30, 91) :: (1, 91, 40, 100) :: (0, 67, 29, 90) :: (1, 90, 40, 100) :: (0, 67, 27, 89) :: (1, 89, 40, 8) :: (0, 67, 26, 88) :: (1, 88, 40, 8) :: (0, 67, 25, 87) :: (1, 87, 40, 4) :: l)) := by
  unfold fn_Md_init_682
  refine bz_kmk (c := 86) (d := 87) (by simp [bz_erd, bz_ern, hc]) rfl ?_
  refine bz_kck (by simp [bz_erd, bz_ern, hc]) ?_
  refine bz_kbn ?_
  refine bz_kmk (c := 87) (d := 88) (by simp [bz_erd, bz_ern, hc]) rfl ?_
  refine bz_kck (by simp [bz_erd, bz_ern, hc]) ?_
  refine bz_kbn ?_
  refine bz_kmk (c := 88) (d := 89) (by simp [bz_erd, bz_ern, hc]) rfl ?_
  refine bz_kck (by simp [bz_erd, bz_ern, hc]) ?_
  refine bz_kbn ?_
  refine bz_kmk (c := 89) (d := 90) (by simp [bz_erd, bz_ern, hc]) rfl ?_
  refine bz_kck (by simp [bz_erd, bz_ern, hc]) ?_
  refine bz_kbn ?_
  refine bz_kmk (c := 90) (d := 91) (by simp [bz_erd, bz_ern, hc]) rfl ?_
  refine bz_kck (by simp [bz_erd, bz_ern, hc]) ?_
  refine bz_kbn ?_
  refine bz_kmk (c := 91) (d := 92) (by simp [bz_erd, bz_ern, hc]) rfl ?_
  refine bz_kck (by simp [bz_erd, bz_ern, hc]) ?_
  refine bz_kbn ?_
  refine bz_kmk (c := 92) (d := 93) (by simp [bz_erd, bz_ern, hc]) rfl ?_
  refine bz_kck (by simp [bz_erd, bz_ern, hc]) ?_
  refine bz_kbn ?_
  refine bz_kmk (c := 93) (d := 94) (by simp [bz_erd, bz_ern, hc]) rfl ?_
  refine bz_kck (by simp [bz_erd, bz_ern, hc]) ?_
  refine bz_kbn ?_
  refine bz_kmk (c := 94) (d := 95) (by simp [bz_erd, bz_ern, hc]) rfl ?_
  refine bz_kck (by simp [bz_erd, bz_ern, hc]) ?_
  refine bz_kbn ?_
  refine bz_kmk (c := 95) (d := 96) (by simp [bz_erd, bz_ern, hc]) rfl ?_
  refine bz_kck (by simp [bz_erd, bz_ern, hc]) ?_
  refine bz_kbn ?_
  refine bz_kmk (c := 96) (d := 97) (by simp [bz_erd, bz_ern, hc]) rfl ?_
  refine bz_kck (by simp [bz_erd, bz_ern, hc]) ?_
  refine bz_kbn ?_
  refine bz_kmk (c := 97) (d := 98) (by simp [bz_erd, bz_ern, hc]) rfl ?_
  refine bz_kck (by simp [bz_erd, bz_ern, hc]) ?_
  refine bz_kbn ?_
  refine bz_kmk (c := 98) (d := 99) (by simp [bz_erd, bz_ern, hc]) rfl ?_
  refine bz_kck (by simp [bz_erd, bz_ern, hc]) ?_
  refine bz_kbn ?_
  refine bz_kmk (c := 99) (d := 100) (by simp [bz_erd, bz_ern, hc]) rfl ?_
  refine bz_kck (by simp [bz_erd, bz_ern, hc]) ?_
  refine bz_kbn ?_
  refine bz_kmk (c := 100) (d := 101) (by simp [bz_erd, bz_ern, hc]) rfl ?_
  refine bz_kck (by simp [bz_erd, bz_ern, hc]) ?_
  refine bz_kbn ?_
  refine bz_kmk (c := 101) (d := 102) (by simp [bz_erd, bz_ern, hc]) rfl ?_
  refine bz_kck (by simp [bz_erd, bz_ern, hc]) ?_
  refine bz_kbn ?_
  rfl
theorem bz_i_fn_Md_init_809 (hc : bz_ev g l 0 0 = 102) : fn_Md_init_809 67 (bz_ev g l) = some (0, bz_ev g ((0, 67, 63, 108) :: (1, 108, 42, 320) :: (0, 67, 61, 107) :: (1, 107, 40, 1400) :: (0, 67, 59, 106) :: (1, 106, 40, 1400) :: (0, 67, 56, 105) :: (1, 105, 44, 14) :: (0, 67, 55, 104) :: (1, 104, 40, 14) :: (0, 67, 54, 103) :: (1, 103, 40, 14) :: l)) := by
  unfold fn_Md_init_809
  refine bz_kmk (c := 102) (d := 103) (by simp [bz_erd, bz_ern, hc]) rfl ?_
  refine bz_kck (by simp [bz_erd, bz_ern, hc]) ?_
  refine bz_kbn ?_
  refine bz_kmk (c := 103) (d := 104) (by simp [bz_erd, bz_ern, hc]) rfl ?_
  refine bz_kck (by simp [bz_erd, bz_ern, hc]) ?_
  refine bz_kbn ?_
  refine bz_kmk (c := 104) (d := 105) (by simp [bz_erd, bz_ern, hc]) rfl ?_
  refine bz_kck (by simp [bz_erd, bz_ern, hc]) ?_
  refine bz_kbn ?_
  refine bz_kmk (c := 105) (d := 106) (by simp [bz_erd, bz_ern, hc]) rfl ?_
  refine bz_kck (by simp [bz_erd, bz_ern, hc]) ?_
  refine bz_kbn ?_
  refine bz_kmk (c := 106) (d := 107) (by simp [bz_erd, bz_ern, hc]) rfl ?_
  refine bz_kck (by simp [bz_erd, bz_ern, hc]) ?_
  refine bz_kbn ?_
  refine bz_kmk (c := 107) (d := 108) (by simp [bz_erd, bz_ern, hc]) rfl ?_
  refine bz_kck (by simp [bz_erd, bz_ern, hc]) ?_
  refine bz_kbn ?_
  rfl
end CON
