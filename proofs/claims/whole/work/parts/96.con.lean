def kz_N1 : Nat := 1536
def kz_B : Prop := ∀ (ad : Int → Nat) (sz L : Nat) (xs : Nat → Int32), L ≤ kz_N1 → ∃ h', fn_Law_law (-34) (kz_h0 ad sz L xs) = some (1, h')
def bz_L1 : List bz_Op := (1, 6, 6, 0) :: (0, 1, 5, 4) :: (0, 4, 0, 5) :: (1, 5, 42, 320) :: (1, 4, 11, 0) :: (0, 1, 4, 2) :: (0, 2, 0, 3) :: (1, 3, 42, 320) :: (1, 2, 11, 0) :: (1, 1, 0, 0) :: []
def bz_L2 : List bz_Op := bz_nops 8 64 0 ((0, 7, 3, 16) :: (0, 16, 0, 17) :: (1, 17, 40, 8) :: (1, 16, 4, 0) :: (0, 7, 2, 14) :: (0, 14, 0, 15) :: (1, 15, 40, 8) :: (1, 14, 4, 0) :: (0, 7, 1, 12) :: (0, 12, 0, 13) :: (1, 13, 40, 8) :: (1, 12, 4, 0) :: (0, 7, 0, 10) :: (0, 10, 0, 11) :: (1, 11, 40, 8) :: (1, 10, 4, 0) :: (0, 6, 2, 9) :: (1, 9, 41, 64) :: (0, 6, 1, 8) :: (1, 8, 46, 64) :: (0, 6, 0, 7) :: (1, 7, 45, 4) :: bz_L1)
def bz_L3 : List bz_Op := (1, 18, 6, 0) :: (0, 1, 6, 6) :: bz_L2
def bz_L4 : List bz_Op := bz_nops 20 64 0 ((0, 19, 3, 28) :: (0, 28, 0, 29) :: (1, 29, 40, 8) :: (1, 28, 4, 0) :: (0, 19, 2, 26) :: (0, 26, 0, 27) :: (1, 27, 40, 8) :: (1, 26, 4, 0) :: (0, 19, 1, 24) :: (0, 24, 0, 25) :: (1, 25, 40, 8) :: (1, 24, 4, 0) :: (0, 19, 0, 22) :: (0, 22, 0, 23) :: (1, 23, 40, 8) :: (1, 22, 4, 0) :: (0, 18, 2, 21) :: (1, 21, 41, 64) :: (0, 18, 1, 20) :: (1, 20, 46, 64) :: (0, 18, 0, 19) :: (1, 19, 45, 4) :: bz_L3)
def bz_L5 : List bz_Op := (1, 30, 9, 0) :: (0, 1, 7, 18) :: bz_L4
def bz_L6 : List bz_Op := (0, 31, 12, 47) :: (0, 47, 3, (-2)) :: (1, 47, 5, 0) :: (0, 31, 11, 46) :: (0, 46, 3, (-2)) :: (1, 46, 5, 0) :: (0, 31, 10, 45) :: (0, 45, 3, (-2)) :: (1, 45, 5, 0) :: (0, 31, 9, 44) :: (0, 44, 3, (-2)) :: (1, 44, 5, 0) :: (0, 31, 8, 43) :: (0, 43, 3, (-2)) :: (1, 43, 5, 0) :: (0, 31, 7, 42) :: (0, 42, 3, (-2)) :: (1, 42, 5, 0) :: (0, 31, 6, 41) :: (0, 41, 3, (-2)) :: (1, 41, 5, 0) :: (0, 31, 5, 40) :: (0, 40, 3, (-2)) :: (1, 40, 5, 0) :: (0, 31, 4, 39) :: (0, 39, 3, (-2)) :: (1, 39, 5, 0) :: (0, 31, 3, 38) :: (0, 38, 3, (-2)) :: (1, 38, 5, 0) :: (0, 31, 2, 37) :: (0, 37, 3, (-2)) :: (1, 37, 5, 0) :: (0, 31, 1, 36) :: (0, 36, 3, (-2)) :: (1, 36, 5, 0) :: (0, 31, 0, 35) :: (0, 35, 3, (-2)) :: (1, 35, 5, 0) :: (0, 30, 0, 34) :: (0, 34, 0, 2) :: (1, 34, 10, 0) :: (0, 30, 4, 18) :: (0, 30, 3, 33) :: (1, 33, 40, 8) :: (0, 30, 2, 32) :: (1, 32, 40, 4) :: (0, 30, 1, 31) :: (1, 31, 47, 13) :: bz_L5
def bz_L7 : List bz_Op := (1, 48, 1, 0) :: (0, 1, 0, 30) :: bz_L6
def bz_L8 : List bz_Op := (0, 50, 11, 62) :: (1, 62, 3, 0) :: (0, 50, 10, 61) :: (1, 61, 3, 0) :: (0, 50, 9, 60) :: (1, 60, 3, 0) :: (0, 50, 8, 59) :: (1, 59, 3, 0) :: (0, 50, 7, 58) :: (1, 58, 3, 0) :: (0, 50, 6, 57) :: (1, 57, 3, 0) :: (0, 50, 5, 56) :: (1, 56, 3, 0) :: (0, 50, 4, 55) :: (1, 55, 3, 0) :: (0, 50, 3, 54) :: (1, 54, 3, 0) :: (0, 50, 2, 53) :: (1, 53, 3, 0) :: (0, 50, 1, 52) :: (1, 52, 3, 0) :: (0, 50, 0, 51) :: (1, 51, 3, 0) :: (0, 48, 3, 22) :: (0, 48, 2, 18) :: (0, 48, 1, 50) :: (1, 50, 48, 12) :: (0, 48, 0, 49) :: (1, 49, 40, 64) :: bz_L7
def bz_L9 : List bz_Op := (1, 67, 12, 0) :: (0, 1, 3, 66) :: (0, 66, 0, 4) :: (1, 66, 8, 0) :: (0, 1, 2, 63) :: (0, 63, 1, 65) :: (1, 65, 40, 4) :: (0, 63, 0, 64) :: (1, 64, 43, 1024) :: (1, 63, 2, 0) :: (0, 1, 1, 48) :: bz_L8
def bz_L10 : List bz_Op := (0, 67, 0, 68) :: (0, 68, 29, 7581304396600341605) :: (0, 68, 28, 7580457772948545904) :: (0, 68, 27, 29614470299743596) :: (0, 68, 26, 29614470298952804) :: (0, 68, 25, 115681524606321) :: (0, 68, 24, 29614470299218298) :: (0, 68, 23, 29611163174925676) :: (0, 68, 22, 29611163175318882) :: (0, 68, 21, 29611163174134884) :: (0, 68, 20, 7580457772764127091) :: (0, 68, 19, 115668606150001) :: (0, 68, 18, 29611163174400378) :: (0, 68, 17, 7581304396566195827) :: (0, 68, 16, 7580457772612808307) :: (0, 68, 15, 7813573148589061221) :: (0, 68, 14, 7813573148589060965) :: (0, 68, 13, 7813573148589057893) :: (0, 68, 12, 126879447475060) :: (0, 68, 11, 1685221232) :: (0, 68, 10, 1667329132) :: (0, 68, 9, 125780071117422) :: (0, 68, 8, 422825650534) :: (0, 68, 7, 25202) :: (0, 68, 6, 6647396) :: (0, 68, 5, 1701606245) :: (0, 68, 4, 26982) :: (0, 68, 3, 1819242352) :: (0, 68, 2, 422726034283) :: (0, 68, 1, 7237488) :: (0, 68, 0, 8461826529626908769) :: (1, 68, 41, 30) :: bz_L9
def bz_L11 : List bz_Op := (0, 67, 1, 69) :: (0, 69, 29, 7954587747278282611) :: (0, 69, 28, 1600730676) :: (0, 69, 27, 0) :: (0, 69, 26, 0) :: (0, 69, 25, 0) :: (0, 69, 24, 0) :: (0, 69, 23, 0) :: (0, 69, 22, 0) :: (0, 69, 21, 0) :: (0, 69, 20, 0) :: (0, 69, 19, 0) :: (0, 69, 18, 0) :: (0, 69, 17, 116) :: (0, 69, 16, 116) :: (0, 69, 15, 101) :: (0, 69, 14, 116) :: (0, 69, 13, 116) :: (0, 69, 12, 0) :: (0, 69, 11, 0) :: (0, 69, 10, 0) :: (0, 69, 9, 0) :: (0, 69, 8, 0) :: (0, 69, 7, 0) :: (0, 69, 6, 0) :: (0, 69, 5, 0) :: (0, 69, 4, 0) :: (0, 69, 3, 0) :: (0, 69, 2, 0) :: (0, 69, 1, 0) :: (0, 69, 0, 6450277) :: (1, 69, 41, 30) :: bz_L10
def bz_L12 : List bz_Op := (0, 67, 2, 70) :: (0, 70, 29, 172) :: (0, 70, 28, 167) :: (0, 70, 27, 126) :: (0, 70, 26, 124) :: (0, 70, 25, 81) :: (0, 70, 24, 80) :: (0, 70, 23, 108) :: (0, 70, 22, 107) :: (0, 70, 21, 106) :: (0, 70, 20, 72) :: (0, 70, 19, 70) :: (0, 70, 18, 69) :: (0, 70, 17, 66) :: (0, 70, 16, 65) :: (0, 70, 15, 34) :: (0, 70, 14, 33) :: (0, 70, 13, 32) :: (0, 70, 12, 27) :: (0, 70, 11, 26) :: (0, 70, 10, 16) :: (0, 70, 9, 15) :: (0, 70, 8, 13) :: (0, 70, 7, 12) :: (0, 70, 6, 11) :: (0, 70, 5, 5) :: (0, 70, 4, 4) :: (0, 70, 3, 3) :: (0, 70, 2, 2) :: (0, 70, 1, 1) :: (0, 70, 0, 0) :: (1, 70, 40, 30) :: bz_L11
def bz_L13 : List bz_Op := (0, 67, 24, 86) :: (1, 86, 40, 4) :: (0, 67, 22, 85) :: (1, 85, 41, 64) :: (0, 67, 21, 84) :: (1, 84, 40, 64) :: (0, 67, 20, 83) :: (1, 83, 40, 5) :: (0, 67, 19, 82) :: (1, 82, 40, 32) :: (0, 67, 18, 81) :: (1, 81, 40, 4) :: (0, 67, 17, 80) :: (1, 80, 40, 4) :: (0, 67, 16, 79) :: (1, 79, 40, 4) :: (0, 67, 14, 78) :: (1, 78, 41, 64) :: (0, 67, 13, 77) :: (1, 77, 40, 64) :: (0, 67, 12, 76) :: (1, 76, 40, 5) :: (0, 67, 11, 75) :: (1, 75, 40, 32) :: (0, 67, 10, 74) :: (1, 74, 40, 4) :: (0, 67, 9, 73) :: (1, 73, 40, 4) :: (0, 67, 8, 72) :: (1, 72, 40, 4) :: (0, 67, 6, 71) :: (1, 71, 42, 320) :: bz_L12
def bz_L14 : List bz_Op := (0, 67, 53, 102) :: (1, 102, 40, 14) :: (0, 67, 52, 101) :: (1, 101, 40, 14) :: (0, 67, 50, 100) :: (1, 100, 40, 80) :: (0, 67, 46, 99) :: (1, 99, 40, 12) :: (0, 67, 45, 98) :: (1, 98, 41, 12) :: (0, 67, 44, 97) :: (1, 97, 40, 12) :: (0, 67, 43, 96) :: (1, 96, 40, 12) :: (0, 67, 42, 95) :: (1, 95, 44, 12) :: (0, 67, 41, 94) :: (1, 94, 44, 12) :: (0, 67, 40, 93) :: (1, 93, 40, 12) :: (0, 67, 31, 92) :: (1, 92, 40, 100) :: (0, 67, 30, 91) :: (1, 91, 40, 100) :: (0, 67, 29, 90) :: (1, 90, 40, 100) :: (0, 67, 27, 89) :: (1, 89, 40, 8) :: (0, 67, 26, 88) :: (1, 88, 40, 8) :: (0, 67, 25, 87) :: (1, 87, 40, 4) :: bz_L13
def bz_L15 : List bz_Op := (0, 67, 63, 108) :: (1, 108, 42, 320) :: (0, 67, 61, 107) :: (1, 107, 40, 1400) :: (0, 67, 59, 106) :: (1, 106, 40, 1400) :: (0, 67, 56, 105) :: (1, 105, 44, 14) :: (0, 67, 55, 104) :: (1, 104, 40, 14) :: (0, 67, 54, 103) :: (1, 103, 40, 14) :: bz_L14
def bz_LL : List bz_Op := (1, 109, 41, 1) :: bz_L15
theorem bz_krd {g : qz_H} {l : List bz_Op} {a b v : Int} (h : (decide (a ≠ 0) && decide (b ≠ -3) && decide (bz_lkp l a b = some v)) = true) : bz_ev g l a b = v := by
  simp only [Bool.and_eq_true, decide_eq_true_eq] at h
  rw [bz_lk_ok l a b h.1.1 h.1.2, h.2]
  rfl
theorem bz_kct {g : qz_H} (hg : g 0 0 = 0) {l : List bz_Op} {c : Int} (h : decide (bz_lk0 l = c) = true) : bz_ev g l 0 0 = c := (bz_ev00 hg l).trans (of_decide_eq_true h)
set_option maxRecDepth 100000 in
theorem bz_iSA {g : qz_H} (hg : g 0 0 = 0) : fn_SA_init 1 (bz_ev g [(1, 1, 0, 0)]) = some (0, bz_ev g ((0, 1, 3, 66) :: (0, 66, 0, 4) :: (1, 66, 8, 0) :: (0, 1, 2, 63) :: (0, 63, 1, 65) :: (1, 65, 40, 4) :: (0, 63, 0, 64) :: (1, 64, 43, 1024) :: (1, 63, 2, 0) :: (0, 1, 1, 48) :: bz_L8)) := by
  unfold fn_SA_init
  refine bz_kmk (c := 1) (d := 2) (bz_kct hg (by decide +kernel)) rfl ?_
  refine bz_kbc (bz_iText (c := 2) (d := 3) (by omega) (bz_kct hg (by decide +kernel)) rfl) ?_
  refine bz_kck (by omega) ?_
  refine bz_kbn ?_
  refine bz_kmk (c := 3) (d := 4) (bz_kct hg (by decide +kernel)) rfl ?_
  refine bz_kbc (bz_iText (c := 4) (d := 5) (by omega) (bz_kct hg (by decide +kernel)) rfl) ?_
  refine bz_kck (by omega) ?_
  refine bz_kbn ?_
  refine bz_kmk (c := 5) (d := 6) (bz_kct hg (by decide +kernel)) rfl ?_
  refine bz_kbc (bz_iMod6 (l := bz_L1) (bz_kct hg (by decide +kernel))) ?_
  refine bz_kck (by omega) ?_
  refine bz_kbn ?_
  refine bz_kmk (c := 17) (d := 18) (bz_kct hg (by decide +kernel)) rfl ?_
  refine bz_kbc (bz_iMod18 (l := bz_L3) (bz_kct hg (by decide +kernel))) ?_
  refine bz_kck (by omega) ?_
  refine bz_kbn ?_
  refine bz_kmk (c := 29) (d := 30) (bz_kct hg (by decide +kernel)) rfl ?_
  refine bz_kbc (r := 0) (h' := bz_ev g bz_L6) ?_ ?_
  · show fn_Reader_init 30 (bz_ev g bz_L5 1 4) (bz_ev g bz_L5 1 7) (bz_ev g bz_L5) = _
    rw [bz_krd (l := bz_L5) (a := 1) (b := 4) (v := 2) (by decide +kernel), bz_krd (l := bz_L5) (a := 1) (b := 7) (v := 18) (by decide +kernel)]
    exact bz_iRdr (bz_kct hg (by decide +kernel))
  refine bz_kck (by omega) ?_
  refine bz_kbn ?_
  refine bz_kmk (c := 47) (d := 48) (bz_kct hg (by decide +kernel)) rfl ?_
  refine bz_kbc (r := 0) (h' := bz_ev g bz_L8) ?_ ?_
  · show fn_Checker_init 48 (bz_ev g bz_L7 1 7) (bz_ev g bz_L7) = _
    rw [bz_krd (l := bz_L7) (a := 1) (b := 7) (v := 18) (by decide +kernel)]
    exact bz_iChk (bz_kct hg (by decide +kernel)) (bz_krd (by decide +kernel)) (bz_krd (by decide +kernel)) (bz_krd (by decide +kernel)) (bz_krd (by decide +kernel))
  refine bz_kck (by omega) ?_
  refine bz_kbn ?_
  refine bz_kmk (c := 62) (d := 63) (bz_kct hg (by decide +kernel)) rfl ?_
  refine bz_kbc (bz_iEnc (bz_kct hg (by decide +kernel))) ?_
  refine bz_kck (by omega) ?_
  refine bz_kbn ?_
  refine bz_kmk (c := 65) (d := 66) (bz_kct hg (by decide +kernel)) rfl ?_
  refine bz_kbc (r := 0) (h' := bz_ev g ((0, 66, 0, 4) :: (1, 66, 8, 0) :: (0, 1, 2, 63) :: (0, 63, 1, 65) :: (1, 65, 40, 4) :: (0, 63, 0, 64) :: (1, 64, 43, 1024) :: (1, 63, 2, 0) :: (0, 1, 1, 48) :: bz_L8)) ?_ ?_
  · show fn_Printer_init 66 (bz_ev g ((1, 66, 8, 0) :: (0, 1, 2, 63) :: (0, 63, 1, 65) :: (1, 65, 40, 4) :: (0, 63, 0, 64) :: (1, 64, 43, 1024) :: (1, 63, 2, 0) :: (0, 1, 1, 48) :: bz_L8) 1 5) (bz_ev g ((1, 66, 8, 0) :: (0, 1, 2, 63) :: (0, 63, 1, 65) :: (1, 65, 40, 4) :: (0, 63, 0, 64) :: (1, 64, 43, 1024) :: (1, 63, 2, 0) :: (0, 1, 1, 48) :: bz_L8)) = _
    rw [bz_krd (a := 1) (b := 5) (v := 4) (by decide +kernel)]
    exact bz_iPrn
  refine bz_kck (by omega) ?_
  refine bz_kbn ?_
  rfl
set_option maxRecDepth 100000 in
theorem bz_con {g : qz_H} (hg : g 0 0 = 0) : fn_Law_law (-34) g = fn_Law_law_23 qz_NF (-34) 1 67 109 0 (bz_ev g bz_LL) := by
  unfold fn_Law_law
  refine bz_kmk (g := g) (l := []) (c := 0) (d := 1) hg rfl ?_
  refine bz_kbc (bz_iSA hg) ?_
  rw [bz_bn]
  refine bz_kmk (c := 66) (d := 67) (bz_kct hg (by decide +kernel)) rfl ?_
  refine bz_kbc (r := 0) (h' := bz_ev g bz_L15) ?_ ?_
  · refine (bz_i_fn_Md_init (l := bz_L9) (bz_kct hg (by decide +kernel))).trans ?_
    refine (bz_i_fn_Md_init_216 (l := bz_L10) (bz_kct hg (by decide +kernel))).trans ?_
    refine (bz_i_fn_Md_init_384 (l := bz_L11) (bz_kct hg (by decide +kernel))).trans ?_
    refine (bz_i_fn_Md_init_562 (l := bz_L12) (bz_kct hg (by decide +kernel))).trans ?_
    refine (bz_i_fn_Md_init_682 (l := bz_L13) (bz_kct hg (by decide +kernel))).trans ?_
    exact bz_i_fn_Md_init_809 (l := bz_L14) (bz_kct hg (by decide +kernel))
  rw [bz_bn]
  refine bz_kmk (c := 108) (d := 109) (bz_kct hg (by decide +kernel)) rfl ?_
  rfl
def bz_pos : List bz_Op → Bool
  | [] => true
  | (_, x, _, _) :: l => decide (0 < x) && bz_pos l
theorem bz_pos_no : ∀ (l : List bz_Op), bz_pos l = true → ∀ a b : Int, a ≤ 0 → bz_lkp l a b = none
  | [], _, a, b, _ => rfl
  | (0, o, i, v) :: l, h, a, b, ha => by
    simp only [bz_pos, Bool.and_eq_true, decide_eq_true_eq] at h
    rw [bz_lkp, if_neg (by omega)]
    exact bz_pos_no l h.2 a b ha
  | (t + 1, x, k, n) :: l, h, a, b, ha => by
    simp only [bz_pos, Bool.and_eq_true, decide_eq_true_eq] at h
    rw [bz_lkp, if_neg (by omega)]
    exact bz_pos_no l h.2 a b ha
def bz_tl (T : List (Int × Int × Int)) : Bool := T.all fun q => decide (q.1 ≠ 0) && decide (q.2.1 ≠ -3) && decide (bz_lkp bz_LL q.1 q.2.1 = some q.2.2)
set_option maxRecDepth 100000 in
theorem bz_tlC : bz_tl bz_TC = true := by decide +kernel
set_option maxRecDepth 100000 in
theorem bz_tlM : bz_tl bz_TM = true := by decide +kernel
set_option maxRecDepth 100000 in
theorem bz_LLpos : bz_pos bz_LL = true := by decide +kernel
theorem bz_neg {ad : Int → Nat} {sz L : Nat} {xs : Nat → Int32} {a b : Int} (ha : a ≤ -1) (hb : b ≠ -3) : bz_ev (kz_h0 ad sz L xs) bz_LL a b = kz_h0 ad sz L xs a b := by
  rw [bz_lk_ok bz_LL a b (by omega) hb, bz_pos_no bz_LL bz_LLpos a b (by omega)]
  rfl
/-- where the law begins, both stand alike -/
theorem bz_J0 (ad : Int → Nat) (sz L : Nat) (xs : Nat → Int32) : bz_J (bz_ev (kz_h0 ad sz L xs) bz_LL) (bz_ev (kz_h0 ad sz L xs) bz_LL) := by
  have wf0 : bz_wf (fun _ _ => 0) := ⟨Int.le_refl _, by show (0 : Int) ≤ 4; omega, fun f f0 f1 => by have : f < 0 := f1; omega⟩
  refine ⟨⟨fun q hq => bz_krd (List.all_eq_true.mp bz_tlC q hq), fun o j o1 o2 o3 o4 => ?_⟩, fun q hq => bz_krd (List.all_eq_true.mp bz_tlM q hq), bz_krd (by decide +kernel), ⟨2, 4, Or.inl ⟨rfl, rfl⟩, bz_krd (by decide +kernel), bz_krd (by decide +kernel), ?_⟩, ⟨6, fun _ _ => 0, Or.inl rfl, bz_krd (by decide +kernel), bz_krd (by decide +kernel), wf0, ⟨bz_krd (by decide +kernel), fun f f0 f1 => by have : f < 0 := f1; omega⟩, ⟨bz_krd (by decide +kernel), fun f f0 f1 => by have : f < 0 := f1; omega⟩⟩, ?_, ?_⟩
  · rw [bz_neg o2 o4]
    unfold kz_h0
    rw [if_neg o4, if_neg (by omega), if_neg (by omega), if_neg o3]
  · have e : bz_ev (kz_h0 ad sz L xs) bz_LL 2 1 = 0 := bz_krd (by decide +kernel)
    refine ⟨by rw [e]; omega, by rw [e]; omega, by rw [e]; exact bz_krd (by decide +kernel), fun k k0 k1 => by rw [e] at k1; omega⟩
  · have e : bz_ev (kz_h0 ad sz L xs) bz_LL 63 2 = 0 := bz_krd (by decide +kernel)
    refine ⟨by rw [e]; omega, by rw [e]; omega, by rw [e]; exact bz_krd (by decide +kernel), fun k k0 k1 => by rw [e] at k1; omega⟩
  · rw [bz_krd (l := bz_LL) (a := 1) (b := 8) (v := 0) (by decide +kernel), bz_krd (l := bz_LL) (a := 67) (b := 4) (v := 0) (by decide +kernel)]
theorem bz_S0 (ad : Int → Nat) (sz L : Nat) (xs : Nat → Int32) : bz_Scr (bz_ev (kz_h0 ad sz L xs) bz_LL) L := by
  refine ⟨?_, fun j j0 j1 => ?_⟩
  · rw [bz_neg (by omega) (by omega)]
    rfl
  · rw [bz_neg (by omega) (by omega)]
    unfold kz_h0
    rw [if_neg (by omega), if_neg (by omega), if_neg (by omega), if_pos rfl, if_neg (by omega), if_neg (by omega)]
    exact ⟨Int32.le_toInt _, Int.le_of_lt_add_one (Int32.toInt_lt _)⟩
/-- THE PURE STATEMENT, out of the readers -/
theorem bz_BofRd (rd : bz_Rd) : kz_B := by
  intro ad sz L xs hL
  have hL' : L ≤ 1536 := hL
  obtain ⟨h', e⟩ := bz_loop rd hL' 512 3487 0 _ (bz_J0 ad sz L xs) (bz_S0 ad sz L xs) (by omega) (by omega) (by omega)
  refine ⟨h', ?_⟩
  rw [bz_con (show kz_h0 ad sz L xs 0 0 = 0 from rfl)]
  exact e
