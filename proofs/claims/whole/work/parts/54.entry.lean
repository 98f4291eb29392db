/-! What holds of the tables and of the old cells at the law's entry. -/
def kz_pcT : List Cond → List Nat → Bool
  | [], _ => true
  | _ :: _, [] => false
  | w :: ws, i :: is => decide (tables_1[i]? = some w) && kz_pcT ws is
theorem kz_pcT_ok : ∀ (ws : List Cond) (is : List Nat), kz_pcT ws is = true → ∀ w ∈ ws, w ∈ tables_1
  | [], _, _, _, hw => by cases hw
  | _ :: _, [], h, _, _ => by cases h
  | w :: ws, i :: is, h, v, hv => by
    simp only [kz_pcT, Bool.and_eq_true, decide_eq_true_eq] at h
    rcases List.mem_cons.mp hv with z | z
    · rw [z]; exact List.mem_of_getElem? h.1
    · exact kz_pcT_ok ws is h.2 v z
def kz_iZ : List Nat := [1707, 116, 1708, 864, 814, 742, 476, 1709, 891, 1710, 828, 1711, 1712, 912, 914, 1713, 1714, 1715, 1716, 1717, 1718, 1719, 1720, 1721, 1722, 1723, 1724, 1725, 1726, 1727, 575, 408, 847, 589]
def kz_iI : List Nat := [6, 6, 6, 6, 6, 6, 6, 6, 6, 6, 6, 6, 6, 6, 6, 6, 6, 6, 6, 6, 6, 6, 6, 6, 6, 6, 6, 6, 6, 6, 6, 13, 21, 16]
def kz_iS : List Nat := [709, 715, 752, 753, 754, 771, 772, 960, 995, 1011, 1029, 1040, 1041, 1052, 1053, 1058, 1059, 1075, 1705, 1706, 1728, 1729, 1730, 1731, 1732, 1733, 1734, 1735, 1736, 1737, 1738, 1739, 1740, 1741, 1742, 1743, 1744, 1745, 1746, 1747, 1748, 1749, 1750, 1751, 1752, 1753, 1754, 1755]
set_option maxRecDepth 100000 in
theorem kz_iZ_ok : kz_pcT (kz_st.map fun q => .laysStatic q.1 q.2.1 q.2.2.1) kz_iZ = true := by decide +kernel
set_option maxRecDepth 100000 in
theorem kz_iI_ok : kz_pcT (kz_st.map fun q => .initialized q.1) kz_iI = true := by decide +kernel
set_option maxRecDepth 100000 in
theorem kz_iS_ok : kz_pcT (kz_ss.map fun q => .stringRef q.1 q.2.1 q.2.2.1) kz_iS = true := by decide +kernel
set_option maxRecDepth 100000 in
theorem kz_iQ_ok : kz_pcT [.laysStatic "jdk/internal/util/Preconditions" "SIOOBE_FORMATTER" "Ljava/util/function/BiFunction;", .initialized "jdk/internal/util/Preconditions", .laysStatic "java/lang/Throwable" "UNASSIGNED_STACK" "[Ljava/lang/StackTraceElement;", .laysStatic "java/lang/Throwable" "SUPPRESSED_SENTINEL" "Ljava/util/List;"] [605, 18, 946, 948] = true := by decide +kernel
theorem kz_isr {args : Array Value} {s : State} {t : Term} (h : (Cond.isRef t).before args s = true) : ∃ o, t.eval args s none [] s = some (va_rf o) := by
  cases hv : t.eval args s none [] s with
  | none => simp [Cond.before, Cond.holds, Cond.value, hv] at h
  | some w =>
    simp only [Cond.before, Cond.holds, Cond.value, hv] at h
    cases w with
    | null => exact ⟨none, rfl⟩
    | ref t => exact ⟨some t, rfl⟩
    | _ => simp at h
theorem kz_LZof {args : Array Value} {s : State} {C n d : String} {A : Nat → Prop} (hl : (Cond.laysStatic C n d).before args s = true) (h : (Cond.isRef (.static C n d)).before args s = true) (hA : ∀ a : Nat, a < s.heap.size → ¬ A a) : qz_LZ C n d A s s.heap := by
  obtain ⟨o, hv⟩ := kz_isr h
  obtain ⟨c, k, i, f, a, cell, hc, hi, hst, ha, hcell, hs, hcls, hlt, hty⟩ := Cond.laysStatic_spec hl
  obtain ⟨hst', a', cell', ha', hcell', -, hslot⟩ := Term.static_spec hi hv
  cases ha.symm.trans ha'
  cases hcell.symm.trans hcell'
  exact ⟨o, c, k, i, f, a, cell, hc, hi, hst, ha, hcell, hs, hcls, hlt, hty, hslot, hA a (Array.getElem?_eq_some_iff.mp hcell).1⟩
/-- which static an old object lies in -/
theorem kz_st_tm : ∀ q ∈ kz_st, (q.2.2.2.1 = 3 ∧ q.1 = "java/lang/String" ∧ q.2.1 = "COMPACT_STRINGS" ∧ q.2.2.1 = "Z" ∧ q.2.2.2.2 = 1) ∨ (10 ≤ q.2.2.2.1 ∧ -126 ≤ q.2.2.2.2 ∧ q.2.2.2.2 ≤ -1 ∧ kz_tm q.2.2.2.2 = .static q.1 q.2.1 q.2.2.1) := by decide +kernel
theorem kz_ss_tm : ∀ q ∈ kz_ss, -126 ≤ q.2.2.2 ∧ q.2.2.2 ≤ -1 ∧ (kz_tm q.2.2.2 = .string q.1 q.2.1 ∨ Cond.eq (kz_tm q.2.2.2) (.string q.1 q.2.1) ∈ kz_wot) := by decide +kernel
theorem kz_nc_in : ∀ q ∈ kz_nc, Cond.not (.castable q.1 q.2) ∈ kz_wot := by decide +kernel
/-- the place that a field's name gives is the one that the class's table says -/
theorem kz_sn {args : Array Value} {s : State} {t : Term} {O f d : String} {v : Value} {a i : Nat} (hS : SlotIs s O f d i) (ht : t.eval args s none [] s = some (.ref a)) (hv : (Term.field t O f d).eval args s none [] s = some v) : qz_SN s O f d i := by
  obtain ⟨cf, k, fi, fd, cell, g1, g2, -⟩ := kz_fd ht hv
  obtain ⟨c9, k9, i9, d9, s1, s2⟩ := hS
  cases g1.symm.trans s1
  exact ⟨_, _, _, _, s1, s2, g2⟩
theorem kz_En {s : State} {b L : Nat} {xs : Nat → Int32} {ad : Int → Nat} {D : va_G} {dA : Nat → ClassId} (hall : ∀ w ∈ tables_1, w.before #[Value.ref b] s = true) (hn : ∀ w ∈ kz_wnw, w.before #[Value.ref b] s = true) (hD : ∀ (c : Nat) (q : vw_C), kz_cl[c]? = some q → kz_P s c q (D.1 c, D.2 c)) (hdA : ∀ (k : Nat) (q : ClassId × FieldType), (qz_tys dA)[k]? = some q → ArrOfT s q.1 q.2 ∧ va_RA s q.1 q.2) (had : ∀ x : Int, -126 ≤ x → x ≤ -1 → (kz_tm x).eval #[Value.ref b] s none [] s = some (.ref (ad x))) :
    qz_E D dA s.heap.size (kz_h0 ad s.heap.size L xs) s := by
  have hA : ∀ a : Nat, a < s.heap.size → ¬ qz_A s.heap.size a := fun a h z => absurd h (Nat.not_lt.mpr z)
  refine ⟨Nat.le_refl _, ⟨fun c q hq => hD c q hq, hdA⟩, ⟨fun w hw => va_Nw.of (qz_nst_tab (kz_NTok w hw)) (hall w (List.mem_filter.mp hw).1), ⟨fun C hC => ?_, fun q hq => va_Nc.of (hn _ (kz_m_ot (kz_nc_in q hq)))⟩, fun k hk q hq j hj => ?_⟩, ⟨fun q hq => ?_, fun q hq => ?_⟩, ⟨fun q hq => ?_, fun q hq => ?_⟩, fun x y h1 h2 h3 h4 h5 h6 h7 => ?_, kz_h0_kd ad s.heap.size L xs⟩
  · simp only [kz_ao, List.mem_cons, List.not_mem_nil, or_false] at hC
    rcases hC with rfl | rfl | rfl | rfl
    · exact va_AO.of (hall _ (kz_in1 (List.mem_of_getElem? (i := 60) rfl)))
    · exact va_AO.of (hall _ (kz_in1 (List.mem_of_getElem? (i := 62) rfl)))
    · exact va_AO.of (hall _ (kz_in1 (List.mem_of_getElem? (i := 160) rfl)))
    · exact va_AO.of (hall _ (kz_in2 (List.mem_of_getElem? (i := 16) rfl)))
  · have hP := (hD k q hq).1 j hj
    simp only [kz_kK, List.mem_cons, List.not_mem_nil, or_false] at hk
    rcases hk with rfl | rfl
    · cases (show kz_cl[7]? = some ("StackAssembler$Op", kz_T7, 7) from rfl).symm.trans hq
      have ht := had (-1) (by omega) (by omega)
      rw [show kz_tm (-1) = kz_opT 0 from rfl] at ht
      cases j with
      | zero =>
        obtain ⟨a, ha, -⟩ := kz_ev_ex (hn _ (kz_m_st (i := kz_opw.getD 0 0) (kz_opw_lt 0 (by decide)) (List.mem_append_left _ (List.mem_of_getElem? (i := 0) rfl))))
        exact kz_sn hP ht (kz_opW hn (i := 0) (by decide) ha)
      | succ j => exact kz_sn hP ht (kz_opE hn (i := 0) (by decide) j (Nat.lt_of_succ_lt_succ hj))
    · cases (show kz_cl[13]? = some ("java/lang/String", kz_T13, 2) from rfl).symm.trans hq
      have ht := had (-35) (by omega) (by omega)
      rw [show kz_tm (-35) = kz_sT 0 from rfl] at ht
      match j, hj with
      | 0, _ =>
        obtain ⟨a, ha, -⟩ := kz_ev_len (hn _ (kz_m_st (i := 0) (by decide) (List.mem_append_left _ (List.mem_of_getElem? (i := 3) rfl))))
        exact kz_sn hP ht ha
      | 1, _ => exact kz_sn hP ht (va_eqt (hn _ (kz_m_st (i := 0) (by decide) (List.mem_append_left _ (List.mem_of_getElem? (i := 1) rfl)))))
      | n + 2, h => exact absurd h (by show ¬ n + 2 < 2; omega)
  · have hl := hall _ (kz_pcT_ok _ _ kz_iZ_ok _ (List.mem_map.mpr ⟨q, hq, rfl⟩))
    have hi := hall _ (kz_pcT_ok _ _ kz_iI_ok _ (List.mem_map.mpr ⟨q, hq, rfl⟩))
    rcases kz_st_tm q hq with ⟨e1, e2, e3, e4, e5⟩ | ⟨e1, e2, e3, e4⟩
    · have hv := va_eqi (hn _ (kz_m_ot (List.mem_of_getElem? (i := 9) rfl)))
      rw [← e2, ← e3, ← e4] at hv
      rw [e1, e5]
      exact va_Zof hl hi hv hA
    · have hv := had _ e2 e3
      rw [e4] at hv
      have e : qz_tv (kz_h0 ad s.heap.size L xs) q.2.2.2.1 q.2.2.2.2 = .ref (ad q.2.2.2.2) := by
        unfold qz_tv qz_rf
        rw [if_neg (by omega), if_neg (by omega), if_neg (by omega), kz_h0_ad]
        rfl
      rw [e]
      exact va_Zof hl hi hv hA
  · simp only [kz_so, List.mem_cons, List.not_mem_nil, or_false] at hq
    subst hq
    obtain ⟨o, ho⟩ := kz_isr (hn _ (kz_m_ot (List.mem_of_getElem? (i := 6) rfl)))
    exact ⟨o, va_Zof (hall _ (kz_pcT_ok _ _ kz_iQ_ok _ (List.mem_of_getElem? (i := 0) rfl))) (hall _ (kz_pcT_ok _ _ kz_iQ_ok _ (List.mem_of_getElem? (i := 1) rfl))) ho hA⟩
  · have hr := hall _ (kz_pcT_ok _ _ kz_iS_ok _ (List.mem_map.mpr ⟨q, hq, rfl⟩))
    obtain ⟨e2, e3, e4⟩ := kz_ss_tm q hq
    have hv := had _ e2 e3
    rw [kz_h0_ad]
    rcases e4 with e4 | e4
    · rw [e4] at hv
      exact vk_R.of hr hv
    · exact vk_R.of hr (va_eqR (hn _ (kz_m_ot e4)) hv)
  · simp only [kz_sl, List.mem_cons, List.not_mem_nil, or_false] at hq
    rcases hq with rfl | rfl
    · exact kz_LZof (hall _ (kz_pcT_ok _ _ kz_iQ_ok _ (List.mem_of_getElem? (i := 2) rfl))) (hn _ (kz_m_ot (List.mem_of_getElem? (i := 7) rfl))) hA
    · exact kz_LZof (hall _ (kz_pcT_ok _ _ kz_iQ_ok _ (List.mem_of_getElem? (i := 3) rfl))) (hn _ (kz_m_ot (List.mem_of_getElem? (i := 8) rfl))) hA
  · have k7 : ∀ z : Int, -126 ≤ z → z ≤ -1 → kz_h0 ad s.heap.size L xs z (-2) = 7 → -30 ≤ z := by
      intro z z1 z2 z3
      rw [kz_h0_kd ad s.heap.size L xs z z1 z2] at z3
      unfold kz_kc at z3
      by_cases c1 : -30 ≤ z
      · exact c1
      rw [if_neg c1] at z3
      split at z3
      · omega
      split at z3
      · omega
      split at z3 <;> omega
    have i1 := k7 x h1 h2 h5
    have i2 := k7 y h3 h4 h6
    rw [kz_h0_ad, kz_h0_ad] at h7
    have od : ∀ z : Int, -30 ≤ z → z ≤ -1 → (Term.field (kz_tm z) "java/lang/Enum" "ordinal" "I").eval #[Value.ref b] s none [] s = some (.int (Int32.ofInt (-z - 1))) := by
      intro z z1 z2
      have e := kz_opE hn (i := (-z - 1).toNat) (by omega) 5 (by omega)
      have e' : kz_ov (-z - 1).toNat 5 = -z - 1 := by
        have key : ∀ i : Nat, i < 30 → kz_ov i 5 = (i : Int) := by decide +kernel
        rw [key _ (by omega)]
        omega
      rw [e'] at e
      have e2 : kz_tm z = kz_opT (-z - 1).toNat := by
        unfold kz_tm
        rw [if_pos z1]
      rw [e2]
      exact e
    have a1 := had x (by omega) (by omega)
    have a2 := had y (by omega) (by omega)
    obtain ⟨cf, k, fi, fd, cell, g1, g2, g3, g4, g5, g6⟩ := kz_fd a1 (od x i1 h2)
    obtain ⟨cf', k', fi', fd', cell', f1, f2, f3, f4, f5, f6⟩ := kz_fd a2 (od y i2 h4)
    cases g1.symm.trans f1
    rw [h7] at g3
    cases g3.symm.trans f3
    have e := g6.symm.trans f6
    have e1 : Int32.ofInt (-x - 1) = Int32.ofInt (-y - 1) := by injection e with e; injection e
    have e2 := congrArg Int32.toInt e1
    rw [Int32.toInt_ofInt_of_le (by omega) (by omega), Int32.toInt_ofInt_of_le (by omega) (by omega)] at e2
    omega
