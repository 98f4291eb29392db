/-! The machine of numbers: a heap is a function of object number and place; ints, longs and references are numbers. Place -1: an array's length; -2: the object's kind; -3: its address. Object 0 is null; (0, 0): how many objects were made, (0, 1): the size of the machine's heap. Numbers below zero: what was there before the law began. -/
abbrev qz_H : Type := Int → Int → Int
abbrev qz_R : Type := Int × qz_H
def qz_up (h : qz_H) (o i v : Int) : qz_H := fun a b => if a = o ∧ b = i then v else h a b
def qz_bn {α β : Type} (a : α) (f : α → β) : β := f a
def qz_ck (c : Prop) [Decidable c] (t : Option qz_R) : Option qz_R := if c then t else none
def qz_bc (o : Option qz_R) (f : Int → qz_H → Option qz_R) : Option qz_R := match o with
  | none => none
  | some r => f r.1 r.2
def qz_nw (h : qz_H) (k n : Int) : qz_H := fun a b => if a = 0 then (if b = 0 then h 0 0 + 1 else if b = 1 then h 0 1 + 1 else h 0 b) else if a = h 0 0 + 1 then (if b = -1 then n else if b = -2 then k else if b = -3 then h 0 1 else 0) else h a b
def qz_w (z : Int) : Int := (Int32.ofInt z).toInt
def qz_x (z : Int) : Int := (Int64.ofInt z).toInt
/-- a value on the stack or in a local: an int, a long, a reference (whether it is known not to be null, its kind, its number), nothing -/
abbrev qz_V : Type := Int ⊕ (Int ⊕ ((Bool × Nat × Int) ⊕ Option (Option Nat)))
def qz_i (x : Int) : qz_V := .inl x
def qz_j (x : Int) : qz_V := .inr (.inl x)
def qz_r (b : Bool) (k : Nat) (x : Int) : qz_V := .inr (.inr (.inl (b, k, x)))
def qz_u : qz_V := .inr (.inr (.inr none))
/-- a reference of which nothing is known -/
def qz_o (o : Option Nat) : qz_V := .inr (.inr (.inr (some o)))
def qz_ad (h : qz_H) (x : Int) : Nat := (h x (-3)).toNat
def qz_rf (h : qz_H) (x : Int) : Option Nat := if x = 0 then none else some (qz_ad h x)
def qz_cv (h : qz_H) (v : qz_V) : Value := match v with
  | .inl x => .int (Int32.ofInt x)
  | .inr (.inl x) => .long (Int64.ofInt x)
  | .inr (.inr (.inl q)) => va_rf (qz_rf h q.2.2)
  | .inr (.inr (.inr q)) => va_rf (q.getD none)
/-- x is an object of kind k -/
def qz_ok (h : qz_H) (k : Nat) (x : Int) : Prop := ((1 ≤ x ∧ x ≤ h 0 0) ∨ (-(kz_nC : Int) ≤ x ∧ x ≤ -1)) ∧ h x (-2) = (k : Int)
def qz_32 (x : Int) : Prop := -2147483648 ≤ x ∧ x ≤ 2147483647
def qz_64 (x : Int) : Prop := -9223372036854775808 ≤ x ∧ x ≤ 9223372036854775807
def qz_b32 (n : Int) : Bool := decide (-2147483648 ≤ n) && decide (n ≤ 2147483647)
def qz_vo (h : qz_H) (v : qz_V) : Prop := match v with
  | .inl x => qz_32 x
  | .inr (.inl x) => qz_64 x
  | .inr (.inr (.inl q)) => (q.1 = false ∧ q.2.2 = 0) ∨ qz_ok h q.2.1 q.2.2
  | .inr (.inr (.inr _)) => True
/-- types: 1 int, 2 long, 3 boolean, 4 char, 5 byte, 10 + k a reference of kind k -/
def qz_tv (h : qz_H) (t : Nat) (x : Int) : Value := if t = 2 then .long (Int64.ofInt x) else if t < 10 then .int (Int32.ofInt x) else va_rf (qz_rf h x)
def qz_rg (h : qz_H) (t : Nat) (x : Int) : Prop := if t = 2 then qz_64 x else if t = 3 then (x = 0 ∨ x = 1) else if t = 4 then (0 ≤ x ∧ x ≤ 65535) else if t = 5 then (-128 ≤ x ∧ x ≤ 127) else if t < 10 then qz_32 x else (x = 0 ∨ qz_ok h (t - 10) x)
/-- what a cell holds, and what the heap of numbers says of it -/
def qz_ob (D : va_G) (h : qz_H) (H : Heap) (x : Int) (k : Nat) : Prop := ∃ cell : Cell, H[qz_ad h x]? = some cell ∧ cell.cls = D.1 k ∧ cell.vm ≠ .unknown ∧ cell.vm.isStatics = false ∧ (0 < x → cell.vm = .none) ∧ ∀ j : Nat, j < kz_N k → cell.slots[D.2 k j]? = some (qz_tv h (kz_ft k j) (h x j))
def qz_ay (dA : Nat → ClassId) (U : State) (h : qz_H) (H : Heap) (x : Int) (k : Nat) : Prop := ∃ cell : Cell, H[qz_ad h x]? = some cell ∧ U.isArrayOf cell (kz_aT k) ∧ cell.vm ≠ .unknown ∧ (0 < x → cell.vm = .none ∧ cell.cls = dA k) ∧ (h x (-1)).toNat ≤ cell.slots.size ∧ cell.slots.size.toInt32 = Int32.ofInt (h x (-1)) ∧ ∀ j : Nat, j < (h x (-1)).toNat → cell.slots[j]? = some (qz_tv h (kz_ae k) (h x j))
def qz_ob2 (D : va_G) (h : qz_H) (H : Heap) (x : Int) (k : Nat) : Prop := qz_ob D h H x k ∧ ∀ j : Nat, j < kz_N k → qz_rg h (kz_ft k j) (h x j)
def qz_ay2 (dA : Nat → ClassId) (U : State) (h : qz_H) (H : Heap) (x : Int) (k : Nat) : Prop := qz_ay dA U h H x k ∧ 0 ≤ h x (-1) ∧ h x (-1) ≤ 2147483647 ∧ ∀ j : Nat, (j : Int) < h x (-1) → qz_rg h (kz_ae k) (h x j)
/-- one heap of numbers goes on from another: what was an object stays one, at its place -/
def qz_ex (h h' : qz_H) : Prop := ∀ (k : Nat) (x : Int), qz_ok h k x → qz_ok h' k x ∧ h' x (-3) = h x (-3)
/-- the world: every object's cell is as the heap of numbers says -/
def qz_W (D : va_G) (dA : Nat → ClassId) (B0 : Nat) (hc h0 : qz_H) (U : State) (h : qz_H) (H : Heap) : Prop :=
  (0 ≤ h 0 0 ∧ h 0 1 = (H.size : Int)) ∧ (∀ (x : Int) (k : Nat), qz_ok h k x → (k < 40 → qz_ob2 D h H x k) ∧ (40 ≤ k → qz_ay2 dA U h H x k)) ∧
  (∀ x : Int, 1 ≤ x → x ≤ h 0 0 → B0 ≤ qz_ad h x ∧ (0 ≤ h x (-2) ∧ h x (-2) < 99)) ∧ (∀ x y : Int, 1 ≤ x → x ≤ h 0 0 → 1 ≤ y → y ≤ h 0 0 → qz_ad h x = qz_ad h y → x = y) ∧ (∀ x : Int, -(kz_nC : Int) ≤ x → x ≤ -1 → qz_ad h x < B0) ∧ (∀ x : Int, x ≤ -1 → ∀ j : Int, h x j = hc x j) ∧ qz_ex h0 h
def qz_A (B0 : Nat) : Nat → Prop := fun q => B0 ≤ q
/-- what holds of the tables and of what was there before, at a method's entry -/
def qz_tys (dA : Nat → ClassId) : List (ClassId × FieldType) := kz_ak.map fun k => (dA k, kz_aT k)
/-- a field of an object that was there before: where it lies -/
def qz_SN (U : State) (C f d : String) (i : Nat) : Prop := ∃ cf kf fi fd, U.fieldFound? C f d = some (cf, kf, fi, fd) ∧ fd.slot = i ∧ fd.isStatic = false
theorem qz_SN.moved {u E : State} {C f d : String} {i : Nat} (hvm : u.vm.Alike E.vm) (h : qz_SN u C f d i) : qz_SN E C f d i := by
  obtain ⟨cf, kf, fi, fd, hi, hs⟩ := h
  obtain ⟨kf', hi', -⟩ := State.fieldFound?_setVm (s := u) hvm hi
  exact ⟨cf, kf', fi, fd, by simpa only [State.fieldFound?, State.vm_setVm] using hi', hs⟩
/-- a static reference of which nothing is known, laid by its class -/
def qz_LZ (C n d : String) (A : Nat → Prop) (U : State) (H : Heap) : Prop := ∃ (o : Option Nat) (c : ClassId) (k : Class) (i : Nat) (f : Field) (a : Nat) (cell : Cell), U.vm.findClass C = some c ∧ U.fieldFound? C n d = some (c, k, i, f) ∧ f.isStatic = true ∧ k.statics = some a ∧ H[a]? = some cell ∧ cell.vm.isStatics = true ∧ cell.cls = c ∧ f.slot < cell.slots.size ∧ k.staticTypes[f.slot]? = some f.type ∧ cell.slots[f.slot]? = some (va_rf o) ∧ ¬ A a
theorem qz_LZ.moved {C n d : String} {A : Nat → Prop} {u U : State} {H : Heap} (hvm : u.vm.Alike U.vm) (h : qz_LZ C n d A u H) : qz_LZ C n d A U H := by
  obtain ⟨o, c, k, i, f, a, cell, h1, h2, h3, h4, h5, h6, h7, h8, h9, h10, h11⟩ := h
  obtain ⟨k', hi', hek⟩ := State.fieldFound?_setVm (s := u) hvm h2
  exact ⟨o, c, k', i, f, a, cell, by rw [hvm.findClass]; exact h1, by simpa only [State.fieldFound?, State.vm_setVm] using hi', h3, by rw [hek]; exact h4, h5, h6, h7, h8, by rw [hek]; exact h9, h10, h11⟩
theorem qz_LZ.kept {C n d : String} {A : Nat → Prop} {U : State} {H H1 : Heap} (h : qz_LZ C n d A U H) (hq : ∀ a : Nat, a < H.size → ¬ A a → H1[a]? = H[a]?) : qz_LZ C n d A U H1 := by
  obtain ⟨o, c, k, i, f, a, cell, h1, h2, h3, h4, h5, h6, h7, h8, h9, h10, h11⟩ := h
  exact ⟨o, c, k, i, f, a, cell, h1, h2, h3, h4, by rw [hq a (Array.getElem?_eq_some_iff.mp h5).1 h11]; exact h5, h6, h7, h8, h9, h10, h11⟩
theorem qz_LZ.ref {C n d : String} {A : Nat → Prop} {U : State} {args : Array Value} (h : qz_LZ C n d A U U.heap) : (Cond.isRef (.static C n d)).before args U = true := by
  obtain ⟨o, c, k, i, f, a, cell, h1, h2, h3, h4, h5, h6, h7, h8, h9, h10, h11⟩ := h
  have e : (Term.static C n d).eval args U none [] U = some (va_rf o) := by
    simp [Term.eval, State.fieldNamed?, h2, h3, h4, h5, h6, h10]
  cases o <;> simp [Cond.before, Cond.holds, Cond.value, e, va_rf]
theorem qz_LZ.lays {C n d : String} {A : Nat → Prop} {U : State} {args : Array Value} (h : qz_LZ C n d A U U.heap) : (Cond.laysStatic C n d).before args U = true := by
  obtain ⟨o, c, k, i, f, a, cell, h1, h2, h3, h4, h5, h6, h7, h8, h9, h10, h11⟩ := h
  exact Cond.laysStatic_of h1 h2 h3 h4 h5 h6 h7 h8 h9
def qz_kd (hc : qz_H) : Prop := ∀ x : Int, -(kz_nC : Int) ≤ x → x ≤ -1 → hc x (-2) = (kz_kc x : Int)
/-- the classes and the arrays' classes; of the kinds that are never made anew it is not known that they are ordinary -/
def qz_K (D : va_G) (tys : List (ClassId × FieldType)) (U : State) : Prop := (∀ (c : Nat) (q : vw_C), kz_cl[c]? = some q → (∀ k, k < q.2.2 → SlotIs U (q.2.1 k).1 (q.2.1 k).2.1 (q.2.1 k).2.2.1 (D.2 c k)) ∧ U.vm.findClass q.1 = some (D.1 c) ∧ ∃ kC : Class, U.vm.classes[D.1 c]? = some kC ∧ (c ∈ kz_kK ∨ kC.kind = .ordinary)) ∧ ∀ (k : Nat) (q : ClassId × FieldType), tys[k]? = some q → ArrOfT U q.1 q.2 ∧ va_RA U q.1 q.2
theorem qz_K.moved {D : va_G} {tys : List (ClassId × FieldType)} {u U : State} (hvm : u.vm.Alike U.vm) (h : qz_K D tys u) : qz_K D tys U := by
  refine ⟨fun c q hq => ?_, fun k q hk => ⟨arrOfT_moved hvm (h.2 k q hk).1, (h.2 k q hk).2.moved hvm⟩⟩
  obtain ⟨h1, h2, kC, h3, h4⟩ := h.1 c q hq
  obtain ⟨k', hk', he⟩ := hvm.2.2 _ _ h3
  exact ⟨fun k hk => slotIs_moved hvm (h1 k hk), by rw [hvm.findClass]; exact h2, k', hk', h4.imp id fun z => by rw [he]; exact z⟩
theorem qz_K.kn {D : va_G} {tys : List (ClassId × FieldType)} {U : State} (h : qz_K D tys U) {c : Nat} {q : vw_C} (hq : kz_cl[c]? = some q) (hn : c ∉ kz_kK) : u_Kn U q.1 q.2.1 q.2.2 (D.1 c) (D.2 c) := by
  obtain ⟨h1, h2, kC, h3, h4⟩ := h.1 c q hq
  exact ⟨h1, h2, kC, h3, h4.resolve_left hn⟩
theorem qz_asg (vm : Vm) (c : ClassId) : vm.assignable c c = true := by
  show vm.assignableAux (255 + 1) c c = true
  rw [Vm.assignableAux]
  simp
/-- a class that is not a kind of another -/
def qz_NC (U : State) (a b : String) : Prop := ∃ i j, U.vm.findClass a = some i ∧ U.vm.findClass b = some j ∧ U.vm.assignable i j = false
theorem qz_NC.moved {u U : State} {a b : String} (hvm : u.vm.Alike U.vm) (h : qz_NC u a b) : qz_NC U a b := by
  obtain ⟨i, j, h1, h2, h3⟩ := h
  exact ⟨i, j, by rw [hvm.findClass]; exact h1, by rw [hvm.findClass]; exact h2, by rw [hvm.assignable]; exact h3⟩
def qz_E (D : va_G) (dA : Nat → ClassId) (B0 : Nat) (hc : qz_H) (U : State) : Prop :=
  B0 ≤ U.heap.size ∧ qz_K D (qz_tys dA) U ∧ ((∀ w ∈ kz_NT, va_Nw w U) ∧ ((∀ C ∈ kz_ao, va_AO C U) ∧ ∀ q ∈ kz_nc, qz_NC U q.1 q.2) ∧ ∀ k ∈ kz_kK, ∀ q : vw_C, kz_cl[k]? = some q → ∀ j, j < q.2.2 → qz_SN U (q.2.1 j).1 (q.2.1 j).2.1 (q.2.1 j).2.2.1 (D.2 k j)) ∧ ((∀ q ∈ kz_st, va_Z q.1 q.2.1 q.2.2.1 (qz_tv hc q.2.2.2.1 q.2.2.2.2) (qz_A B0) U U.heap) ∧ ∀ q ∈ kz_so, ∃ o, va_Z q.1 q.2.1 q.2.2 (va_rf o) (qz_A B0) U U.heap) ∧ ((∀ q ∈ kz_ss, vk_R q.1 q.2.1 q.2.2.1 (qz_ad hc q.2.2.2) U) ∧ ∀ q ∈ kz_sl, qz_LZ q.1 q.2.1 q.2.2 (qz_A B0) U U.heap) ∧ (∀ x y : Int, -(kz_nC : Int) ≤ x → x ≤ -1 → -(kz_nC : Int) ≤ y → y ≤ -1 → hc x (-2) = (kz_kI : Int) → hc y (-2) = (kz_kI : Int) → qz_ad hc x = qz_ad hc y → x = y) ∧ qz_kd hc
/-- a method: name, code, locals, what it answers (the machine's word, mine), room -/
abbrev qz_Y : Type := MethodName × ByteArray × Nat × Option FieldType × Nat × Room
def qz_ws (Y : qz_Y) : List Cond := Cond.code Y.1 Y.2.1 Y.2.2.1 Y.2.2.2.1 :: kz_TT
abbrev qz_G : Type := Program × Launch × Env × State × MethodId × Array Value × List Frame × Method × Code × va_G × (Nat → ClassId) × Nat × qz_H × qz_H
def qz_ca (cc : ByteArray) : Nat → List (Instr × Nat) → Prop
  | _, [] => True
  | pc, i :: is => decode cc pc = .ok i ∧ qz_ca cc (pc + i.2) is
def qz_cab (cc : ByteArray) : Nat → List (Instr × Nat) → Bool
  | _, [] => true
  | pc, i :: is => decide (decode cc pc = .ok i) && qz_cab cc (pc + i.2) is
theorem qz_cab_ok {cc : ByteArray} : ∀ (is : List (Instr × Nat)) (pc : Nat), qz_cab cc pc is = true → qz_ca cc pc is
  | [], _, _ => trivial
  | i :: is, pc, h => by
    simp only [qz_cab, Bool.and_eq_true, decide_eq_true_eq] at h
    exact ⟨h.1, qz_cab_ok is _ h.2⟩
def qz_sr (h : qz_H) : List qz_V → List Value → Prop
  | [], s => s = []
  | v :: st, s => ∃ r, s = qz_cv h v :: r ∧ qz_vo h v ∧ qz_sr h st r
def qz_lr (h : qz_H) (ls : List qz_V) (lsC : Array Slot) (n : Nat) : Prop := ∃ lv : List (Nat × Value), lv_has lsC n lv ∧ ∀ (i : Nat) (v : qz_V), ls[i]? = some v → v = qz_u ∨ (qz_vo h v ∧ (i, qz_cv h v) ∈ lv)
def qz_rv (Y : qz_Y) (r : qz_R) : Option Value := if Y.2.2.2.2.1 = 0 then none else some (qz_tv r.2 Y.2.2.2.2.1 r.1)
def qz_Q (Y : qz_Y) (D : va_G) (dA : Nat → ClassId) (B0 : Nat) (hc h0 : qz_H) (r : qz_R) : Array Value → State → Outcome → State → Prop := fun _ st oc t =>
  (oc = .returned (qz_rv Y r) ∧ qz_W D dA B0 hc h0 t r.2 t.heap ∧ (Y.2.2.2.2.1 ≠ 0 → qz_rg r.2 Y.2.2.2.2.1 r.1)) ∧ va_F (qz_A B0) st t
/-- how a method ends that throws: r.1 says which exception -/
def qz_ET (D : va_G) (dA : Nat → ClassId) (B0 : Nat) (hc h0 : qz_H) (s : State) (mc ms : Nat) (r : qz_R) (o : Outcome) (t : State) : Prop :=
  (∃ a, o = .threw a ∧ ∃ ce, t.heap[a]? = some ce ∧ s.vm.findClass (kz_ex r.1) = some ce.cls ∧ ce.vm = .none ∧ s.vm.assignable ce.cls ce.cls = true) ∧ s.WarmedH t.vm ∧ (∃ L, s.sameButNew ({ t with vm := s.vm } : State) L mc ms ∧ ∀ q ∈ L, qz_A B0 q.base) ∧ qz_W D dA B0 hc h0 t r.2 t.heap ∧ va_F (qz_A B0) s t
def qz_FQ (Y : qz_Y) (below : List Frame) (D : va_G) (dA : Nat → ClassId) (B0 : Nat) (hc h0 : qz_H) (args : Array Value) (s : State) (r : qz_R) : State → Prop :=
  if Y.2.2.2.2.1 = 99 then (fun t => ∃ o, t.status = .running ∧ Ended t below o ∧ qz_ET D dA B0 hc h0 s Y.2.2.2.2.2.cells Y.2.2.2.2.2.slots r o t) else MQ below (qz_Q Y D dA B0 hc h0 r) args s Y.2.2.2.2.2.cells Y.2.2.2.2.2.slots (qz_A B0)
theorem qz_FQ_ret {Y : qz_Y} {below : List Frame} {D : va_G} {dA : Nat → ClassId} {B0 : Nat} {hc h0 : qz_H} {args : Array Value} {s : State} {r : qz_R} (h : Y.2.2.2.2.1 ≠ 99) : qz_FQ Y below D dA B0 hc h0 args s r = MQ below (qz_Q Y D dA B0 hc h0 r) args s Y.2.2.2.2.2.cells Y.2.2.2.2.2.slots (qz_A B0) := if_neg h
theorem qz_FQ_thr {Y : qz_Y} {below : List Frame} {D : va_G} {dA : Nat → ClassId} {B0 : Nat} {hc h0 : qz_H} {args : Array Value} {s : State} {r : qz_R} (h : Y.2.2.2.2.1 = 99) : qz_FQ Y below D dA B0 hc h0 args s r = (fun t => ∃ o, t.status = .running ∧ Ended t below o ∧ qz_ET D dA B0 hc h0 s Y.2.2.2.2.2.cells Y.2.2.2.2.2.slots r o t) := if_pos h
/-- the launch takes no stack traces -/
def qz_nt (l : Launch) : Prop := ∀ e, l.admits e → e.platform.stackTraces = false
def qz_X (Y : qz_Y) (G : qz_G) : Prop := match G with
  | (p, l, _, s, m, args, _, meth, c, D, dA, B0, hc, _) => p.tables.exec = Jvm.exec ∧ c.code = Y.2.1 ∧ c.maxLocals = Y.2.2.1 ∧ meth.sig.returnType = Y.2.2.2.1 ∧ (meth.locks = false ∧ qz_nt l) ∧ (meth.name = Y.1.name ∧ s.methodNamed? Y.1 = some m) ∧ s.vm.findClass Y.1.cls = some m.cls ∧ (∀ w ∈ kz_TT, w.before args s = true) ∧ qz_E D dA B0 hc s
/-- at this place, with these locals, this stack and this heap of numbers, what is left of the method does what t says -/
def qz_J (Y : qz_Y) (G : qz_G) (is : List (Instr × Nat)) (pc : Nat) (ls st : List qz_V) (h : qz_H) (cs sl : Nat) (t : Option qz_R) : Prop := match G with
  | (p, l, e, s, m, args, below, meth, c, D, dA, B0, hc, h0) => ∀ r, t = some r → qz_X Y G → ∀ (lsC : Array Slot) (stC : List Value) (H : Heap) (locs : List Loc), qz_ca Y.2.1 pc is → qz_lr h ls lsC Y.2.2.1 → qz_sr h st stC → qz_W D dA B0 hc h0 s h H → va_S (qz_A B0) s.heap H locs →
    W p l e Y.2.2.2.2.2 s m args below meth c H locs cs sl (qz_FQ Y below D dA B0 hc h0 args s r) (F0 m pc lsC stC)
/-- a method's contract: on these values and this heap of numbers it does what t says -/
def qz_P (D : va_G) (dA : Nat → ClassId) (B0 : Nat) (hc : qz_H) (vs : List qz_V) (h : qz_H) : Array Value → State → Prop := fun a U => a = (vs.map (qz_cv h)).toArray ∧ (∀ v ∈ vs, qz_vo h v) ∧ qz_W D dA B0 hc h U h U.heap ∧ qz_E D dA B0 hc U
def qz_C (Y : qz_Y) (vs : List qz_V) (h : qz_H) (t : Option qz_R) : Prop := ∀ r, t = some r → ∀ (l : Launch), qz_nt l → ∀ (D : va_G) (dA : Nat → ClassId) (B0 : Nat) (hc : qz_H), Met l Y.1 (qz_ws Y) Y.2.2.2.2.2 (qz_P D dA B0 hc vs h) (qz_Q Y D dA B0 hc h r) Y.2.2.2.2.2.cells Y.2.2.2.2.2.slots (qz_A B0)
theorem qz_r32 (v : Int32) : qz_32 v.toInt := ⟨by have := v.le_toInt; omega, by have := v.toInt_lt; omega⟩
theorem qz_r64 (v : Int64) : qz_64 v.toInt := ⟨by have := v.le_toInt; omega, by have := v.toInt_lt; omega⟩
theorem qz_t32 {x : Int} (h : qz_32 x) : (Int32.ofInt x).toInt = x := Int32.toInt_ofInt_of_le (by have := h.1; omega) (by have := h.2; omega)
theorem qz_t64 {x : Int} (h : qz_64 x) : (Int64.ofInt x).toInt = x := Int64.toInt_ofInt_of_le (by have := h.1; omega) (by have := h.2; omega)
theorem qz_b32_ok {n : Int} (h : qz_b32 n = true) : qz_32 n := by
  simp only [qz_b32, Bool.and_eq_true, decide_eq_true_eq] at h
  exact h
theorem qz_e32 {x y : Int} (hx : qz_32 x) (hy : qz_32 y) : Int32.ofInt x = Int32.ofInt y ↔ x = y := ⟨fun h => by rw [← qz_t32 hx, ← qz_t32 hy, h], fun h => by rw [h]⟩
theorem qz_l32 {x y : Int} (hx : qz_32 x) (hy : qz_32 y) : Int32.ofInt x < Int32.ofInt y ↔ x < y := by rw [Int32.lt_iff_toInt_lt, qz_t32 hx, qz_t32 hy]
theorem qz_m32 {x y : Int} (hx : qz_32 x) (hy : qz_32 y) : Int32.ofInt x ≤ Int32.ofInt y ↔ x ≤ y := by rw [Int32.le_iff_toInt_le, qz_t32 hx, qz_t32 hy]
theorem qz_032 : qz_32 0 := ⟨by decide, by decide⟩
theorem qz_z0 : (0 : Int32) = Int32.ofInt 0 := by decide
theorem qz_e0 {x : Int} (hx : qz_32 x) : Int32.ofInt x = 0 ↔ x = 0 := by rw [qz_z0]; exact qz_e32 hx qz_032
theorem qz_l0 {x : Int} (hx : qz_32 x) : Int32.ofInt x < 0 ↔ x < 0 := by rw [qz_z0]; exact qz_l32 hx qz_032
theorem qz_g0 {x : Int} (hx : qz_32 x) : 0 < Int32.ofInt x ↔ 0 < x := by rw [qz_z0]; exact qz_l32 qz_032 hx
theorem qz_le0 {x : Int} (hx : qz_32 x) : Int32.ofInt x ≤ 0 ↔ x ≤ 0 := by rw [qz_z0]; exact qz_m32 hx qz_032
theorem qz_ge0 {x : Int} (hx : qz_32 x) : 0 ≤ Int32.ofInt x ↔ 0 ≤ x := by rw [qz_z0]; exact qz_m32 qz_032 hx
theorem qz_ck_some {c : Prop} [Decidable c] {t : Option qz_R} {r : qz_R} (h : qz_ck c t = some r) : c ∧ t = some r := by
  unfold qz_ck at h
  split at h
  · exact ⟨by assumption, h⟩
  · cases h
theorem qz_cvI (h : qz_H) (v : Int32) : qz_cv h (qz_i v.toInt) = .int v := by simp [qz_cv, qz_i]
theorem qz_cvJ (h : qz_H) (v : Int64) : qz_cv h (qz_j v.toInt) = .long v := by simp [qz_cv, qz_j]
def qz_c1 (v : qz_V) : Bool := match v with
  | .inl _ => true
  | .inr (.inr (.inl _)) => true
  | _ => false
theorem qz_cat (h : qz_H) {v : qz_V} (hv : qz_c1 v = true) : (qz_cv h v).category = 1 := by
  rcases v with x | x | q | q
  · rfl
  · cases hv
  · show (va_rf (qz_rf h q.2.2)).category = 1
    cases qz_rf h q.2.2 <;> rfl
  · cases hv
theorem qz_ex.vo {h h' : qz_H} (he : qz_ex h h') {v : qz_V} (hv : qz_vo h v) : qz_vo h' v ∧ qz_cv h' v = qz_cv h v ∨ (v = qz_u) := by
  rcases v with x | x | ⟨b, k, x⟩ | q
  · exact Or.inl ⟨hv, rfl⟩
  · exact Or.inl ⟨hv, rfl⟩
  · rcases hv with ⟨h1, h2⟩ | h1
    · have h2 : x = 0 := h2
      subst h2
      exact Or.inl ⟨Or.inl ⟨h1, rfl⟩, rfl⟩
    · obtain ⟨h3, h4⟩ := he k x h1
      refine Or.inl ⟨Or.inr h3, ?_⟩
      show va_rf (qz_rf h' x) = va_rf (qz_rf h x)
      unfold qz_rf qz_ad
      rw [h4]
  · cases q with
    | none => exact Or.inr rfl
    | some o => exact Or.inl ⟨trivial, rfl⟩
theorem qz_ex.vo' {h h' : qz_H} (he : qz_ex h h') {v : qz_V} (hv : qz_vo h v) : qz_vo h' v ∧ qz_cv h' v = qz_cv h v := by
  rcases he.vo hv with h1 | h1
  · exact h1
  · subst h1
    exact ⟨trivial, rfl⟩
theorem qz_ex.sr {h h' : qz_H} (he : qz_ex h h') : ∀ (st : List qz_V) (s : List Value), qz_sr h st s → qz_sr h' st s
  | [], _, hs => hs
  | v :: st, _, ⟨r, h1, h2, h3⟩ => ⟨r, by rw [(he.vo' h2).2]; exact h1, (he.vo' h2).1, he.sr st r h3⟩
theorem qz_ex.lr {h h' : qz_H} (he : qz_ex h h') {ls : List qz_V} {a : Array Slot} {n : Nat} (hl : qz_lr h ls a n) : qz_lr h' ls a n := by
  obtain ⟨lv, h1, h2⟩ := hl
  refine ⟨lv, h1, fun i v hi => ?_⟩
  rcases h2 i v hi with h3 | ⟨h3, h4⟩
  · exact Or.inl h3
  · exact Or.inr ⟨(he.vo' h3).1, by rw [(he.vo' h3).2]; exact h4⟩
/-- storing a local -/
def qz_lg (v : qz_V) : Bool := match v with
  | .inr (.inl _) => true
  | _ => false
def qz_c0 : List qz_V → List qz_V
  | [] => []
  | _ :: r => qz_u :: r
def qz_st : Nat → qz_V → List qz_V → List qz_V
  | _, _, [] => []
  | 0, v, _ :: r => v :: (if qz_lg v = true then qz_c0 r else r)
  | i + 1, v, u :: r => (if i = 0 ∧ qz_lg u = true then qz_u else u) :: qz_st i v r
theorem qz_st_at : ∀ (i : Nat) (v : qz_V) (ls : List qz_V) (j : Nat) (u : qz_V), (qz_st i v ls)[j]? = some u → (j = i ∧ u = v) ∨ u = qz_u ∨ (j ≠ i ∧ ls[j]? = some u ∧ (qz_lg v = true → j ≠ i + 1) ∧ (j + 1 = i → qz_lg u = false))
  | i, v, [], j, u, h => by cases i <;> simp [qz_st] at h
  | 0, v, w :: r, 0, u, h => by
    simp [qz_st] at h
    exact Or.inl ⟨rfl, h.symm⟩
  | 0, v, w :: r, j + 1, u, h => by
    simp only [qz_st, List.getElem?_cons_succ] at h
    by_cases hv : qz_lg v = true
    · rw [if_pos hv] at h
      cases r with
      | nil => simp [qz_c0] at h
      | cons w2 r2 =>
        cases j with
        | zero => simp [qz_c0] at h; exact Or.inr (Or.inl h.symm)
        | succ j => 
          simp only [qz_c0, List.getElem?_cons_succ] at h
          exact Or.inr (Or.inr ⟨by omega, by simpa using h, fun _ => by omega, fun q => by omega⟩)
    · rw [if_neg hv] at h
      exact Or.inr (Or.inr ⟨by omega, by simpa using h, fun q => absurd q hv, fun q => by omega⟩)
  | i + 1, v, w :: r, 0, u, h => by
    simp only [qz_st, List.getElem?_cons_zero, Option.some.injEq] at h
    by_cases hc : i = 0 ∧ qz_lg w = true
    · rw [if_pos hc] at h
      exact Or.inr (Or.inl h.symm)
    · rw [if_neg hc] at h
      subst h
      refine Or.inr (Or.inr ⟨by omega, by simp, fun _ => by omega, fun q => ?_⟩)
      have : i = 0 := by omega
      simpa [this] using hc
  | i + 1, v, w :: r, j + 1, u, h => by
    simp only [qz_st, List.getElem?_cons_succ] at h
    rcases qz_st_at i v r j u h with ⟨a, b⟩ | a | ⟨a, b, c, d⟩
    · exact Or.inl ⟨by omega, b⟩
    · exact Or.inr (Or.inl a)
    · exact Or.inr (Or.inr ⟨by omega, by simpa using b, fun q => by have := c q; omega, fun q => d (by omega)⟩)
theorem qz_catL (h : qz_H) {v : qz_V} (hv : qz_lg v = false) : ¬ (qz_cv h v).category = 2 := by
  rcases v with x | x | q | q
  · simp [qz_cv, Value.category]
  · cases hv
  · show ¬ (va_rf (qz_rf h q.2.2)).category = 2
    cases qz_rf h q.2.2 <;> simp [va_rf, Value.category]
  · show ¬ (va_rf (q.getD none)).category = 2
    cases q.getD none <;> simp [va_rf, Value.category]
theorem qz_lr_st1 {h : qz_H} {ls : List qz_V} {a a' : Array Slot} {n i : Nat} {v : qz_V} {lv : List (Nat × Value)} (h2 : ∀ (i : Nat) (v : qz_V), ls[i]? = some v → v = qz_u ∨ (qz_vo h v ∧ (i, qz_cv h v) ∈ lv)) (hv : qz_vo h v) (hg : qz_lg v = false)
    (h1 : lv_has a' n ((i, qz_cv h v) :: lv.filter (fun q => !(q.1 == i) && !(q.1 + 1 == i && q.2.category == 2)))) : qz_lr h (qz_st i v ls) a' n := by
  refine ⟨_, h1, fun j u hj => ?_⟩
  rcases qz_st_at i v ls j u hj with ⟨rfl, rfl⟩ | q | ⟨q1, q2, q3, q4⟩
  · exact Or.inr ⟨hv, List.mem_cons_self⟩
  · exact Or.inl q
  · rcases h2 j u q2 with z | ⟨z1, z2⟩
    · exact Or.inl z
    · refine Or.inr ⟨z1, List.mem_cons_of_mem _ (List.mem_filter.mpr ⟨z2, ?_⟩)⟩
      simp only [Bool.and_eq_true, Bool.not_eq_true', beq_eq_false_iff_ne, ne_eq, Bool.and_eq_false_iff]
      refine ⟨q1, ?_⟩
      by_cases e : j + 1 = i
      · exact Or.inr (qz_catL h (q4 e))
      · exact Or.inl e
theorem qz_lr_st2 {h : qz_H} {ls : List qz_V} {a a' : Array Slot} {n i : Nat} {v : qz_V} {lv : List (Nat × Value)} (h2 : ∀ (i : Nat) (v : qz_V), ls[i]? = some v → v = qz_u ∨ (qz_vo h v ∧ (i, qz_cv h v) ∈ lv)) (hv : qz_vo h v) (hg : qz_lg v = true)
    (h1 : lv_has a' n ((i, qz_cv h v) :: lv.filter (fun q => !(q.1 == i) && (!(q.1 == i + 1) && !(q.1 + 1 == i && q.2.category == 2))))) : qz_lr h (qz_st i v ls) a' n := by
  refine ⟨_, h1, fun j u hj => ?_⟩
  rcases qz_st_at i v ls j u hj with ⟨rfl, rfl⟩ | q | ⟨q1, q2, q3, q4⟩
  · exact Or.inr ⟨hv, List.mem_cons_self⟩
  · exact Or.inl q
  · rcases h2 j u q2 with z | ⟨z1, z2⟩
    · exact Or.inl z
    · refine Or.inr ⟨z1, List.mem_cons_of_mem _ (List.mem_filter.mpr ⟨z2, ?_⟩)⟩
      simp only [Bool.and_eq_true, Bool.not_eq_true', beq_eq_false_iff_ne, ne_eq, Bool.and_eq_false_iff]
      refine ⟨q1, q3 hg, ?_⟩
      by_cases e : j + 1 = i
      · exact Or.inr (qz_catL h (q4 e))
      · exact Or.inl e
theorem qz_lr_at {h : qz_H} {ls : List qz_V} {a : Array Slot} {n i : Nat} {v : qz_V} (hl : qz_lr h ls a n) (hi : ls[i]? = some v) (hu : v ≠ qz_u) : qz_vo h v ∧ a[i]? = some (.val (qz_cv h v)) := by
  obtain ⟨lv, h1, h2⟩ := hl
  rcases h2 i v hi with h3 | ⟨h3, h4⟩
  · exact absurd h3 hu
  · exact ⟨h3, h1.2.2 _ h4⟩

section QZ
variable {Y : qz_Y} {G : qz_G} {is isT : List (Instr × Nat)} {pc T : Nat} {ls st : List qz_V} {h : qz_H} {cs sl : Nat} {t t1 t2 : Option qz_R}

theorem qz_iconst {n : Int} (hn : qz_b32 n = true) (k : qz_J Y G is (pc + 1) ls (qz_i n :: st) h cs sl t) : qz_J Y G ((.iconst n, 1) :: is) pc ls st h cs sl t := by
  obtain ⟨p, l, e, s, m, args, below, meth, c, D, dA, B0, hc, h0⟩ := G
  intro r hr hx lsC stC H locs hca hl hs hW hS
  obtain ⟨h1, h2, h3, h4, h5, h6, h7, h8, h9⟩ := id hx
  refine lv_iconst h1 h2 hca.1 rfl ?_
  exact k r hr hx lsC _ H locs hca.2 hl ⟨_, rfl, qz_b32_ok hn, hs⟩ hW hS
theorem qz_8 {n : Int} (hn : (decide (-128 ≤ n) && decide (n ≤ 127)) = true) : (Int8.ofInt n).toInt32 = Int32.ofInt n ∧ qz_32 n := by
  simp only [Bool.and_eq_true, decide_eq_true_eq] at hn
  have h3 : qz_32 n := ⟨by omega, by omega⟩
  refine ⟨?_, h3⟩
  apply Int32.toInt_inj.mp
  rw [qz_t32 h3, Int8.toInt_toInt32, Int8.toInt_ofInt_of_le (by omega) (by omega)]
theorem qz_16 {n : Int} (hn : (decide (-32768 ≤ n) && decide (n ≤ 32767)) = true) : (Int16.ofInt n).toInt32 = Int32.ofInt n ∧ qz_32 n := by
  simp only [Bool.and_eq_true, decide_eq_true_eq] at hn
  have h3 : qz_32 n := ⟨by omega, by omega⟩
  refine ⟨?_, h3⟩
  apply Int32.toInt_inj.mp
  rw [qz_t32 h3, Int16.toInt_toInt32, Int16.toInt_ofInt_of_le (by omega) (by omega)]

theorem qz_bipush {n : Int} (hn : (decide (-128 ≤ n) && decide (n ≤ 127)) = true) (k : qz_J Y G is (pc + 2) ls (qz_i n :: st) h cs sl t) : qz_J Y G ((.bipush n, 2) :: is) pc ls st h cs sl t := by
  obtain ⟨p, l, e, s, m, args, below, meth, c, D, dA, B0, hc, h0⟩ := G
  intro r hr hx lsC stC H locs hca hl hs hW hS
  obtain ⟨h1, h2, h3, h4, h5, h6, h7, h8, h9⟩ := id hx
  refine lv_bipush h1 h2 hca.1 (qz_8 hn).1 ?_
  exact k r hr hx lsC _ H locs hca.2 hl ⟨_, rfl, (qz_8 hn).2, hs⟩ hW hS
theorem qz_sipush {n : Int} (hn : (decide (-32768 ≤ n) && decide (n ≤ 32767)) = true) (k : qz_J Y G is (pc + 3) ls (qz_i n :: st) h cs sl t) : qz_J Y G ((.sipush n, 3) :: is) pc ls st h cs sl t := by
  obtain ⟨p, l, e, s, m, args, below, meth, c, D, dA, B0, hc, h0⟩ := G
  intro r hr hx lsC stC H locs hca hl hs hW hS
  obtain ⟨h1, h2, h3, h4, h5, h6, h7, h8, h9⟩ := id hx
  refine lv_sipush h1 h2 hca.1 (qz_16 hn).1 ?_
  exact k r hr hx lsC _ H locs hca.2 hl ⟨_, rfl, (qz_16 hn).2, hs⟩ hW hS
theorem qz_lconst {f : Fin 2} {n : Int} (hn : ((f : Nat) : Int) = n) (k : qz_J Y G is (pc + 1) ls (qz_j n :: st) h cs sl t) : qz_J Y G ((.lconst f, 1) :: is) pc ls st h cs sl t := by
  obtain ⟨p, l, e, s, m, args, below, meth, c, D, dA, B0, hc, h0⟩ := G
  intro r hr hx lsC stC H locs hca hl hs hW hS
  obtain ⟨h1, h2, h3, h4, h5, h6, h7, h8, h9⟩ := id hx
  refine lv_lconst h1 h2 hca.1 rfl ?_
  subst hn
  refine k r hr hx lsC _ H locs hca.2 hl ⟨_, ?_, ?_, hs⟩ hW hS
  · show Value.long (Int64.ofNat (f : Nat)) :: stC = Value.long (Int64.ofInt ((f : Nat) : Int)) :: stC
    rw [Int64.ofInt_eq_ofNat]
  · show qz_64 _
    have := f.isLt
    exact ⟨by omega, by omega⟩
theorem qz_ldc {i : Nat} {n : Int} (hw : Cond.constant Y.1.cls i (Int32.ofInt n) ∈ kz_TT) (hn : qz_b32 n = true) (k : qz_J Y G is (pc + 2) ls (qz_i n :: st) h cs sl t) : qz_J Y G ((.ldc i, 2) :: is) pc ls st h cs sl t := by
  obtain ⟨p, l, e, s, m, args, below, meth, c, D, dA, B0, hc, h0⟩ := G
  intro r hr hx lsC stC H locs hca hl hs hW hS
  obtain ⟨h1, h2, h3, h4, h5, h6, h7, h8, h9⟩ := id hx
  refine lv_ldc h1 h2 h7 (h8 _ hw) hca.1 ?_
  exact k r hr hx lsC _ H locs hca.2 hl ⟨_, rfl, qz_b32_ok hn, hs⟩ hW hS
theorem qz_ldc2 {i : Nat} {n : Int} (hw : Cond.constantLong Y.1.cls i (Int64.ofInt n) ∈ kz_TT) (hn : (decide (-9223372036854775808 ≤ n) && decide (n ≤ 9223372036854775807)) = true) (k : qz_J Y G is (pc + 3) ls (qz_j n :: st) h cs sl t) : qz_J Y G ((.ldc2_w i, 3) :: is) pc ls st h cs sl t := by
  obtain ⟨p, l, e, s, m, args, below, meth, c, D, dA, B0, hc, h0⟩ := G
  intro r hr hx lsC stC H locs hca hl hs hW hS
  obtain ⟨h1, h2, h3, h4, h5, h6, h7, h8, h9⟩ := id hx
  refine lv_ldc2 h1 h2 h7 (h8 _ hw) hca.1 ?_
  simp only [Bool.and_eq_true, decide_eq_true_eq] at hn
  exact k r hr hx lsC _ H locs hca.2 hl ⟨_, rfl, hn, hs⟩ hW hS
theorem qz_null (k0 : Nat) (k : qz_J Y G is (pc + 1) ls (qz_r false k0 0 :: st) h cs sl t) : qz_J Y G ((.aconst_null, 1) :: is) pc ls st h cs sl t := by
  obtain ⟨p, l, e, s, m, args, below, meth, c, D, dA, B0, hc, h0⟩ := G
  intro r hr hx lsC stC H locs hca hl hs hW hS
  obtain ⟨h1, h2, h3, h4, h5, h6, h7, h8, h9⟩ := id hx
  refine lv_null h1 h2 hca.1 ?_
  exact k r hr hx lsC _ H locs hca.2 hl ⟨_, rfl, Or.inl ⟨rfl, rfl⟩, hs⟩ hW hS
theorem qz_iload_n {q : Fin 4} {x : Int} (hi : ls[(q : Nat)]? = some (qz_i x)) (k : qz_J Y G is (pc + 1) ls (qz_i x :: st) h cs sl t) : qz_J Y G ((.iload_n q, 1) :: is) pc ls st h cs sl t := by
  obtain ⟨p, l, e, s, m, args, below, meth, c, D, dA, B0, hc, h0⟩ := G
  intro r hr hx lsC stC H locs hca hl hs hW hS
  obtain ⟨h1, h2, h3, h4, h5, h6, h7, h8, h9⟩ := id hx
  obtain ⟨g1, g2⟩ := qz_lr_at hl hi (fun q => by cases q)
  refine lv_iload_n h1 h2 hca.1 rfl g2 ?_
  exact k r hr hx lsC _ H locs hca.2 hl ⟨_, rfl, g1, hs⟩ hW hS
theorem qz_iload {i : Nat} {x : Int} (hi : ls[i]? = some (qz_i x)) (k : qz_J Y G is (pc + 2) ls (qz_i x :: st) h cs sl t) : qz_J Y G ((.iload i, 2) :: is) pc ls st h cs sl t := by
  obtain ⟨p, l, e, s, m, args, below, meth, c, D, dA, B0, hc, h0⟩ := G
  intro r hr hx lsC stC H locs hca hl hs hW hS
  obtain ⟨h1, h2, h3, h4, h5, h6, h7, h8, h9⟩ := id hx
  obtain ⟨g1, g2⟩ := qz_lr_at hl hi (fun q => by cases q)
  refine lv_iload h1 h2 hca.1 g2 ?_
  exact k r hr hx lsC _ H locs hca.2 hl ⟨_, rfl, g1, hs⟩ hW hS
theorem qz_lload_n {q : Fin 4} {x : Int} (hi : ls[(q : Nat)]? = some (qz_j x)) (k : qz_J Y G is (pc + 1) ls (qz_j x :: st) h cs sl t) : qz_J Y G ((.lload_n q, 1) :: is) pc ls st h cs sl t := by
  obtain ⟨p, l, e, s, m, args, below, meth, c, D, dA, B0, hc, h0⟩ := G
  intro r hr hx lsC stC H locs hca hl hs hW hS
  obtain ⟨h1, h2, h3, h4, h5, h6, h7, h8, h9⟩ := id hx
  obtain ⟨g1, g2⟩ := qz_lr_at hl hi (fun q => by cases q)
  refine lv_lload_n h1 h2 hca.1 rfl g2 ?_
  exact k r hr hx lsC _ H locs hca.2 hl ⟨_, rfl, g1, hs⟩ hW hS
theorem qz_lload {i : Nat} {x : Int} (hi : ls[i]? = some (qz_j x)) (k : qz_J Y G is (pc + 2) ls (qz_j x :: st) h cs sl t) : qz_J Y G ((.lload i, 2) :: is) pc ls st h cs sl t := by
  obtain ⟨p, l, e, s, m, args, below, meth, c, D, dA, B0, hc, h0⟩ := G
  intro r hr hx lsC stC H locs hca hl hs hW hS
  obtain ⟨h1, h2, h3, h4, h5, h6, h7, h8, h9⟩ := id hx
  obtain ⟨g1, g2⟩ := qz_lr_at hl hi (fun q => by cases q)
  refine lv_lload h1 h2 hca.1 g2 ?_
  exact k r hr hx lsC _ H locs hca.2 hl ⟨_, rfl, g1, hs⟩ hW hS
theorem qz_aload_n {q : Fin 4} {b : Bool} {k0 : Nat} {x : Int} (hi : ls[(q : Nat)]? = some (qz_r b k0 x)) (k : qz_J Y G is (pc + 1) ls (qz_r b k0 x :: st) h cs sl t) : qz_J Y G ((.aload_n q, 1) :: is) pc ls st h cs sl t := by
  obtain ⟨p, l, e, s, m, args, below, meth, c, D, dA, B0, hc, h0⟩ := G
  intro r hr hx lsC stC H locs hca hl hs hW hS
  obtain ⟨h1, h2, h3, h4, h5, h6, h7, h8, h9⟩ := id hx
  obtain ⟨g1, g2⟩ := qz_lr_at hl hi (fun q => by cases q)
  have g3 : lsC[(q : Nat)]? = some (.val (va_rf (qz_rf h x))) := g2
  have kk := k r hr hx lsC _ H locs hca.2 hl ⟨_, rfl, g1, hs⟩ hW hS
  have kk : W p l e Y.2.2.2.2.2 s m args below meth c H locs cs sl _ (F0 m (pc + 1) lsC (va_rf (qz_rf h x) :: stC)) := kk
  cases hq : qz_rf h x with
  | none => rw [hq] at g3 kk; exact lv_aload_nN h1 h2 hca.1 rfl g3 kk
  | some a => rw [hq] at g3 kk; exact lv_aload_n h1 h2 hca.1 rfl g3 kk
theorem qz_aload {i : Nat} {b : Bool} {k0 : Nat} {x : Int} (hi : ls[i]? = some (qz_r b k0 x)) (k : qz_J Y G is (pc + 2) ls (qz_r b k0 x :: st) h cs sl t) : qz_J Y G ((.aload i, 2) :: is) pc ls st h cs sl t := by
  obtain ⟨p, l, e, s, m, args, below, meth, c, D, dA, B0, hc, h0⟩ := G
  intro r hr hx lsC stC H locs hca hl hs hW hS
  obtain ⟨h1, h2, h3, h4, h5, h6, h7, h8, h9⟩ := id hx
  obtain ⟨g1, g2⟩ := qz_lr_at hl hi (fun q => by cases q)
  have g3 : lsC[i]? = some (.val (va_rf (qz_rf h x))) := g2
  have kk := k r hr hx lsC _ H locs hca.2 hl ⟨_, rfl, g1, hs⟩ hW hS
  have kk : W p l e Y.2.2.2.2.2 s m args below meth c H locs cs sl _ (F0 m (pc + 2) lsC (va_rf (qz_rf h x) :: stC)) := kk
  cases hq : qz_rf h x with
  | none => rw [hq] at g3 kk; exact lv_aloadN h1 h2 hca.1 g3 kk
  | some a => rw [hq] at g3 kk; exact lv_aload h1 h2 hca.1 g3 kk
theorem qz_istore_n {q : Fin 4} {a : Int} {f : Int → Option qz_R} (hn : (q : Nat) < Y.2.2.1) (k : ∀ x, qz_J Y G is (pc + 1) (qz_st (q : Nat) (qz_i x) ls) st h cs sl (f x)) : qz_J Y G ((.istore_n q, 1) :: is) pc ls (qz_i a :: st) h cs sl (qz_bn a f) := by
  obtain ⟨p, l, e, s, m, args, below, meth, c, D, dA, B0, hc, h0⟩ := G
  intro r hr hx lsC stC H locs hca hl hs hW hS
  obtain ⟨h1, h2, h3, h4, h5, h6, h7, h8, h9⟩ := id hx
  obtain ⟨r1, rfl, ha, hs⟩ := hs
  obtain ⟨lv, g1, g2⟩ := hl
  refine lv_istore_n h1 h2 hca.1 rfl g1 hn rfl fun ls' g3 => ?_
  exact k a r hr hx ls' _ H locs hca.2 (qz_lr_st1 (v := qz_i a) (a := lsC) g2 ha rfl g3) hs hW hS
theorem qz_istore {i : Nat} {a : Int} {f : Int → Option qz_R} (hn : i < Y.2.2.1) (k : ∀ x, qz_J Y G is (pc + 2) (qz_st i (qz_i x) ls) st h cs sl (f x)) : qz_J Y G ((.istore i, 2) :: is) pc ls (qz_i a :: st) h cs sl (qz_bn a f) := by
  obtain ⟨p, l, e, s, m, args, below, meth, c, D, dA, B0, hc, h0⟩ := G
  intro r hr hx lsC stC H locs hca hl hs hW hS
  obtain ⟨h1, h2, h3, h4, h5, h6, h7, h8, h9⟩ := id hx
  obtain ⟨r1, rfl, ha, hs⟩ := hs
  obtain ⟨lv, g1, g2⟩ := hl
  refine lv_istore h1 h2 hca.1 g1 hn rfl fun ls' g3 => ?_
  exact k a r hr hx ls' _ H locs hca.2 (qz_lr_st1 (v := qz_i a) (a := lsC) g2 ha rfl g3) hs hW hS
theorem qz_lstore_n {q : Fin 4} {a : Int} {f : Int → Option qz_R} (hn : (q : Nat) + 1 < Y.2.2.1) (k : ∀ x, qz_J Y G is (pc + 1) (qz_st (q : Nat) (qz_j x) ls) st h cs sl (f x)) : qz_J Y G ((.lstore_n q, 1) :: is) pc ls (qz_j a :: st) h cs sl (qz_bn a f) := by
  obtain ⟨p, l, e, s, m, args, below, meth, c, D, dA, B0, hc, h0⟩ := G
  intro r hr hx lsC stC H locs hca hl hs hW hS
  obtain ⟨h1, h2, h3, h4, h5, h6, h7, h8, h9⟩ := id hx
  obtain ⟨r1, rfl, ha, hs⟩ := hs
  obtain ⟨lv, g1, g2⟩ := hl
  refine lv_lstore_n h1 h2 hca.1 rfl g1 hn rfl fun ls' g3 => ?_
  exact k a r hr hx ls' _ H locs hca.2 (qz_lr_st2 (v := qz_j a) (a := lsC) g2 ha rfl g3) hs hW hS
theorem qz_lstore {i : Nat} {a : Int} {f : Int → Option qz_R} (hn : i + 1 < Y.2.2.1) (k : ∀ x, qz_J Y G is (pc + 2) (qz_st i (qz_j x) ls) st h cs sl (f x)) : qz_J Y G ((.lstore i, 2) :: is) pc ls (qz_j a :: st) h cs sl (qz_bn a f) := by
  obtain ⟨p, l, e, s, m, args, below, meth, c, D, dA, B0, hc, h0⟩ := G
  intro r hr hx lsC stC H locs hca hl hs hW hS
  obtain ⟨h1, h2, h3, h4, h5, h6, h7, h8, h9⟩ := id hx
  obtain ⟨r1, rfl, ha, hs⟩ := hs
  obtain ⟨lv, g1, g2⟩ := hl
  refine lv_lstore h1 h2 hca.1 g1 hn rfl fun ls' g3 => ?_
  exact k a r hr hx ls' _ H locs hca.2 (qz_lr_st2 (v := qz_j a) (a := lsC) g2 ha rfl g3) hs hW hS
theorem qz_astore_n {q : Fin 4} {b : Bool} {k0 : Nat} {a : Int} {f : Int → Option qz_R} (hn : (q : Nat) < Y.2.2.1) (k : ∀ x, qz_J Y G is (pc + 1) (qz_st (q : Nat) (qz_r b k0 x) ls) st h cs sl (f x)) : qz_J Y G ((.astore_n q, 1) :: is) pc ls (qz_r b k0 a :: st) h cs sl (qz_bn a f) := by
  obtain ⟨p, l, e, s, m, args, below, meth, c, D, dA, B0, hc, h0⟩ := G
  intro r hr hx lsC stC H locs hca hl hs hW hS
  obtain ⟨h1, h2, h3, h4, h5, h6, h7, h8, h9⟩ := id hx
  obtain ⟨r1, rfl, ha, hs⟩ := hs
  obtain ⟨lv, g1, g2⟩ := hl
  have fin := fun ls' g3 => k a r hr hx ls' _ H locs hca.2 (qz_lr_st1 (v := qz_r b k0 a) (a := lsC) g2 ha rfl g3) hs hW hS
  have e9 : qz_cv h (qz_r b k0 a) = va_rf (qz_rf h a) := rfl
  rw [e9] at fin
  show W p l e Y.2.2.2.2.2 s m args below meth c H locs cs sl _ (F0 m pc lsC (va_rf (qz_rf h a) :: r1))
  cases hq : qz_rf h a with
  | none => rw [hq] at fin; exact lv_astore_nN h1 h2 hca.1 rfl g1 hn rfl fin
  | some a => rw [hq] at fin; exact lv_astore_n h1 h2 hca.1 rfl g1 hn rfl fin
theorem qz_astore {i : Nat} {b : Bool} {k0 : Nat} {a : Int} {f : Int → Option qz_R} (hn : i < Y.2.2.1) (k : ∀ x, qz_J Y G is (pc + 2) (qz_st i (qz_r b k0 x) ls) st h cs sl (f x)) : qz_J Y G ((.astore i, 2) :: is) pc ls (qz_r b k0 a :: st) h cs sl (qz_bn a f) := by
  obtain ⟨p, l, e, s, m, args, below, meth, c, D, dA, B0, hc, h0⟩ := G
  intro r hr hx lsC stC H locs hca hl hs hW hS
  obtain ⟨h1, h2, h3, h4, h5, h6, h7, h8, h9⟩ := id hx
  obtain ⟨r1, rfl, ha, hs⟩ := hs
  obtain ⟨lv, g1, g2⟩ := hl
  have fin := fun ls' g3 => k a r hr hx ls' _ H locs hca.2 (qz_lr_st1 (v := qz_r b k0 a) (a := lsC) g2 ha rfl g3) hs hW hS
  have e9 : qz_cv h (qz_r b k0 a) = va_rf (qz_rf h a) := rfl
  rw [e9] at fin
  show W p l e Y.2.2.2.2.2 s m args below meth c H locs cs sl _ (F0 m pc lsC (va_rf (qz_rf h a) :: r1))
  cases hq : qz_rf h a with
  | none => rw [hq] at fin; exact lv_astoreN h1 h2 hca.1 g1 hn rfl fin
  | some a => rw [hq] at fin; exact lv_astore h1 h2 hca.1 g1 hn rfl fin
theorem qz_iinc {i : Nat} {n x : Int} {f : Int → Option qz_R} (hi : ls[i]? = some (qz_i x)) (hn : i < Y.2.2.1) (k : ∀ y, qz_J Y G is (pc + 3) (qz_st i (qz_i y) ls) st h cs sl (f y)) : qz_J Y G ((.iinc i n, 3) :: is) pc ls st h cs sl (qz_bn (qz_w (x + n)) f) := by
  obtain ⟨p, l, e, s, m, args, below, meth, c, D, dA, B0, hc, h0⟩ := G
  intro r hr hx lsC stC H locs hca hl hs hW hS
  obtain ⟨h1, h2, h3, h4, h5, h6, h7, h8, h9⟩ := id hx
  obtain ⟨lv, g1, g2⟩ := id hl
  have g5 : (i, Value.int (Int32.ofInt x)) ∈ lv := by
    rcases g2 i _ hi with z | z
    · cases z
    · exact z.2
  obtain ⟨kk, hkk⟩ := List.getElem?_of_mem g5
  refine lv_iinc h1 h2 hca.1 g1 hkk (v := Int32.ofInt (qz_w (x + n))) (by simp only [qz_w, Int32.ofInt_toInt, Int32.ofInt_add]) hn rfl fun ls' g3 => ?_
  exact k (qz_w (x + n)) r hr hx ls' _ H locs hca.2 (qz_lr_st1 (v := qz_i (qz_w (x + n))) (a := lsC) g2 (qz_r32 _) rfl g3) hs hW hS
def qz_and (x y : Int) : Int := (Int32.ofInt x &&& Int32.ofInt y).toInt
def qz_or (x y : Int) : Int := (Int32.ofInt x ||| Int32.ofInt y).toInt
def qz_shr (x y : Int) : Int := (Int32.ofInt x >>> (Int32.ofInt y &&& 31)).toInt
def qz_andJ (x y : Int) : Int := (Int64.ofInt x &&& Int64.ofInt y).toInt
def qz_orJ (x y : Int) : Int := (Int64.ofInt x ||| Int64.ofInt y).toInt
def qz_shlJ (x y : Int) : Int := (Int64.ofInt x <<< ((Int32.ofInt y).toInt64 &&& 63)).toInt
def qz_shrJ (x y : Int) : Int := (Int64.ofInt x >>> ((Int32.ofInt y).toInt64 &&& 63)).toInt
def qz_ushJ (x y : Int) : Int := ((Int64.ofInt x).toUInt64 >>> ((Int32.ofInt y).toInt64.toUInt64 &&& Int64.toUInt64 63)).toInt64.toInt
def qz_divJ (x y : Int) : Int := (Int64.ofInt x / Int64.ofInt y).toInt
def qz_remJ (x y : Int) : Int := (Int64.ofInt x - Int64.ofInt x / Int64.ofInt y * Int64.ofInt y).toInt
def qz_cmp (x y : Int) : Int := if y < x then 1 else if x = y then 0 else -1
def qz_i2c (x : Int) : Int := ((Int32.ofInt x).toUInt32 % 65536).toInt32.toInt
def qz_i2b (x : Int) : Int := (Int32.ofInt x).toInt8.toInt32.toInt

theorem qz_iadd {x y : Int} (k : qz_J Y G is (pc + 1) ls (qz_i (qz_w (x + y)) :: st) h cs sl t) : qz_J Y G ((.iadd, 1) :: is) pc ls (qz_i y :: qz_i x :: st) h cs sl t := by
  obtain ⟨p, l, e, s, m, args, below, meth, c, D, dA, B0, hc, h0⟩ := G
  intro r hr hx lsC stC H locs hca hl hs hW hS
  obtain ⟨h1, h2, h3, h4, h5, h6, h7, h8, h9⟩ := id hx
  obtain ⟨r1, rfl, hy, r2, rfl, hx', hs⟩ := hs
  refine lv_iadd h1 h2 hca.1 ?_
  exact k r hr hx lsC _ H locs hca.2 hl ⟨r2, by simp only [qz_cv, qz_i, qz_j, qz_w, Int32.ofInt_toInt, Int64.ofInt_toInt, Int32.ofInt_add, Int32.ofInt_sub, Int32.ofInt_mul, Int64.ofInt_add, Int64.ofInt_sub, Int64.ofInt_mul, Int64.ofInt_neg], qz_r32 _, hs⟩ hW hS
theorem qz_isub {x y : Int} (k : qz_J Y G is (pc + 1) ls (qz_i (qz_w (x - y)) :: st) h cs sl t) : qz_J Y G ((.isub, 1) :: is) pc ls (qz_i y :: qz_i x :: st) h cs sl t := by
  obtain ⟨p, l, e, s, m, args, below, meth, c, D, dA, B0, hc, h0⟩ := G
  intro r hr hx lsC stC H locs hca hl hs hW hS
  obtain ⟨h1, h2, h3, h4, h5, h6, h7, h8, h9⟩ := id hx
  obtain ⟨r1, rfl, hy, r2, rfl, hx', hs⟩ := hs
  refine lv_isub h1 h2 hca.1 ?_
  exact k r hr hx lsC _ H locs hca.2 hl ⟨r2, by simp only [qz_cv, qz_i, qz_j, qz_w, Int32.ofInt_toInt, Int64.ofInt_toInt, Int32.ofInt_add, Int32.ofInt_sub, Int32.ofInt_mul, Int64.ofInt_add, Int64.ofInt_sub, Int64.ofInt_mul, Int64.ofInt_neg], qz_r32 _, hs⟩ hW hS
theorem qz_imul {x y : Int} (k : qz_J Y G is (pc + 1) ls (qz_i (qz_w (x * y)) :: st) h cs sl t) : qz_J Y G ((.imul, 1) :: is) pc ls (qz_i y :: qz_i x :: st) h cs sl t := by
  obtain ⟨p, l, e, s, m, args, below, meth, c, D, dA, B0, hc, h0⟩ := G
  intro r hr hx lsC stC H locs hca hl hs hW hS
  obtain ⟨h1, h2, h3, h4, h5, h6, h7, h8, h9⟩ := id hx
  obtain ⟨r1, rfl, hy, r2, rfl, hx', hs⟩ := hs
  refine lv_imul h1 h2 hca.1 ?_
  exact k r hr hx lsC _ H locs hca.2 hl ⟨r2, by simp only [qz_cv, qz_i, qz_j, qz_w, Int32.ofInt_toInt, Int64.ofInt_toInt, Int32.ofInt_add, Int32.ofInt_sub, Int32.ofInt_mul, Int64.ofInt_add, Int64.ofInt_sub, Int64.ofInt_mul, Int64.ofInt_neg], qz_r32 _, hs⟩ hW hS
theorem qz_iand {x y : Int} (k : qz_J Y G is (pc + 1) ls (qz_i (qz_and x y) :: st) h cs sl t) : qz_J Y G ((.iand, 1) :: is) pc ls (qz_i y :: qz_i x :: st) h cs sl t := by
  obtain ⟨p, l, e, s, m, args, below, meth, c, D, dA, B0, hc, h0⟩ := G
  intro r hr hx lsC stC H locs hca hl hs hW hS
  obtain ⟨h1, h2, h3, h4, h5, h6, h7, h8, h9⟩ := id hx
  obtain ⟨r1, rfl, hy, r2, rfl, hx', hs⟩ := hs
  refine lv_iand h1 h2 hca.1 ?_
  exact k r hr hx lsC _ H locs hca.2 hl ⟨r2, by simp only [qz_cv, qz_i, qz_j, qz_and, Int32.ofInt_toInt, Int64.ofInt_toInt, Int32.ofInt_add, Int32.ofInt_sub, Int32.ofInt_mul, Int64.ofInt_add, Int64.ofInt_sub, Int64.ofInt_mul, Int64.ofInt_neg], qz_r32 _, hs⟩ hW hS
theorem qz_ior {x y : Int} (k : qz_J Y G is (pc + 1) ls (qz_i (qz_or x y) :: st) h cs sl t) : qz_J Y G ((.ior, 1) :: is) pc ls (qz_i y :: qz_i x :: st) h cs sl t := by
  obtain ⟨p, l, e, s, m, args, below, meth, c, D, dA, B0, hc, h0⟩ := G
  intro r hr hx lsC stC H locs hca hl hs hW hS
  obtain ⟨h1, h2, h3, h4, h5, h6, h7, h8, h9⟩ := id hx
  obtain ⟨r1, rfl, hy, r2, rfl, hx', hs⟩ := hs
  refine lv_ior h1 h2 hca.1 ?_
  exact k r hr hx lsC _ H locs hca.2 hl ⟨r2, by simp only [qz_cv, qz_i, qz_j, qz_or, Int32.ofInt_toInt, Int64.ofInt_toInt, Int32.ofInt_add, Int32.ofInt_sub, Int32.ofInt_mul, Int64.ofInt_add, Int64.ofInt_sub, Int64.ofInt_mul, Int64.ofInt_neg], qz_r32 _, hs⟩ hW hS
theorem qz_ishr {x y : Int} (k : qz_J Y G is (pc + 1) ls (qz_i (qz_shr x y) :: st) h cs sl t) : qz_J Y G ((.ishr, 1) :: is) pc ls (qz_i y :: qz_i x :: st) h cs sl t := by
  obtain ⟨p, l, e, s, m, args, below, meth, c, D, dA, B0, hc, h0⟩ := G
  intro r hr hx lsC stC H locs hca hl hs hW hS
  obtain ⟨h1, h2, h3, h4, h5, h6, h7, h8, h9⟩ := id hx
  obtain ⟨r1, rfl, hy, r2, rfl, hx', hs⟩ := hs
  refine lv_ishr h1 h2 hca.1 ?_
  exact k r hr hx lsC _ H locs hca.2 hl ⟨r2, by simp only [qz_cv, qz_i, qz_j, qz_shr, Int32.ofInt_toInt, Int64.ofInt_toInt, Int32.ofInt_add, Int32.ofInt_sub, Int32.ofInt_mul, Int64.ofInt_add, Int64.ofInt_sub, Int64.ofInt_mul, Int64.ofInt_neg], qz_r32 _, hs⟩ hW hS
theorem qz_ladd {x y : Int} (k : qz_J Y G is (pc + 1) ls (qz_j (qz_x (x + y)) :: st) h cs sl t) : qz_J Y G ((.ladd, 1) :: is) pc ls (qz_j y :: qz_j x :: st) h cs sl t := by
  obtain ⟨p, l, e, s, m, args, below, meth, c, D, dA, B0, hc, h0⟩ := G
  intro r hr hx lsC stC H locs hca hl hs hW hS
  obtain ⟨h1, h2, h3, h4, h5, h6, h7, h8, h9⟩ := id hx
  obtain ⟨r1, rfl, hy, r2, rfl, hx', hs⟩ := hs
  refine lv_ladd h1 h2 hca.1 ?_
  exact k r hr hx lsC _ H locs hca.2 hl ⟨r2, by simp only [qz_cv, qz_i, qz_j, qz_x, Int32.ofInt_toInt, Int64.ofInt_toInt, Int32.ofInt_add, Int32.ofInt_sub, Int32.ofInt_mul, Int64.ofInt_add, Int64.ofInt_sub, Int64.ofInt_mul, Int64.ofInt_neg], qz_r64 _, hs⟩ hW hS
theorem qz_lsub {x y : Int} (k : qz_J Y G is (pc + 1) ls (qz_j (qz_x (x - y)) :: st) h cs sl t) : qz_J Y G ((.lsub, 1) :: is) pc ls (qz_j y :: qz_j x :: st) h cs sl t := by
  obtain ⟨p, l, e, s, m, args, below, meth, c, D, dA, B0, hc, h0⟩ := G
  intro r hr hx lsC stC H locs hca hl hs hW hS
  obtain ⟨h1, h2, h3, h4, h5, h6, h7, h8, h9⟩ := id hx
  obtain ⟨r1, rfl, hy, r2, rfl, hx', hs⟩ := hs
  refine lv_lsub h1 h2 hca.1 ?_
  exact k r hr hx lsC _ H locs hca.2 hl ⟨r2, by simp only [qz_cv, qz_i, qz_j, qz_x, Int32.ofInt_toInt, Int64.ofInt_toInt, Int32.ofInt_add, Int32.ofInt_sub, Int32.ofInt_mul, Int64.ofInt_add, Int64.ofInt_sub, Int64.ofInt_mul, Int64.ofInt_neg], qz_r64 _, hs⟩ hW hS
theorem qz_lmul {x y : Int} (k : qz_J Y G is (pc + 1) ls (qz_j (qz_x (x * y)) :: st) h cs sl t) : qz_J Y G ((.lmul, 1) :: is) pc ls (qz_j y :: qz_j x :: st) h cs sl t := by
  obtain ⟨p, l, e, s, m, args, below, meth, c, D, dA, B0, hc, h0⟩ := G
  intro r hr hx lsC stC H locs hca hl hs hW hS
  obtain ⟨h1, h2, h3, h4, h5, h6, h7, h8, h9⟩ := id hx
  obtain ⟨r1, rfl, hy, r2, rfl, hx', hs⟩ := hs
  refine lv_lmul h1 h2 hca.1 ?_
  exact k r hr hx lsC _ H locs hca.2 hl ⟨r2, by simp only [qz_cv, qz_i, qz_j, qz_x, Int32.ofInt_toInt, Int64.ofInt_toInt, Int32.ofInt_add, Int32.ofInt_sub, Int32.ofInt_mul, Int64.ofInt_add, Int64.ofInt_sub, Int64.ofInt_mul, Int64.ofInt_neg], qz_r64 _, hs⟩ hW hS
theorem qz_land {x y : Int} (k : qz_J Y G is (pc + 1) ls (qz_j (qz_andJ x y) :: st) h cs sl t) : qz_J Y G ((.land, 1) :: is) pc ls (qz_j y :: qz_j x :: st) h cs sl t := by
  obtain ⟨p, l, e, s, m, args, below, meth, c, D, dA, B0, hc, h0⟩ := G
  intro r hr hx lsC stC H locs hca hl hs hW hS
  obtain ⟨h1, h2, h3, h4, h5, h6, h7, h8, h9⟩ := id hx
  obtain ⟨r1, rfl, hy, r2, rfl, hx', hs⟩ := hs
  refine lv_land h1 h2 hca.1 ?_
  exact k r hr hx lsC _ H locs hca.2 hl ⟨r2, by simp only [qz_cv, qz_i, qz_j, qz_andJ, Int32.ofInt_toInt, Int64.ofInt_toInt, Int32.ofInt_add, Int32.ofInt_sub, Int32.ofInt_mul, Int64.ofInt_add, Int64.ofInt_sub, Int64.ofInt_mul, Int64.ofInt_neg], qz_r64 _, hs⟩ hW hS
theorem qz_lor {x y : Int} (k : qz_J Y G is (pc + 1) ls (qz_j (qz_orJ x y) :: st) h cs sl t) : qz_J Y G ((.lor, 1) :: is) pc ls (qz_j y :: qz_j x :: st) h cs sl t := by
  obtain ⟨p, l, e, s, m, args, below, meth, c, D, dA, B0, hc, h0⟩ := G
  intro r hr hx lsC stC H locs hca hl hs hW hS
  obtain ⟨h1, h2, h3, h4, h5, h6, h7, h8, h9⟩ := id hx
  obtain ⟨r1, rfl, hy, r2, rfl, hx', hs⟩ := hs
  refine lv_lor h1 h2 hca.1 ?_
  exact k r hr hx lsC _ H locs hca.2 hl ⟨r2, by simp only [qz_cv, qz_i, qz_j, qz_orJ, Int32.ofInt_toInt, Int64.ofInt_toInt, Int32.ofInt_add, Int32.ofInt_sub, Int32.ofInt_mul, Int64.ofInt_add, Int64.ofInt_sub, Int64.ofInt_mul, Int64.ofInt_neg], qz_r64 _, hs⟩ hW hS
theorem qz_ldiv {x y : Int} (k : qz_J Y G is (pc + 1) ls (qz_j (qz_divJ x y) :: st) h cs sl t) : qz_J Y G ((.ldiv, 1) :: is) pc ls (qz_j y :: qz_j x :: st) h cs sl (qz_ck (y ≠ 0) t) := by
  obtain ⟨p, l, e, s, m, args, below, meth, c, D, dA, B0, hc, h0⟩ := G
  intro r hr hx lsC stC H locs hca hl hs hW hS
  obtain ⟨h1, h2, h3, h4, h5, h6, h7, h8, h9⟩ := id hx
  obtain ⟨r1, rfl, hy, r2, rfl, hx', hs⟩ := hs
  obtain ⟨g1, g2⟩ := qz_ck_some hr
  refine lv_ldiv h1 h2 hca.1 (fun q => g1 (by have q2 := congrArg Int64.toInt q; rw [qz_t64 hy] at q2; exact q2)) ?_
  exact k r g2 hx lsC _ H locs hca.2 hl ⟨r2, by simp only [qz_cv, qz_j, qz_divJ, Int32.ofInt_toInt, Int64.ofInt_toInt, Int32.ofInt_add, Int32.ofInt_sub, Int32.ofInt_mul, Int64.ofInt_add, Int64.ofInt_sub, Int64.ofInt_mul, Int64.ofInt_neg], qz_r64 _, hs⟩ hW hS
theorem qz_lrem {x y : Int} (k : qz_J Y G is (pc + 1) ls (qz_j (qz_remJ x y) :: st) h cs sl t) : qz_J Y G ((.lrem, 1) :: is) pc ls (qz_j y :: qz_j x :: st) h cs sl (qz_ck (y ≠ 0) t) := by
  obtain ⟨p, l, e, s, m, args, below, meth, c, D, dA, B0, hc, h0⟩ := G
  intro r hr hx lsC stC H locs hca hl hs hW hS
  obtain ⟨h1, h2, h3, h4, h5, h6, h7, h8, h9⟩ := id hx
  obtain ⟨r1, rfl, hy, r2, rfl, hx', hs⟩ := hs
  obtain ⟨g1, g2⟩ := qz_ck_some hr
  refine lv_lrem h1 h2 hca.1 (fun q => g1 (by have q2 := congrArg Int64.toInt q; rw [qz_t64 hy] at q2; exact q2)) ?_
  exact k r g2 hx lsC _ H locs hca.2 hl ⟨r2, by simp only [qz_cv, qz_j, qz_remJ, Int32.ofInt_toInt, Int64.ofInt_toInt, Int32.ofInt_add, Int32.ofInt_sub, Int32.ofInt_mul, Int64.ofInt_add, Int64.ofInt_sub, Int64.ofInt_mul, Int64.ofInt_neg], qz_r64 _, hs⟩ hW hS
theorem qz_lshl {x y : Int} (k : qz_J Y G is (pc + 1) ls (qz_j (qz_shlJ x y) :: st) h cs sl t) : qz_J Y G ((.lshl, 1) :: is) pc ls (qz_i y :: qz_j x :: st) h cs sl t := by
  obtain ⟨p, l, e, s, m, args, below, meth, c, D, dA, B0, hc, h0⟩ := G
  intro r hr hx lsC stC H locs hca hl hs hW hS
  obtain ⟨h1, h2, h3, h4, h5, h6, h7, h8, h9⟩ := id hx
  obtain ⟨r1, rfl, hy, r2, rfl, hx', hs⟩ := hs
  refine lv_lshl h1 h2 hca.1 rfl ?_
  exact k r hr hx lsC _ H locs hca.2 hl ⟨r2, by simp only [qz_cv, qz_j, qz_shlJ, Int32.ofInt_toInt, Int64.ofInt_toInt, Int32.ofInt_add, Int32.ofInt_sub, Int32.ofInt_mul, Int64.ofInt_add, Int64.ofInt_sub, Int64.ofInt_mul, Int64.ofInt_neg], qz_r64 _, hs⟩ hW hS
theorem qz_lshr {x y : Int} (k : qz_J Y G is (pc + 1) ls (qz_j (qz_shrJ x y) :: st) h cs sl t) : qz_J Y G ((.lshr, 1) :: is) pc ls (qz_i y :: qz_j x :: st) h cs sl t := by
  obtain ⟨p, l, e, s, m, args, below, meth, c, D, dA, B0, hc, h0⟩ := G
  intro r hr hx lsC stC H locs hca hl hs hW hS
  obtain ⟨h1, h2, h3, h4, h5, h6, h7, h8, h9⟩ := id hx
  obtain ⟨r1, rfl, hy, r2, rfl, hx', hs⟩ := hs
  refine lv_lshr h1 h2 hca.1 rfl ?_
  exact k r hr hx lsC _ H locs hca.2 hl ⟨r2, by simp only [qz_cv, qz_j, qz_shrJ, Int32.ofInt_toInt, Int64.ofInt_toInt, Int32.ofInt_add, Int32.ofInt_sub, Int32.ofInt_mul, Int64.ofInt_add, Int64.ofInt_sub, Int64.ofInt_mul, Int64.ofInt_neg], qz_r64 _, hs⟩ hW hS
theorem qz_lushr {x y : Int} (k : qz_J Y G is (pc + 1) ls (qz_j (qz_ushJ x y) :: st) h cs sl t) : qz_J Y G ((.lushr, 1) :: is) pc ls (qz_i y :: qz_j x :: st) h cs sl t := by
  obtain ⟨p, l, e, s, m, args, below, meth, c, D, dA, B0, hc, h0⟩ := G
  intro r hr hx lsC stC H locs hca hl hs hW hS
  obtain ⟨h1, h2, h3, h4, h5, h6, h7, h8, h9⟩ := id hx
  obtain ⟨r1, rfl, hy, r2, rfl, hx', hs⟩ := hs
  refine lv_lushr h1 h2 hca.1 rfl ?_
  exact k r hr hx lsC _ H locs hca.2 hl ⟨r2, by simp only [qz_cv, qz_j, qz_ushJ, Int32.ofInt_toInt, Int64.ofInt_toInt, Int32.ofInt_add, Int32.ofInt_sub, Int32.ofInt_mul, Int64.ofInt_add, Int64.ofInt_sub, Int64.ofInt_mul, Int64.ofInt_neg], qz_r64 _, hs⟩ hW hS
theorem qz_lneg {x : Int} (k : qz_J Y G is (pc + 1) ls (qz_j (qz_x (-x)) :: st) h cs sl t) : qz_J Y G ((.lneg, 1) :: is) pc ls (qz_j x :: st) h cs sl t := by
  obtain ⟨p, l, e, s, m, args, below, meth, c, D, dA, B0, hc, h0⟩ := G
  intro r hr hx lsC stC H locs hca hl hs hW hS
  obtain ⟨h1, h2, h3, h4, h5, h6, h7, h8, h9⟩ := id hx
  obtain ⟨r2, rfl, hx', hs⟩ := hs
  refine lv_lneg h1 h2 hca.1 ?_
  exact k r hr hx lsC _ H locs hca.2 hl ⟨r2, by simp only [qz_cv, qz_j, qz_x, Int32.ofInt_toInt, Int64.ofInt_toInt, Int32.ofInt_add, Int32.ofInt_sub, Int32.ofInt_mul, Int64.ofInt_add, Int64.ofInt_sub, Int64.ofInt_mul, Int64.ofInt_neg], qz_r64 _, hs⟩ hW hS
theorem qz_i2l {x : Int} (k : qz_J Y G is (pc + 1) ls (qz_j x :: st) h cs sl t) : qz_J Y G ((.i2l, 1) :: is) pc ls (qz_i x :: st) h cs sl t := by
  obtain ⟨p, l, e, s, m, args, below, meth, c, D, dA, B0, hc, h0⟩ := G
  intro r hr hx lsC stC H locs hca hl hs hW hS
  obtain ⟨h1, h2, h3, h4, h5, h6, h7, h8, h9⟩ := id hx
  obtain ⟨r2, rfl, hx', hs⟩ := hs
  have hx2 : qz_32 x := hx'
  have h64 : qz_64 x := ⟨by have := hx2.1; omega, by have := hx2.2; omega⟩
  refine lv_i2l h1 h2 hca.1 (v := Int64.ofInt x) (Int64.toInt_inj.mp (by rw [Int32.toInt_toInt64, qz_t32 hx2, qz_t64 h64])) ?_
  exact k r hr hx lsC _ H locs hca.2 hl ⟨r2, rfl, h64, hs⟩ hW hS
theorem qz_l2i {x : Int} (k : qz_J Y G is (pc + 1) ls (qz_i (qz_w x) :: st) h cs sl t) : qz_J Y G ((.l2i, 1) :: is) pc ls (qz_j x :: st) h cs sl t := by
  obtain ⟨p, l, e, s, m, args, below, meth, c, D, dA, B0, hc, h0⟩ := G
  intro r hr hx lsC stC H locs hca hl hs hW hS
  obtain ⟨h1, h2, h3, h4, h5, h6, h7, h8, h9⟩ := id hx
  obtain ⟨r2, rfl, hx', hs⟩ := hs
  refine lv_l2i h1 h2 hca.1 (v := Int32.ofInt x) (Int32.toInt_inj.mp (by rw [Int64.toInt_toInt32, qz_t64 hx', Int32.toInt_ofInt])) ?_
  exact k r hr hx lsC _ H locs hca.2 hl ⟨r2, by simp only [qz_cv, qz_i, qz_w, Int32.ofInt_toInt, Int64.ofInt_toInt, Int32.ofInt_add, Int32.ofInt_sub, Int32.ofInt_mul, Int64.ofInt_add, Int64.ofInt_sub, Int64.ofInt_mul, Int64.ofInt_neg], qz_r32 _, hs⟩ hW hS
theorem qz_ins_i2c {x : Int} (k : qz_J Y G is (pc + 1) ls (qz_i (qz_i2c x) :: st) h cs sl t) : qz_J Y G ((.i2c, 1) :: is) pc ls (qz_i x :: st) h cs sl t := by
  obtain ⟨p, l, e, s, m, args, below, meth, c, D, dA, B0, hc, h0⟩ := G
  intro r hr hx lsC stC H locs hca hl hs hW hS
  obtain ⟨h1, h2, h3, h4, h5, h6, h7, h8, h9⟩ := id hx
  obtain ⟨r2, rfl, hx', hs⟩ := hs
  refine lv_i2c h1 h2 hca.1 rfl ?_
  exact k r hr hx lsC _ H locs hca.2 hl ⟨r2, by simp only [qz_cv, qz_i, qz_i2c, Int32.ofInt_toInt, Int64.ofInt_toInt, Int32.ofInt_add, Int32.ofInt_sub, Int32.ofInt_mul, Int64.ofInt_add, Int64.ofInt_sub, Int64.ofInt_mul, Int64.ofInt_neg], qz_r32 _, hs⟩ hW hS
theorem qz_ins_i2b {x : Int} (k : qz_J Y G is (pc + 1) ls (qz_i (qz_i2b x) :: st) h cs sl t) : qz_J Y G ((.i2b, 1) :: is) pc ls (qz_i x :: st) h cs sl t := by
  obtain ⟨p, l, e, s, m, args, below, meth, c, D, dA, B0, hc, h0⟩ := G
  intro r hr hx lsC stC H locs hca hl hs hW hS
  obtain ⟨h1, h2, h3, h4, h5, h6, h7, h8, h9⟩ := id hx
  obtain ⟨r2, rfl, hx', hs⟩ := hs
  refine lv_i2b h1 h2 hca.1 rfl ?_
  exact k r hr hx lsC _ H locs hca.2 hl ⟨r2, by simp only [qz_cv, qz_i, qz_i2b, Int32.ofInt_toInt, Int64.ofInt_toInt, Int32.ofInt_add, Int32.ofInt_sub, Int32.ofInt_mul, Int64.ofInt_add, Int64.ofInt_sub, Int64.ofInt_mul, Int64.ofInt_neg], qz_r32 _, hs⟩ hW hS
theorem qz_lcmp {x y : Int} (k : qz_J Y G is (pc + 1) ls (qz_i (qz_cmp x y) :: st) h cs sl t) : qz_J Y G ((.lcmp, 1) :: is) pc ls (qz_j y :: qz_j x :: st) h cs sl t := by
  obtain ⟨p, l, e, s, m, args, below, meth, c, D, dA, B0, hc, h0⟩ := G
  intro r hr hx lsC stC H locs hca hl hs hW hS
  obtain ⟨h1, h2, h3, h4, h5, h6, h7, h8, h9⟩ := id hx
  obtain ⟨r1, rfl, hy, r2, rfl, hx', hs⟩ := hs
  refine W.lcmp h1 h2 hca.1 ?_
  have hx2 : qz_64 x := hx'
  have hy2 : qz_64 y := hy
  refine k r hr hx lsC _ H locs hca.2 hl ⟨r2, ?_, ?_, hs⟩ hW hS
  · show Value.int (lg_cmp (Int64.ofInt x) (Int64.ofInt y)) :: r2 = Value.int (Int32.ofInt (qz_cmp x y)) :: r2
    have e1 : (Int64.ofInt x > Int64.ofInt y) ↔ y < x := by show Int64.ofInt y < Int64.ofInt x ↔ _; rw [Int64.lt_iff_toInt_lt, qz_t64 hx2, qz_t64 hy2]
    have e2 : (Int64.ofInt x = Int64.ofInt y) ↔ x = y := ⟨fun q => by rw [← qz_t64 hx2, ← qz_t64 hy2, q], fun q => by rw [q]⟩
    unfold lg_cmp qz_cmp
    by_cases c1 : y < x
    · rw [if_pos c1, if_pos (e1.mpr c1)]; rfl
    · rw [if_neg c1, if_neg (fun q => c1 (e1.mp q))]
      by_cases c2 : x = y
      · rw [if_pos c2, if_pos (e2.mpr c2)]; rfl
      · rw [if_neg c2, if_neg (fun q => c2 (e2.mp q))]; rfl
  · show qz_32 (qz_cmp x y)
    unfold qz_cmp
    split
    · exact ⟨by decide, by decide⟩
    · split <;> exact ⟨by decide, by decide⟩
theorem qz_dup {v : qz_V} (hc1 : qz_c1 v = true) (k : qz_J Y G is (pc + 1) ls (v :: v :: st) h cs sl t) : qz_J Y G ((.dup, 1) :: is) pc ls (v :: st) h cs sl t := by
  obtain ⟨p, l, e, s, m, args, below, meth, c, D, dA, B0, hc, h0⟩ := G
  intro r hr hx lsC stC H locs hca hl hs hW hS
  obtain ⟨h1, h2, h3, h4, h5, h6, h7, h8, h9⟩ := id hx
  obtain ⟨r2, rfl, hv, hs⟩ := hs
  refine lv_dup h1 h2 hca.1 (qz_cat h hc1) ?_
  exact k r hr hx lsC _ H locs hca.2 hl ⟨_, rfl, hv, _, rfl, hv, hs⟩ hW hS
theorem qz_pop {v : qz_V} (hc1 : qz_c1 v = true) (k : qz_J Y G is (pc + 1) ls st h cs sl t) : qz_J Y G ((.pop, 1) :: is) pc ls (v :: st) h cs sl t := by
  obtain ⟨p, l, e, s, m, args, below, meth, c, D, dA, B0, hc, h0⟩ := G
  intro r hr hx lsC stC H locs hca hl hs hW hS
  obtain ⟨h1, h2, h3, h4, h5, h6, h7, h8, h9⟩ := id hx
  obtain ⟨r2, rfl, hv, hs⟩ := hs
  refine lv_pop h1 h2 hca.1 (qz_cat h hc1) ?_
  exact k r hr hx lsC _ H locs hca.2 hl hs hW hS
theorem qz_dup2 {v w : qz_V} (hc1 : qz_c1 v = true) (hc2 : qz_c1 w = true) (k : qz_J Y G is (pc + 1) ls (v :: w :: v :: w :: st) h cs sl t) : qz_J Y G ((.dup2, 1) :: is) pc ls (v :: w :: st) h cs sl t := by
  obtain ⟨p, l, e, s, m, args, below, meth, c, D, dA, B0, hc, h0⟩ := G
  intro r hr hx lsC stC H locs hca hl hs hW hS
  obtain ⟨h1, h2, h3, h4, h5, h6, h7, h8, h9⟩ := id hx
  obtain ⟨r1, rfl, hv, r2, rfl, hw, hs⟩ := hs
  refine lv_dup2_11 h1 h2 hca.1 (qz_cat h hc1) (qz_cat h hc2) ?_
  exact k r hr hx lsC _ H locs hca.2 hl ⟨_, rfl, hv, _, rfl, hw, _, rfl, hv, _, rfl, hw, hs⟩ hW hS
theorem qz_if_eq {x : Int} {off : Int} (ht : (pc : Int) + off = (T : Int)) (hT : qz_ca Y.2.1 T isT) (kt : qz_J Y G isT T ls st h cs sl t1) (kf : qz_J Y G is (pc + 3) ls st h cs sl t2) : qz_J Y G ((.ifCond .eq off, 3) :: is) pc ls (qz_i x :: st) h cs sl (if x = 0 then t1 else t2) := by
  obtain ⟨p, l, e, s, m, args, below, meth, c, D, dA, B0, hc, h0⟩ := G
  intro r hr hx lsC stC H locs hca hl hs hW hS
  obtain ⟨h1, h2, h3, h4, h5, h6, h7, h8, h9⟩ := id hx
  obtain ⟨r2, rfl, hx2, hs⟩ := hs
  have e : _ ↔ x = 0 := qz_e0 hx2
  refine lv_if_eq h1 h2 hca.1 ht (fun q => ?_) (fun q => ?_)
  · rw [if_pos (e.mp q)] at hr
    exact kt r hr hx lsC _ H locs hT hl hs hW hS
  · rw [if_neg (fun z => q (e.mpr z))] at hr
    exact kf r hr hx lsC _ H locs hca.2 hl hs hW hS
theorem qz_icmp_eq {x y : Int} {off : Int} (ht : (pc : Int) + off = (T : Int)) (hT : qz_ca Y.2.1 T isT) (kt : qz_J Y G isT T ls st h cs sl t1) (kf : qz_J Y G is (pc + 3) ls st h cs sl t2) : qz_J Y G ((.if_icmp .eq off, 3) :: is) pc ls (qz_i y :: qz_i x :: st) h cs sl (if x = y then t1 else t2) := by
  obtain ⟨p, l, e, s, m, args, below, meth, c, D, dA, B0, hc, h0⟩ := G
  intro r hr hx lsC stC H locs hca hl hs hW hS
  obtain ⟨h1, h2, h3, h4, h5, h6, h7, h8, h9⟩ := id hx
  obtain ⟨r1, rfl, hy2, r2, rfl, hx2, hs⟩ := hs
  have e : _ ↔ x = y := qz_e32 hx2 hy2
  refine lv_icmp_eq h1 h2 hca.1 ht (fun q => ?_) (fun q => ?_)
  · rw [if_pos (e.mp q)] at hr
    exact kt r hr hx lsC _ H locs hT hl hs hW hS
  · rw [if_neg (fun z => q (e.mpr z))] at hr
    exact kf r hr hx lsC _ H locs hca.2 hl hs hW hS
theorem qz_if_ne {x : Int} {off : Int} (ht : (pc : Int) + off = (T : Int)) (hT : qz_ca Y.2.1 T isT) (kt : qz_J Y G isT T ls st h cs sl t1) (kf : qz_J Y G is (pc + 3) ls st h cs sl t2) : qz_J Y G ((.ifCond .ne off, 3) :: is) pc ls (qz_i x :: st) h cs sl (if ¬ x = 0 then t1 else t2) := by
  obtain ⟨p, l, e, s, m, args, below, meth, c, D, dA, B0, hc, h0⟩ := G
  intro r hr hx lsC stC H locs hca hl hs hW hS
  obtain ⟨h1, h2, h3, h4, h5, h6, h7, h8, h9⟩ := id hx
  obtain ⟨r2, rfl, hx2, hs⟩ := hs
  have e : _ ↔ x = 0 := qz_e0 hx2
  refine lv_if_ne h1 h2 hca.1 ht (fun q => ?_) (fun q => ?_)
  · rw [if_pos (fun z => q (e.mpr z))] at hr
    exact kt r hr hx lsC _ H locs hT hl hs hW hS
  · rw [if_neg (fun z => z (e.mp q))] at hr
    exact kf r hr hx lsC _ H locs hca.2 hl hs hW hS
theorem qz_icmp_ne {x y : Int} {off : Int} (ht : (pc : Int) + off = (T : Int)) (hT : qz_ca Y.2.1 T isT) (kt : qz_J Y G isT T ls st h cs sl t1) (kf : qz_J Y G is (pc + 3) ls st h cs sl t2) : qz_J Y G ((.if_icmp .ne off, 3) :: is) pc ls (qz_i y :: qz_i x :: st) h cs sl (if ¬ x = y then t1 else t2) := by
  obtain ⟨p, l, e, s, m, args, below, meth, c, D, dA, B0, hc, h0⟩ := G
  intro r hr hx lsC stC H locs hca hl hs hW hS
  obtain ⟨h1, h2, h3, h4, h5, h6, h7, h8, h9⟩ := id hx
  obtain ⟨r1, rfl, hy2, r2, rfl, hx2, hs⟩ := hs
  have e : _ ↔ x = y := qz_e32 hx2 hy2
  refine lv_icmp_ne h1 h2 hca.1 ht (fun q => ?_) (fun q => ?_)
  · rw [if_pos (fun z => q (e.mpr z))] at hr
    exact kt r hr hx lsC _ H locs hT hl hs hW hS
  · rw [if_neg (fun z => z (e.mp q))] at hr
    exact kf r hr hx lsC _ H locs hca.2 hl hs hW hS
theorem qz_if_lt {x : Int} {off : Int} (ht : (pc : Int) + off = (T : Int)) (hT : qz_ca Y.2.1 T isT) (kt : qz_J Y G isT T ls st h cs sl t1) (kf : qz_J Y G is (pc + 3) ls st h cs sl t2) : qz_J Y G ((.ifCond .lt off, 3) :: is) pc ls (qz_i x :: st) h cs sl (if x < 0 then t1 else t2) := by
  obtain ⟨p, l, e, s, m, args, below, meth, c, D, dA, B0, hc, h0⟩ := G
  intro r hr hx lsC stC H locs hca hl hs hW hS
  obtain ⟨h1, h2, h3, h4, h5, h6, h7, h8, h9⟩ := id hx
  obtain ⟨r2, rfl, hx2, hs⟩ := hs
  have e : _ ↔ x < 0 := qz_l0 hx2
  refine lv_if_lt h1 h2 hca.1 ht (fun q => ?_) (fun q => ?_)
  · rw [if_pos (e.mp q)] at hr
    exact kt r hr hx lsC _ H locs hT hl hs hW hS
  · rw [if_neg (fun z => q (e.mpr z))] at hr
    exact kf r hr hx lsC _ H locs hca.2 hl hs hW hS
theorem qz_icmp_lt {x y : Int} {off : Int} (ht : (pc : Int) + off = (T : Int)) (hT : qz_ca Y.2.1 T isT) (kt : qz_J Y G isT T ls st h cs sl t1) (kf : qz_J Y G is (pc + 3) ls st h cs sl t2) : qz_J Y G ((.if_icmp .lt off, 3) :: is) pc ls (qz_i y :: qz_i x :: st) h cs sl (if x < y then t1 else t2) := by
  obtain ⟨p, l, e, s, m, args, below, meth, c, D, dA, B0, hc, h0⟩ := G
  intro r hr hx lsC stC H locs hca hl hs hW hS
  obtain ⟨h1, h2, h3, h4, h5, h6, h7, h8, h9⟩ := id hx
  obtain ⟨r1, rfl, hy2, r2, rfl, hx2, hs⟩ := hs
  have e : _ ↔ x < y := qz_l32 hx2 hy2
  refine lv_icmp_lt h1 h2 hca.1 ht (fun q => ?_) (fun q => ?_)
  · rw [if_pos (e.mp q)] at hr
    exact kt r hr hx lsC _ H locs hT hl hs hW hS
  · rw [if_neg (fun z => q (e.mpr z))] at hr
    exact kf r hr hx lsC _ H locs hca.2 hl hs hW hS
theorem qz_if_ge {x : Int} {off : Int} (ht : (pc : Int) + off = (T : Int)) (hT : qz_ca Y.2.1 T isT) (kt : qz_J Y G isT T ls st h cs sl t1) (kf : qz_J Y G is (pc + 3) ls st h cs sl t2) : qz_J Y G ((.ifCond .ge off, 3) :: is) pc ls (qz_i x :: st) h cs sl (if 0 ≤ x then t1 else t2) := by
  obtain ⟨p, l, e, s, m, args, below, meth, c, D, dA, B0, hc, h0⟩ := G
  intro r hr hx lsC stC H locs hca hl hs hW hS
  obtain ⟨h1, h2, h3, h4, h5, h6, h7, h8, h9⟩ := id hx
  obtain ⟨r2, rfl, hx2, hs⟩ := hs
  have e : _ ↔ 0 ≤ x := qz_ge0 hx2
  refine lv_if_ge h1 h2 hca.1 ht (fun q => ?_) (fun q => ?_)
  · rw [if_pos (e.mp q)] at hr
    exact kt r hr hx lsC _ H locs hT hl hs hW hS
  · rw [if_neg (fun z => q (e.mpr z))] at hr
    exact kf r hr hx lsC _ H locs hca.2 hl hs hW hS
theorem qz_icmp_ge {x y : Int} {off : Int} (ht : (pc : Int) + off = (T : Int)) (hT : qz_ca Y.2.1 T isT) (kt : qz_J Y G isT T ls st h cs sl t1) (kf : qz_J Y G is (pc + 3) ls st h cs sl t2) : qz_J Y G ((.if_icmp .ge off, 3) :: is) pc ls (qz_i y :: qz_i x :: st) h cs sl (if y ≤ x then t1 else t2) := by
  obtain ⟨p, l, e, s, m, args, below, meth, c, D, dA, B0, hc, h0⟩ := G
  intro r hr hx lsC stC H locs hca hl hs hW hS
  obtain ⟨h1, h2, h3, h4, h5, h6, h7, h8, h9⟩ := id hx
  obtain ⟨r1, rfl, hy2, r2, rfl, hx2, hs⟩ := hs
  have e : _ ↔ y ≤ x := qz_m32 hy2 hx2
  refine lv_icmp_ge h1 h2 hca.1 ht (fun q => ?_) (fun q => ?_)
  · rw [if_pos (e.mp q)] at hr
    exact kt r hr hx lsC _ H locs hT hl hs hW hS
  · rw [if_neg (fun z => q (e.mpr z))] at hr
    exact kf r hr hx lsC _ H locs hca.2 hl hs hW hS
theorem qz_if_gt {x : Int} {off : Int} (ht : (pc : Int) + off = (T : Int)) (hT : qz_ca Y.2.1 T isT) (kt : qz_J Y G isT T ls st h cs sl t1) (kf : qz_J Y G is (pc + 3) ls st h cs sl t2) : qz_J Y G ((.ifCond .gt off, 3) :: is) pc ls (qz_i x :: st) h cs sl (if 0 < x then t1 else t2) := by
  obtain ⟨p, l, e, s, m, args, below, meth, c, D, dA, B0, hc, h0⟩ := G
  intro r hr hx lsC stC H locs hca hl hs hW hS
  obtain ⟨h1, h2, h3, h4, h5, h6, h7, h8, h9⟩ := id hx
  obtain ⟨r2, rfl, hx2, hs⟩ := hs
  have e : _ ↔ 0 < x := qz_g0 hx2
  refine lv_if_gt h1 h2 hca.1 ht (fun q => ?_) (fun q => ?_)
  · rw [if_pos (e.mp q)] at hr
    exact kt r hr hx lsC _ H locs hT hl hs hW hS
  · rw [if_neg (fun z => q (e.mpr z))] at hr
    exact kf r hr hx lsC _ H locs hca.2 hl hs hW hS
theorem qz_icmp_gt {x y : Int} {off : Int} (ht : (pc : Int) + off = (T : Int)) (hT : qz_ca Y.2.1 T isT) (kt : qz_J Y G isT T ls st h cs sl t1) (kf : qz_J Y G is (pc + 3) ls st h cs sl t2) : qz_J Y G ((.if_icmp .gt off, 3) :: is) pc ls (qz_i y :: qz_i x :: st) h cs sl (if y < x then t1 else t2) := by
  obtain ⟨p, l, e, s, m, args, below, meth, c, D, dA, B0, hc, h0⟩ := G
  intro r hr hx lsC stC H locs hca hl hs hW hS
  obtain ⟨h1, h2, h3, h4, h5, h6, h7, h8, h9⟩ := id hx
  obtain ⟨r1, rfl, hy2, r2, rfl, hx2, hs⟩ := hs
  have e : _ ↔ y < x := qz_l32 hy2 hx2
  refine lv_icmp_gt h1 h2 hca.1 ht (fun q => ?_) (fun q => ?_)
  · rw [if_pos (e.mp q)] at hr
    exact kt r hr hx lsC _ H locs hT hl hs hW hS
  · rw [if_neg (fun z => q (e.mpr z))] at hr
    exact kf r hr hx lsC _ H locs hca.2 hl hs hW hS
theorem qz_if_le {x : Int} {off : Int} (ht : (pc : Int) + off = (T : Int)) (hT : qz_ca Y.2.1 T isT) (kt : qz_J Y G isT T ls st h cs sl t1) (kf : qz_J Y G is (pc + 3) ls st h cs sl t2) : qz_J Y G ((.ifCond .le off, 3) :: is) pc ls (qz_i x :: st) h cs sl (if x ≤ 0 then t1 else t2) := by
  obtain ⟨p, l, e, s, m, args, below, meth, c, D, dA, B0, hc, h0⟩ := G
  intro r hr hx lsC stC H locs hca hl hs hW hS
  obtain ⟨h1, h2, h3, h4, h5, h6, h7, h8, h9⟩ := id hx
  obtain ⟨r2, rfl, hx2, hs⟩ := hs
  have e : _ ↔ x ≤ 0 := qz_le0 hx2
  refine lv_if_le h1 h2 hca.1 ht (fun q => ?_) (fun q => ?_)
  · rw [if_pos (e.mp q)] at hr
    exact kt r hr hx lsC _ H locs hT hl hs hW hS
  · rw [if_neg (fun z => q (e.mpr z))] at hr
    exact kf r hr hx lsC _ H locs hca.2 hl hs hW hS
theorem qz_icmp_le {x y : Int} {off : Int} (ht : (pc : Int) + off = (T : Int)) (hT : qz_ca Y.2.1 T isT) (kt : qz_J Y G isT T ls st h cs sl t1) (kf : qz_J Y G is (pc + 3) ls st h cs sl t2) : qz_J Y G ((.if_icmp .le off, 3) :: is) pc ls (qz_i y :: qz_i x :: st) h cs sl (if x ≤ y then t1 else t2) := by
  obtain ⟨p, l, e, s, m, args, below, meth, c, D, dA, B0, hc, h0⟩ := G
  intro r hr hx lsC stC H locs hca hl hs hW hS
  obtain ⟨h1, h2, h3, h4, h5, h6, h7, h8, h9⟩ := id hx
  obtain ⟨r1, rfl, hy2, r2, rfl, hx2, hs⟩ := hs
  have e : _ ↔ x ≤ y := qz_m32 hx2 hy2
  refine lv_icmp_le h1 h2 hca.1 ht (fun q => ?_) (fun q => ?_)
  · rw [if_pos (e.mp q)] at hr
    exact kt r hr hx lsC _ H locs hT hl hs hW hS
  · rw [if_neg (fun z => q (e.mpr z))] at hr
    exact kf r hr hx lsC _ H locs hca.2 hl hs hW hS
theorem qz_goto {off : Int} (ht : (pc : Int) + off = (T : Int)) (hT : qz_ca Y.2.1 T isT) (k : qz_J Y G isT T ls st h cs sl t) : qz_J Y G ((.goto off, 3) :: is) pc ls st h cs sl t := by
  obtain ⟨p, l, e, s, m, args, below, meth, c, D, dA, B0, hc, h0⟩ := G
  intro r hr hx lsC stC H locs hca hl hs hW hS
  obtain ⟨h1, h2, h3, h4, h5, h6, h7, h8, h9⟩ := id hx
  refine lv_goto h1 h2 hca.1 ht ?_
  exact k r hr hx lsC _ H locs hT hl hs hW hS
theorem qz_fall (ht : pc = T) (hT : qz_ca Y.2.1 T isT) (k : qz_J Y G isT T ls st h cs sl t) : qz_J Y G [] pc ls st h cs sl t := by
  obtain ⟨p, l, e, s, m, args, below, meth, c, D, dA, B0, hc, h0⟩ := G
  intro r hr hx lsC stC H locs hca hl hs hW hS
  obtain ⟨h1, h2, h3, h4, h5, h6, h7, h8, h9⟩ := id hx
  subst ht
  exact k r hr hx lsC _ H locs hT hl hs hW hS
end QZ
