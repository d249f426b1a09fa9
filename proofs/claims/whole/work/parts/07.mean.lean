-- WHAT THE PLAIN MACHINE MEANS ON THE REAL ONE
/-- a value: cells of ours by number, from z on; what lies outside by number -/
def sm_v (z : Nat) (E : Nat → Nat) : Value → Value
  | .ref k => .ref (z + k)
  | .retAddr j => .ref (E j)
  | v => v
theorem sm_v_cat (z : Nat) (E : Nat → Nat) (v : Value) : (sm_v z E v).category = v.category := by cases v <;> rfl
def sm_rz (z : Nat) (r : Option Nat) : Option Nat := r.map (z + ·)
def sm_fv (z kd k j : Nat) (μ : sm_Mem) : Value := match kd with
  | 1 => .long (μ.2.2.2.1 k j)
  | 2 => va_rf (sm_rz z (μ.2.2.2.2 k j))
  | _ => .int (μ.2.2.1 k j)
/-- the cell with number k -/
def sm_ce (z : Nat) (cA : ClassId) (y : Option (Nat ⊕ (Nat × Nat))) (k : Nat) (μ : sm_Mem) : va_E := match y with
  | some (.inl ci) => .inr (ci, (List.range (sm_nf ci)).map fun j => sm_fv z (sm_kd ci j) k j μ)
  | some (.inr (1, n)) => .inl (cA, n, .inr (.inl (μ.2.2.2.1 k)))
  | some (.inr (0, n)) => .inl (cA, n, .inl (μ.2.2.1 k))
  | some (.inr (2, n)) => .inl (cA, n, .inl (μ.2.2.1 k))
  | some (.inr (_, n)) => .inl (cA, n, .inr (.inr (.inr (.inr fun j => sm_rz z (μ.2.2.2.2 k j)))))
  | none => .inr (0, [])
def sm_ws (z : Nat) (cA : Nat → ClassId) (μ : sm_Mem) : va_W := (List.range μ.1).map fun k => (z + k, sm_ce z (cA k) (μ.2.1 k) k μ)
def sm_aty (t : Nat) : FieldType := match t with
  | 0 => .int
  | 1 => .long
  | 2 => .boolean
  | q + 3 => .object (sm_cn q)
def sm_L (z : Nat) (E : Nat → Nat) (ls : Array Slot) (nL : Nat) (l : List (Option Value)) : Prop := l.length = nL ∧ ls.size = nL ∧ lv_wf ls ∧ ∀ (i : Nat) (v : Value), sm_ix l i = some v → ls[i]? = some (.val (sm_v z E v))
def sm_nests : List Cond := tables_1.filter fun w => match w with
  | .fieldLinkNest .. => true
  | .methodLinkNest .. => true
  | _ => false
/-- the texts, at a state -/
def sm_sl : List Nat := [26, 24, 5, 2, 2, 3, 3, 34, 45]
def sm_sb : List (List Int32) := [[114, 101, 108, 105, 101, 118, 101, 32, 115, 110, 101, 101, 122, 101, 32, 112, 97, 114, 100, 111, 110, 32, 112, 97, 115, 115], [116, 105, 114, 101, 115, 32, 114, 101, 115, 116, 115, 32, 110, 111, 116, 105, 99, 101, 115, 32, 98, 97, 114, 115], [116, 105, 109, 101, 115], [105, 102], [111, 114], [97, 110, 100], [110, 111, 116], [104, 111, 117, 114, 32, 100, 111, 110, 101, 32, 108, 97, 116, 101, 115, 116, 32, 117, 112, 32, 104, 101, 108, 100, 32, 102, 105, 116, 32, 116, 105, 114, 101, 100], [109, 97, 110, 32, 104, 111, 108, 100, 32, 116, 105, 114, 101, 100, 32, 104, 101, 108, 100, 32, 111, 116, 104, 101, 114, 32, 117, 110, 108, 105, 107, 101, 32, 104, 111, 117, 114, 32, 119, 101, 97, 116, 104, 101, 114]]
def sm_six : List Nat := [62, 64, 84, 91, 102, 111, 113, 127, 129]
def sm_SX (z : Nat) (E : Nat → Nat) (ex : sm_O) (U : State) : Prop := (∃ adV : Nat → Nat, vk_S 9 sm_sl sm_sb (fun i => E (i + 2)) adV (z ≤ ·) U U.heap) ∧ (∀ i, i < 9 → vk_R "StatueRelief$Reader" (sm_nth 0 sm_six i) (sm_nth "" sm_str i) (E (i + 2)) U) ∧ (∀ i, i < 9 → ex.2 (i + 2) = sm_nth [] sm_sb i) ∧ va_Z "java/lang/String" "COMPACT_STRINGS" "Z" (.int 1) (z ≤ ·) U U.heap ∧ va_Zq "jdk/internal/util/Preconditions" "SIOOBE_FORMATTER" "Ljava/util/function/BiFunction;" (z ≤ ·) U U.heap
/-- what lies outside, at a state -/
noncomputable def sm_Ex (z : Nat) (E : Nat → Nat) (ex : sm_O) (U : State) : Prop := (∀ w ∈ sm_nests, va_Nw w U) ∧ va_AO (sm_cn 0) U ∧ va_AO (sm_cn 6) U ∧ va_AO (sm_cn 9) U ∧ sm_SX z E ex U ∧ va_Z "StatueRelief" "TERMS_MOST" "[I" (.ref (E 0)) (z ≤ ·) U U.heap ∧ (∀ o, o < 2 → E o < z ∧ ∃ cell : Cell, U.heap[E o]? = some cell ∧ U.isArrayOf cell .int ∧ cell.vm ≠ .unknown ∧ ((ex.1 o).1 ≤ cell.slots.size ∧ cell.slots.size.toInt32 = nI (ex.1 o).1) ∧ ∀ j : Nat, j < (ex.1 o).1 → cell.slots[j]? = some (.int ((ex.1 o).2 j)))
/-- the cells, at a heap -/
def sm_Rep (z : Nat) (D : va_G) (cA : Nat → ClassId) (μ : sm_Mem) (s : State) (H : Heap) : Prop :=
  (∀ o t n : Nat, μ.2.1 o = some (.inr (t, n)) → ArrOfT s (cA o) (sm_aty t) ∧ va_RA s (cA o) (sm_aty t)) ∧
  va_P D vwCl (sm_ws z cA μ) H ∧ (∀ o : Nat, μ.2.1 o ≠ none ↔ o < μ.1) ∧ (∀ o j : Nat, μ.1 ≤ o → μ.2.2.1 o j = 0 ∧ μ.2.2.2.1 o j = 0 ∧ μ.2.2.2.2 o j = none)
def sm_Dyn (z : Nat) (D : va_G) (R : Room) (s : State) (μ : sm_Mem) (H : Heap) (locs : List Loc) (cells slots : Nat) (cA : Nat → ClassId) (bc bs : Nat) : Prop :=
  sm_Rep z D cA μ s H ∧ cells + bc = R.cells ∧ slots + bs ≤ R.slots ∧ s.heap.size + cells = z + μ.1 ∧ va_S (z ≤ ·) s.heap H locs
/-- a method's end at pc, with what it answers -/
def sm_ri (k pc : Nat) (r : Option Value) : Prop :=
  (∃ (x : Int32) (ty : FieldType), r = some (.int x) ∧ decode (sm_by k) pc = .ok (.ireturn, 1) ∧ sm_rt k = some ty ∧ narrow ty (.int x) = .int x) ∨
  (∃ x : Int64, r = some (.long x) ∧ decode (sm_by k) pc = .ok (.lreturn, 1) ∧ sm_rt k = some .long) ∨
  (∃ (x : Nat) (n : String), r = some (.ref x) ∧ decode (sm_by k) pc = .ok (.areturn, 1) ∧ sm_rt k = some (.object n)) ∨
  (r = none ∧ decode (sm_by k) pc = .ok (.return_, 1) ∧ sm_rt k = none)
def sm_Fix (z : Nat) (E : Nat → Nat) (D : va_G) (ex : sm_O) (d k : Nat) (Q : sm_Q) (p : Program) (l0 : Launch) (e : Env) (R : Room) (s : State) (m : MethodId) (args : Array Value) (below : List Frame) (meth : Method) (c : Code) (Q' : State → Prop) : Prop :=
  p.tables.exec = Jvm.exec ∧ c.code = sm_by k ∧ c.maxLocals = sm_ml k ∧ meth.name = (sm_y k).name ∧ s.vm.findClass (sm_y k).cls = some m.cls ∧ (∀ w ∈ sm_all, w.before args s = true) ∧ d ≤ R.frames ∧ 41 * d ≤ R.locals ∧ z ≤ s.heap.size ∧ va_K D vwCl [] s ∧ sm_Ex z E ex s ∧
  ∀ (r : Option Value) (μ : sm_Mem) (H : Heap) (locs : List Loc) (cells slots : Nat) (cA : Nat → ClassId) (bc bs pc : Nat) (ls : Array Slot), sm_Dyn z D R s μ H locs cells slots cA bc bs → (bc = 0 ∨ k = sm_klaw) → Q r μ → sm_ri k pc r → W p l0 e R s m args below meth c H locs cells slots Q' (F0 m pc ls (r.map (sm_v z E)).toList)
/-- THE JUDGEMENT: from here on the method comes to its end, with Q of what it answers and of the memory -/
def sm_W (ex : sm_O) : sm_X := fun d bc bs k pc l st μ Q => ∀ (z : Nat) (E : Nat → Nat) (D : va_G) (p : Program) (l0 : Launch) (e : Env) (R : Room) (s : State) (m : MethodId) (args : Array Value) (below : List Frame) (meth : Method) (c : Code) (Q' : State → Prop) (H : Heap) (locs : List Loc) (cells slots : Nat) (cA : Nat → ClassId) (ls : Array Slot),
  sm_Fix z E D ex d k Q p l0 e R s m args below meth c Q' → sm_Dyn z D R s μ H locs cells slots cA bc bs → sm_L z E ls (sm_ml k) l → W p l0 e R s m args below meth c H locs cells slots Q' (F0 m pc ls (st.map (sm_v z E)))
def sm_F (ex : sm_O) (X : sm_X) : sm_X := fun d bc bs k pc l st μ Q => match sm_lk (sm_cd k) pc with
  | none => False
  | some e => sm_i ex X d bc bs k pc l st μ Q e.1 e.2.2.1 e.2.2.2.1 e.2.2.2.2.1 e.2.2.2.2.2.2
