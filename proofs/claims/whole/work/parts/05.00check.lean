-- THE TABLES ARE RIGHT: each entry is what the bytes say, each word stands in the tables
/-- the words: of the tables those that stay -/
def sm_all : List Cond := lw_tbl.filter goodWord
def sm_tb (j : Nat) : List Cond := match j with
  | 0 => tables_1_1
  | 1 => tables_1_2
  | 2 => tables_1_3
  | 3 => tables_1_4
  | 4 => tables_1_5
  | 5 => tables_1_6
  | 6 => tables_1_7
  | _ => tables_1_8
theorem sm_tb_in (j : Nat) : ∀ w ∈ sm_tb j, w ∈ tables_1 := by
  intro w h
  unfold tables_1
  unfold sm_tb at h
  split at h <;> simp only [List.mem_append] <;> simp [h]
def sm_wd (pl : Nat) (w : Cond) : Bool := decide ((sm_tb (pl / 240))[pl % 240]? = some w)
theorem sm_wd_tb {pl : Nat} {w : Cond} (h : sm_wd pl w = true) : w ∈ tables_1 := sm_tb_in _ _ (List.mem_of_getElem? (of_decide_eq_true h))
theorem sm_wd_all {pl : Nat} {w : Cond} (h : sm_wd pl w = true) (g : goodWord w = true) : w ∈ sm_all := List.mem_filter.mpr ⟨List.mem_append_right _ (sm_wd_tb h), g⟩
def sm_T0 (q : Nat) : u_T := (sm_nth ("", (fun _ => ("", "", "", false)), 0) vwCl q).2.1
/-- a method's words: kind (0 virtual, 1 static, 2 <init>), places of code, instance or static, initialised, selects (from 100000: among the private ones), how many parameters -/
noncomputable def sm_mk (k : Nat) (q : Nat × Nat × Nat × Nat × Nat × Nat) : Bool := match q with
  | (kd, p1, p2, p3, p4, n) => sm_wd p1 (.code (sm_y k) (sm_by k) (sm_ml k) (sm_rt k)) && sm_wd p3 (.initialized (sm_y k).cls) && plainName (sm_y k).cls && decide (sm_ml k ≤ 22) &&
    decide ((sm_y k).cls ≠ "java/lang/invoke/MethodHandle" ∧ (sm_y k).cls ≠ "java/lang/invoke/VarHandle" ∧ (parseMethodDescriptor (sm_y k).desc).map (fun d => d.parameters.length) = some n) &&
    (match kd with
    | 0 => sm_wd p2 (.instanceMethod (sm_y k)) && (match Nat.ble 100000 p4 with
      | true => decide ((lw_privs.map (·.1))[p4 - 100000]? = some (sm_y k))
      | false => sm_wd p4 (.selects (sm_y k).cls (sm_y k) (sm_y k)))
    | 1 => sm_wd p2 (.static (sm_y k))
    | _ => sm_wd p2 (.instanceMethod (sm_y k)) && decide ((sm_y k).name = "<init>"))
/-- an entry is right -/
noncomputable def sm_ck (k pc : Nat) (e : sm_E) : Bool := match e with
  | (ins, n, a, b, c, pl, v) => decide (decode (sm_by k) pc = .ok (ins, n)) && (match ins with
    | .iconst i => decide (n = 1 ∧ v = .int (Int32.ofInt i))
    | .lconst i => decide (n = 1 ∧ v = .long (Int64.ofNat i.val))
    | .bipush i => decide (n = 2 ∧ v = .int (Int8.ofInt i).toInt32)
    | .sipush i => decide (n = 3 ∧ v = .int (Int16.ofInt i).toInt32)
    | .ldc i => match c with
      | 0 => match v with
        | .int x => decide (n = 2) && sm_wd pl (.constant (sm_y k).cls i x)
        | _ => false
      | _ => match v with
        | .retAddr j => decide (n = 2 ∧ 2 ≤ j ∧ j < 11 ∧ sm_wd pl (.stringRef (sm_y k).cls i (sm_nth "" sm_str (j - 2))) = true ∧ (sm_y k).cls = "StatueRelief$Reader")
        | _ => false
    | .ldc_w i => match v with
      | .int x => decide (n = 3) && sm_wd pl (.constant (sm_y k).cls i x)
      | _ => false
    | .ldc2_w i => match v with
      | .long x => decide (n = 3) && sm_wd pl (.constantLong (sm_y k).cls i x)
      | _ => false
    | .iload _ => decide (n = 2)
    | .lload _ => decide (n = 2)
    | .aload _ => decide (n = 2)
    | .istore _ => decide (n = 2)
    | .lstore _ => decide (n = 2)
    | .astore _ => decide (n = 2)
    | .iinc _ i => decide (n = 3 ∧ v = .int (Int32.ofInt i))
    | .goto off => decide (n = 3 ∧ (pc : Int) + off = (a : Int))
    | .ifCond _ off => decide (n = 3 ∧ (pc : Int) + off = (a : Int))
    | .if_icmp _ off => decide (n = 3 ∧ (pc : Int) + off = (a : Int))
    | .ifnull off => decide (n = 3 ∧ (pc : Int) + off = (a : Int))
    | .ifnonnull off => decide (n = 3 ∧ (pc : Int) + off = (a : Int))
    | .tableswitch off lo hi offs => decide ((pc : Int) + off = (a : Int)) && offs.toList.all (fun o => decide (0 ≤ (pc : Int) + o)) && decide (hi - lo + 1 = (offs.size : Int))
    | .getfield i => decide (n = 3 ∧ b < sm_nf a ∧ a < 12 ∧ c % 8 = sm_kd a b) && (match Nat.ble 8 c with
      | true => sm_wd pl (.fieldLinkNest (sm_y k).cls i (sm_T0 a b).1 (sm_T0 a b).2.1 (sm_T0 a b).2.2.1 "StatueRelief")
      | false => sm_wd pl (.fieldLink (sm_y k).cls i (sm_T0 a b).1 (sm_T0 a b).2.1 (sm_T0 a b).2.2.1))
    | .putfield i => decide (n = 3 ∧ b < sm_nf a ∧ a < 12 ∧ c % 4 = sm_kd a b) && sm_wd pl (.fieldLink (sm_y k).cls i (sm_T0 a b).1 (sm_T0 a b).2.1 (sm_T0 a b).2.2.1) && (match Nat.ble 4 c with
      | true => decide ((sm_T0 a b).2.2.2 = true ∧ (sm_y k).name = "<init>" ∧ (sm_T0 a b).1 = (sm_y k).cls)
      | false => decide ((sm_T0 a b).2.2.2 = false))
    | .getstatic i => decide (n = 3 ∧ v = .retAddr 0) && (match Nat.ble 8 c with
      | true => sm_wd pl (.fieldLinkNest (sm_y k).cls i "StatueRelief" "TERMS_MOST" "[I" "StatueRelief")
      | false => sm_wd pl (.fieldLink (sm_y k).cls i "StatueRelief" "TERMS_MOST" "[I"))
    | .new i => decide (n = 3 ∧ b = sm_nf a ∧ a < 12) && sm_wd pl (.classLink (sm_y k).cls i (sm_cn a))
    | .newarray t => decide (n = 2 ∧ ((a = 0 ∧ t = .int) ∨ (a = 1 ∧ t = .long) ∨ (a = 2 ∧ t = .boolean)))
    | .anewarray i => decide (n = 3 ∧ (a = 0 ∨ a = 6 ∨ a = 9)) && sm_wd pl (.classLink (sm_y k).cls i (sm_cn a))
    | .ireturn => match c with
      | 0 => decide (n = 1 ∧ sm_rt k = some .int)
      | 1 => decide (n = 1 ∧ sm_rt k = some .boolean)
      | _ => decide (n = 1 ∧ k = sm_klaw ∧ sm_rt k = some .boolean)
    | .lreturn => decide (n = 1 ∧ sm_rt k = some .long)
    | .areturn => decide (n = 1 ∧ sm_rt k = some (.object "StatueRelief$Program"))
    | .return_ => decide (n = 1 ∧ sm_rt k = none)
    | .invokevirtual i => match c with
      | 0 => decide (n = 3 ∧ a < sm_klaw ∧ v = .ref (sm_ml a) ∧ (sm_nth (0, 0, 0, 0, 0, 0) sm_mkl a).1 = 0 ∧ (sm_nth (0, 0, 0, 0, 0, 0) sm_mkl a).2.2.2.2.2 = b) && sm_wd pl (.methodLink (sm_y k).cls i (sm_y a))
      | 1 => decide (n = 3) && sm_wd pl (.methodLink (sm_y k).cls i yJ0_length_8abf5)
      | _ => decide (n = 3 ∧ c = 2) && sm_wd pl (.methodLink (sm_y k).cls i yJ0_charAt_5068e)
    | .invokespecial i => match c with
      | 0 => decide (n = 3 ∧ a < sm_klaw ∧ v = .ref (sm_ml a) ∧ (sm_nth (0, 0, 0, 0, 0, 0) sm_mkl a).1 = 2 ∧ (sm_nth (0, 0, 0, 0, 0, 0) sm_mkl a).2.2.2.2.2 = b) && (match Nat.ble 100000 pl with
        | true => sm_wd (pl - 100000) (.methodLinkNest (sm_y k).cls i (sm_y a) "StatueRelief")
        | false => sm_wd pl (.methodLink (sm_y k).cls i (sm_y a)))
      | _ => decide (n = 3 ∧ c = 1) && sm_wd pl (.methodLink (sm_y k).cls i objectInit)
    | .invokestatic i => match c with
      | 0 => decide (n = 3 ∧ a < sm_klaw ∧ v = .ref (sm_ml a) ∧ (sm_nth (0, 0, 0, 0, 0, 0) sm_mkl a).1 = 1 ∧ (sm_nth (0, 0, 0, 0, 0, 0) sm_mkl a).2.2.2.2.2 = b) && sm_wd pl (.methodLink (sm_y k).cls i (sm_y a))
      | 1 => decide (n = 3) && sm_wd pl (.methodLink (sm_y k).cls i Lib.Math.min.name)
      | 2 => decide (n = 3) && sm_wd pl (.methodLink (sm_y k).cls i Lib.Math.max.name)
      | _ => decide (n = 3 ∧ c = 3) && sm_wd pl (.methodLink (sm_y k).cls i arraycopyName)
    | _ => decide (n = 1))
def sm_ckl (f : Nat → List (Nat × sm_E) → Bool) : Nat → List (List (Nat × sm_E)) → Bool
  | _, [] => true
  | k, c :: t => f k c && sm_ckl f (k + 1) t
theorem sm_ckl_at (f : Nat → List (Nat × sm_E) → Bool) (hf : ∀ k, f k [] = true) : ∀ (cs : List (List (Nat × sm_E))) (k0 i : Nat), sm_ckl f k0 cs = true → f (k0 + i) (sm_nth [] cs i) = true
  | [], k0, i, _ => hf _
  | c :: t, k0, 0, h => by
    simp only [sm_ckl, Bool.and_eq_true] at h
    exact h.1
  | c :: t, k0, i + 1, h => by
    simp only [sm_ckl, Bool.and_eq_true] at h
    have := sm_ckl_at f hf t (k0 + 1) i h.2
    rw [show k0 + (i + 1) = k0 + 1 + i by omega]
    exact this
theorem sm_lk_all {α : Type} {p : Nat × α → Bool} : ∀ (l : List (Nat × α)) (q : Nat) (a : α), l.all p = true → sm_lk l q = some a → p (q, a) = true
  | [], q, a, _, h => by cases h
  | (k, b) :: t, q, a, hp, h => by
    simp only [List.all_cons, Bool.and_eq_true] at hp
    unfold sm_lk at h
    cases hk : Nat.beq k q with
    | true =>
      rw [hk] at h
      cases h
      have : k = q := Nat.eq_of_beq_eq_true hk
      subst this
      exact hp.1
    | false =>
      rw [hk] at h
      exact sm_lk_all t q a hp.2 h
noncomputable def sm_cka (k : Nat) (c : List (Nat × sm_E)) : Bool := c.all (fun q => sm_ck k q.1 q.2)
theorem sm_drop_drop (l : List (Nat × sm_E)) (n m : Nat) : (l.drop n).drop m = l.drop (n + m) := List.drop_drop
theorem sm_cka_cut (k : Nat) (l : List (Nat × sm_E)) (n : Nat) (h : sm_cka k (l.take n) = true) (h2 : sm_cka k (l.drop n) = true) : sm_cka k l = true := by
  have e : l = l.take n ++ l.drop n := (List.take_append_drop n l).symm
  unfold sm_cka at *
  rw [e, List.all_append, h, h2]
  rfl
theorem sm_cka_end (k : Nat) (l : List (Nat × sm_E)) (n : Nat) (h : sm_cka k (l.take n) = true) (h2 : (l.drop n).isEmpty = true) : sm_cka k l = true := by
  have e : l = l.take n ++ l.drop n := (List.take_append_drop n l).symm
  rw [List.isEmpty_iff.mp h2, List.append_nil] at e
  rw [e]
  exact h
