-- THE PLAIN MACHINE: memory by cell number and place, no heap, no tables; a judgement over it (sm_W), rules of it; its soundness stands in the parts behind
abbrev sm_Y : Type := Nat → Option (Nat ⊕ (Nat × Nat))
/-- how many cells; what kind each is; ints, longs, references by cell and place -/
abbrev sm_Mem : Type := Nat × sm_Y × (Nat → Nat → Int32) × (Nat → Nat → Int64) × (Nat → Nat → Option Nat)
abbrev sm_Q : Type := Option Value → sm_Mem → Prop
abbrev sm_X : Type := Nat → Nat → Nat → Nat → Nat → List (Option Value) → List Value → sm_Mem → sm_Q → Prop
/-- what lies outside: arrays of ints by number (length, contents), texts by number -/
abbrev sm_O : Type := (Nat → Nat × (Nat → Int32)) × (Nat → List Int32)
def sm_st {α : Type} (I : Nat → Nat → α) (o j : Nat) (v : α) : Nat → Nat → α := fun o' j' => if o' = o ∧ j' = j then v else I o' j'
def sm_cp {α : Type} (I : Nat → Nat → α) (o sp q dp n : Nat) : Nat → Nat → α := fun o' j' => if o' = q ∧ dp ≤ j' ∧ j' < dp + n then I o (sp + (j' - dp)) else I o' j'
def sm_up {α : Type} (y : Nat → α) (n : Nat) (v : α) : Nat → α := fun o => if o = n then v else y o
def sm_ix {α : Type} : List (Option α) → Nat → Option α
  | [], _ => none
  | a :: _, 0 => a
  | _ :: t, n + 1 => sm_ix t n
/-- local variables: place i becomes v; a long that began just ahead is no more -/
def sm_iv : Option Value → Option Value
  | some (.long _) => none
  | some (.double _) => none
  | a => a
def sm_se : List (Option Value) → Nat → Option Value → List (Option Value)
  | [], _, _ => []
  | _ :: t, 0, v => v :: t
  | [a], _ + 1, _ => [a]
  | a :: _ :: t, 1, v => sm_iv a :: v :: t
  | a :: b :: t, n + 2, v => a :: sm_se (b :: t) (n + 1) v
/-- the same, and the place behind it is none (a long comes) -/
def sm_cl : List (Option Value) → Nat → List (Option Value)
  | [], _ => []
  | _ :: t, 0 => none :: t
  | a :: t, n + 1 => a :: sm_cl t n
def sm_no : Nat → List (Option Value)
  | 0 => []
  | n + 1 => none :: sm_no n
def sm_en : List Value → Nat → List (Option Value)
  | [], n => sm_no n
  | .long x :: t, n + 2 => some (.long x) :: none :: sm_en t n
  | .long _ :: _, _ => []
  | .double _ :: _, n => sm_no n
  | _ :: _, 0 => []
  | v :: t, n + 1 => some v :: sm_en t n
def sm_ct : List Value → Nat
  | [] => 0
  | v :: t => v.category + sm_ct t
def sm_p1 (st : List Value) (f : Int32 → List Value → Prop) : Prop := match st with
  | .int x :: t => f x t
  | _ => False
def sm_p2 (st : List Value) (f : Int32 → Int32 → List Value → Prop) : Prop := match st with
  | .int y :: .int x :: t => f x y t
  | _ => False
def sm_q1 (st : List Value) (f : Int64 → List Value → Prop) : Prop := match st with
  | .long x :: t => f x t
  | _ => False
def sm_q2 (st : List Value) (f : Int64 → Int64 → List Value → Prop) : Prop := match st with
  | .long y :: .long x :: t => f x y t
  | _ => False
def sm_pr (st : List Value) (f : Nat → List Value → Prop) : Prop := match st with
  | .ref o :: t => f o t
  | _ => False
/-- a cell of ours, or one that lies outside -/
def sm_pe (st : List Value) (f : Nat → List Value → Prop) (g : Nat → List Value → Prop) : Prop := match st with
  | .ref o :: t => f o t
  | .retAddr o :: t => g o t
  | _ => False
def sm_ph (st : List Value) (f : Value → List Value → Prop) : Prop := match st with
  | v :: t => f v t
  | _ => False
def sm_rt1 (st : List Value) (f : Value → Prop) : Prop := match st with
  | [v] => f v
  | _ => False
def sm_li (l : List (Option Value)) (i : Nat) (f : Int32 → Prop) : Prop := match sm_ix l i with
  | some (.int v) => f v
  | _ => False
def sm_ll (l : List (Option Value)) (i : Nat) (f : Int64 → Prop) : Prop := match sm_ix l i with
  | some (.long v) => f v
  | _ => False
def sm_la (l : List (Option Value)) (i : Nat) (f : Value → Prop) : Prop := match sm_ix l i with
  | some (.ref v) => f (.ref v)
  | some (.retAddr v) => f (.retAddr v)
  | _ => False
/-- a reference that is read: null, or a cell -/
def sm_rr (r : Option Nat) (f : Value → Prop) : Prop := (r = none → f .null) ∧ ∀ q : Nat, r = some q → f (.ref q)
/-- what an if asks of one int, of two -/
def sm_c1 (c : ClassFile.Cond) (x : Int32) (t f : Prop) : Prop := match c with
  | .eq => (x = 0 → t) ∧ (¬ x = 0 → f)
  | .ne => (¬ x = 0 → t) ∧ (x = 0 → f)
  | .lt => (x < 0 → t) ∧ (¬ x < 0 → f)
  | .ge => (0 ≤ x → t) ∧ (¬ 0 ≤ x → f)
  | .gt => (0 < x → t) ∧ (¬ 0 < x → f)
  | .le => (x ≤ 0 → t) ∧ (¬ x ≤ 0 → f)
def sm_c2 (c : ClassFile.Cond) (x y : Int32) (t f : Prop) : Prop := match c with
  | .eq => (x = y → t) ∧ (¬ x = y → f)
  | .ne => (¬ x = y → t) ∧ (x = y → f)
  | .lt => (x < y → t) ∧ (¬ x < y → f)
  | .ge => (y ≤ x → t) ∧ (¬ y ≤ x → f)
  | .gt => (y < x → t) ∧ (¬ y < x → f)
  | .le => (x ≤ y → t) ∧ (¬ x ≤ y → f)
/-- a field that is put: 0 int, 1 long, 2 reference, 3 boolean -/
def sm_pf (kd : Nat) (o b : Nat) (v : Value) (μ : sm_Mem) (N : sm_Mem → Prop) : Prop := match kd, v with
  | 0, .int x => N (μ.1, μ.2.1, sm_st μ.2.2.1 o b x, μ.2.2.2.1, μ.2.2.2.2)
  | 3, .int x => (x = 0 ∨ x = 1) ∧ N (μ.1, μ.2.1, sm_st μ.2.2.1 o b x, μ.2.2.2.1, μ.2.2.2.2)
  | 1, .long x => N (μ.1, μ.2.1, μ.2.2.1, sm_st μ.2.2.2.1 o b x, μ.2.2.2.2)
  | 2, .ref q => N (μ.1, μ.2.1, μ.2.2.1, μ.2.2.2.1, sm_st μ.2.2.2.2 o b (some q))
  | _, _ => False
def sm_gf (kd : Nat) (o b : Nat) (μ : sm_Mem) (N : Value → Prop) : Prop := match kd with
  | 1 => N (.long (μ.2.2.2.1 o b))
  | 2 => sm_rr (μ.2.2.2.2 o b) N
  | _ => N (.int (μ.2.2.1 o b))
def sm_callN (X : sm_X) (d bc bs k pc : Nat) (l : List (Option Value)) (μ : sm_Mem) (Q : sm_Q) (k2 ml : Nat) (as rest : List Value) : Prop :=
  ∃ (d1 c1 s1 : Nat) (P : sm_Q), d1 < d ∧ c1 ≤ bc ∧ s1 ≤ bs ∧ sm_ct rest ≤ 8 ∧ sm_ct as ≤ ml ∧ X d1 c1 s1 k2 0 (sm_en as ml) [] μ P ∧ ∀ (r : Option Value) (μ1 : sm_Mem), P r μ1 → X d (bc - c1) (bs - s1) k (pc + 3) l (r.toList ++ rest) μ1 Q
/-- what an instruction asks for: X of what comes behind it -/
def sm_i (ex : sm_O) (X : sm_X) (d bc bs k pc : Nat) (l : List (Option Value)) (st : List Value) (μ : sm_Mem) (Q : sm_Q) (ins : Instr) (a b c : Nat) (v : Value) : Prop := match ins with
  | .iconst _ => X d bc bs k (pc + 1) l (v :: st) μ Q
  | .lconst _ => X d bc bs k (pc + 1) l (v :: st) μ Q
  | .bipush _ => X d bc bs k (pc + 2) l (v :: st) μ Q
  | .sipush _ => X d bc bs k (pc + 3) l (v :: st) μ Q
  | .ldc _ => X d bc bs k (pc + 2) l (v :: st) μ Q
  | .ldc_w _ => X d bc bs k (pc + 3) l (v :: st) μ Q
  | .ldc2_w _ => X d bc bs k (pc + 3) l (v :: st) μ Q
  | .iload i => sm_li l i fun x => X d bc bs k (pc + 2) l (.int x :: st) μ Q
  | .iload_n i => sm_li l i.val fun x => X d bc bs k (pc + 1) l (.int x :: st) μ Q
  | .lload i => sm_ll l i fun x => X d bc bs k (pc + 2) l (.long x :: st) μ Q
  | .lload_n i => sm_ll l i.val fun x => X d bc bs k (pc + 1) l (.long x :: st) μ Q
  | .aload i => sm_la l i fun x => X d bc bs k (pc + 2) l (x :: st) μ Q
  | .aload_n i => sm_la l i.val fun x => X d bc bs k (pc + 1) l (x :: st) μ Q
  | .istore i => sm_p1 st fun x t => i < l.length ∧ X d bc bs k (pc + 2) (sm_se l i (some (.int x))) t μ Q
  | .istore_n i => sm_p1 st fun x t => i.val < l.length ∧ X d bc bs k (pc + 1) (sm_se l i.val (some (.int x))) t μ Q
  | .lstore i => sm_q1 st fun x t => i + 1 < l.length ∧ X d bc bs k (pc + 2) (sm_cl (sm_se l i (some (.long x))) (i + 1)) t μ Q
  | .lstore_n i => sm_q1 st fun x t => i.val + 1 < l.length ∧ X d bc bs k (pc + 1) (sm_cl (sm_se l i.val (some (.long x))) (i.val + 1)) t μ Q
  | .astore i => sm_pr st fun x t => i < l.length ∧ X d bc bs k (pc + 2) (sm_se l i (some (.ref x))) t μ Q
  | .astore_n i => sm_pr st fun x t => i.val < l.length ∧ X d bc bs k (pc + 1) (sm_se l i.val (some (.ref x))) t μ Q
  | .iinc i _ => sm_p1 [v] fun w _ => sm_li l i fun x => i < l.length ∧ X d bc bs k (pc + 3) (sm_se l i (some (.int (x + w)))) st μ Q
  | .iadd => sm_p2 st fun x y t => X d bc bs k (pc + 1) l (.int (x + y) :: t) μ Q
  | .isub => sm_p2 st fun x y t => X d bc bs k (pc + 1) l (.int (x - y) :: t) μ Q
  | .imul => sm_p2 st fun x y t => X d bc bs k (pc + 1) l (.int (x * y) :: t) μ Q
  | .iand => sm_p2 st fun x y t => X d bc bs k (pc + 1) l (.int (x &&& y) :: t) μ Q
  | .ior => sm_p2 st fun x y t => X d bc bs k (pc + 1) l (.int (x ||| y) :: t) μ Q
  | .ixor => sm_p2 st fun x y t => X d bc bs k (pc + 1) l (.int (x ^^^ y) :: t) μ Q
  | .ishl => sm_p2 st fun x y t => X d bc bs k (pc + 1) l (.int (x <<< (y &&& 31)) :: t) μ Q
  | .ishr => sm_p2 st fun x y t => X d bc bs k (pc + 1) l (.int (x >>> (y &&& 31)) :: t) μ Q
  | .iushr => sm_p2 st fun x y t => X d bc bs k (pc + 1) l (.int (x.toUInt32 >>> (y.toUInt32 &&& Int32.toUInt32 31)).toInt32 :: t) μ Q
  | .ineg => sm_p1 st fun x t => X d bc bs k (pc + 1) l (.int (-x) :: t) μ Q
  | .irem => sm_p2 st fun x y t => ¬ y = 0 ∧ X d bc bs k (pc + 1) l (.int (x - x / y * y) :: t) μ Q
  | .ladd => sm_q2 st fun x y t => X d bc bs k (pc + 1) l (.long (x + y) :: t) μ Q
  | .lsub => sm_q2 st fun x y t => X d bc bs k (pc + 1) l (.long (x - y) :: t) μ Q
  | .lmul => sm_q2 st fun x y t => X d bc bs k (pc + 1) l (.long (x * y) :: t) μ Q
  | .ldiv => sm_q2 st fun x y t => ¬ y = 0 ∧ X d bc bs k (pc + 1) l (.long (x / y) :: t) μ Q
  | .lrem => sm_q2 st fun x y t => ¬ y = 0 ∧ X d bc bs k (pc + 1) l (.long (x - x / y * y) :: t) μ Q
  | .lcmp => sm_q2 st fun x y t => X d bc bs k (pc + 1) l (.int (lg_cmp x y) :: t) μ Q
  | .i2l => sm_p1 st fun x t => X d bc bs k (pc + 1) l (.long x.toInt64 :: t) μ Q
  | .l2i => sm_q1 st fun x t => X d bc bs k (pc + 1) l (.int x.toInt32 :: t) μ Q
  | .dup => sm_ph st fun x t => x.category = 1 ∧ X d bc bs k (pc + 1) l (x :: x :: t) μ Q
  | .pop => sm_ph st fun x t => x.category = 1 ∧ X d bc bs k (pc + 1) l t μ Q
  | .dup2 => sm_ph st fun x t => sm_ph t fun y t => x.category = 1 ∧ y.category = 1 ∧ X d bc bs k (pc + 1) l (x :: y :: x :: y :: t) μ Q
  | .goto _ => X d bc bs k a l st μ Q
  | .ifCond q _ => sm_p1 st fun x t => sm_c1 q x (X d bc bs k a l t μ Q) (X d bc bs k (pc + 3) l t μ Q)
  | .if_icmp q _ => sm_p2 st fun x y t => sm_c2 q x y (X d bc bs k a l t μ Q) (X d bc bs k (pc + 3) l t μ Q)
  | .ifnull _ => sm_ph st fun x t => match x with
    | .null => X d bc bs k a l t μ Q
    | .ref _ => X d bc bs k (pc + 3) l t μ Q
    | _ => False
  | .ifnonnull _ => sm_ph st fun x t => match x with
    | .null => X d bc bs k (pc + 3) l t μ Q
    | .ref _ => X d bc bs k a l t μ Q
    | _ => False
  | .tableswitch _ lo hi offs => sm_p1 st fun x t => (x.toInt < lo ∨ hi < x.toInt → X d bc bs k a l t μ Q) ∧ ∀ (j : Nat) (off : Int), offs[j]? = some off → x.toInt = lo + (j : Int) → X d bc bs k ((pc : Int) + off).toNat l t μ Q
  | .getfield _ => sm_pr st fun o t => μ.2.1 o = some (.inl a) ∧ sm_gf (c % 8) o b μ fun x => X d bc bs k (pc + 3) l (x :: t) μ Q
  | .putfield _ => sm_ph st fun x t => sm_pr t fun o t => μ.2.1 o = some (.inl a) ∧ sm_pf (c % 4) o b x μ fun μ1 => X d bc bs k (pc + 3) l t μ1 Q
  | .getstatic _ => X d bc bs k (pc + 3) l (v :: st) μ Q
  | .iaload => sm_p1 st fun i t => sm_pe t (fun o t => ∃ n : Nat, μ.2.1 o = some (.inr (0, n)) ∧ vp_in i n ∧ X d bc bs k (pc + 1) l (.int (μ.2.2.1 o i.toNatClampNeg) :: t) μ Q) (fun o t => o < 2 ∧ vp_in i (ex.1 o).1 ∧ X d bc bs k (pc + 1) l (.int ((ex.1 o).2 i.toNatClampNeg) :: t) μ Q)
  | .baload => sm_p1 st fun i t => sm_pr t fun o t => ∃ n : Nat, μ.2.1 o = some (.inr (2, n)) ∧ vp_in i n ∧ X d bc bs k (pc + 1) l (.int (μ.2.2.1 o i.toNatClampNeg) :: t) μ Q
  | .laload => sm_p1 st fun i t => sm_pr t fun o t => ∃ n : Nat, μ.2.1 o = some (.inr (1, n)) ∧ vp_in i n ∧ X d bc bs k (pc + 1) l (.long (μ.2.2.2.1 o i.toNatClampNeg) :: t) μ Q
  | .aaload => sm_p1 st fun i t => sm_pr t fun o t => ∃ n q : Nat, μ.2.1 o = some (.inr (q + 3, n)) ∧ vp_in i n ∧ sm_rr (μ.2.2.2.2 o i.toNatClampNeg) fun x => X d bc bs k (pc + 1) l (x :: t) μ Q
  | .iastore => sm_p1 st fun x t => sm_p1 t fun i t => sm_pr t fun o t => ∃ n : Nat, μ.2.1 o = some (.inr (0, n)) ∧ vp_in i n ∧ X d bc bs k (pc + 1) l t (μ.1, μ.2.1, sm_st μ.2.2.1 o i.toNatClampNeg x, μ.2.2.2.1, μ.2.2.2.2) Q
  | .bastore => sm_p1 st fun x t => sm_p1 t fun i t => sm_pr t fun o t => ∃ n : Nat, μ.2.1 o = some (.inr (2, n)) ∧ vp_in i n ∧ (x = 0 ∨ x = 1) ∧ X d bc bs k (pc + 1) l t (μ.1, μ.2.1, sm_st μ.2.2.1 o i.toNatClampNeg x, μ.2.2.2.1, μ.2.2.2.2) Q
  | .lastore => sm_q1 st fun x t => sm_p1 t fun i t => sm_pr t fun o t => ∃ n : Nat, μ.2.1 o = some (.inr (1, n)) ∧ vp_in i n ∧ X d bc bs k (pc + 1) l t (μ.1, μ.2.1, μ.2.2.1, sm_st μ.2.2.2.1 o i.toNatClampNeg x, μ.2.2.2.2) Q
  | .aastore => sm_pr st fun x t => sm_p1 t fun i t => sm_pr t fun o t => ∃ n q : Nat, μ.2.1 o = some (.inr (q + 3, n)) ∧ μ.2.1 x = some (.inl q) ∧ vp_in i n ∧ X d bc bs k (pc + 1) l t (μ.1, μ.2.1, μ.2.2.1, μ.2.2.2.1, sm_st μ.2.2.2.2 o i.toNatClampNeg (some x)) Q
  | .arraylength => sm_pe st (fun o t => ∃ n q : Nat, μ.2.1 o = some (.inr (q, n)) ∧ X d bc bs k (pc + 1) l (.int (nI n) :: t) μ Q) (fun o t => o < 2 ∧ X d bc bs k (pc + 1) l (.int (nI (ex.1 o).1) :: t) μ Q)
  | .new _ => 1 ≤ bc ∧ b ≤ bs ∧ X d (bc - 1) (bs - b) k (pc + 3) l (.ref μ.1 :: st) (μ.1 + 1, sm_up μ.2.1 μ.1 (some (.inl a)), μ.2.2.1, μ.2.2.2.1, μ.2.2.2.2) Q
  | .newarray _ => sm_p1 st fun x t => ¬ x < 0 ∧ x.toNatClampNeg ≤ 10000000 ∧ 1 ≤ bc ∧ x.toNatClampNeg ≤ bs ∧ X d (bc - 1) (bs - x.toNatClampNeg) k (pc + 2) l (.ref μ.1 :: t) (μ.1 + 1, sm_up μ.2.1 μ.1 (some (.inr (a, x.toNatClampNeg))), μ.2.2.1, μ.2.2.2.1, μ.2.2.2.2) Q
  | .anewarray _ => sm_p1 st fun x t => ¬ x < 0 ∧ x.toNatClampNeg ≤ 10000000 ∧ 1 ≤ bc ∧ x.toNatClampNeg ≤ bs ∧ X d (bc - 1) (bs - x.toNatClampNeg) k (pc + 3) l (.ref μ.1 :: t) (μ.1 + 1, sm_up μ.2.1 μ.1 (some (.inr (a + 3, x.toNatClampNeg))), μ.2.2.1, μ.2.2.2.1, μ.2.2.2.2) Q
  | .ireturn => sm_rt1 st fun x => sm_p1 [x] fun x _ => match c with
    | 0 => bc = 0 ∧ Q (some (.int x)) μ
    | 1 => bc = 0 ∧ (x = 0 ∨ x = 1) ∧ Q (some (.int x)) μ
    | _ => (x = 0 ∨ x = 1) ∧ Q (some (.int x)) μ
  | .lreturn => sm_rt1 st fun x => sm_q1 [x] fun x _ => bc = 0 ∧ Q (some (.long x)) μ
  | .areturn => sm_rt1 st fun x => sm_pr [x] fun x _ => bc = 0 ∧ Q (some (.ref x)) μ
  | .return_ => bc = 0 ∧ st = [] ∧ Q none μ
  | .invokevirtual _ => match c with
    | 0 => sm_pr (st.drop b) fun o t => ∃ q : Nat, μ.2.1 o = some (.inl q) ∧ sm_cn q = (sm_y a).cls ∧ sm_pr [v] fun w _ => sm_callN X d bc bs k pc l μ Q a w (.ref o :: (st.take b).reverse) t
    | 1 => sm_pe st (fun _ _ => False) fun o t => (2 ≤ o ∧ o < 11) ∧ 5 ≤ d ∧ sm_ct t ≤ 8 ∧ X d bc bs k (pc + 3) l (.int (nI (ex.2 o).length) :: t) μ Q
    | 2 => sm_p1 st fun i t => sm_pe t (fun _ _ => False) fun o t => (2 ≤ o ∧ o < 11) ∧ 5 ≤ d ∧ sm_ct t ≤ 8 ∧ vp_in i (ex.2 o).length ∧ X d bc bs k (pc + 3) l (.int ((ex.2 o).getD i.toNatClampNeg 0) :: t) μ Q
    | _ => False
  | .invokespecial _ => match c with
    | 0 => sm_pr (st.drop b) fun o t => sm_pr [v] fun w _ => sm_callN X d bc bs k pc l μ Q a w (.ref o :: (st.take b).reverse) t
    | 1 => sm_pr st fun _ t => 1 ≤ d ∧ sm_ct t ≤ 8 ∧ X d bc bs k (pc + 3) l t μ Q
    | _ => False
  | .invokestatic _ => match c with
    | 0 => b ≤ st.length ∧ sm_pr [v] fun w _ => sm_callN X d bc bs k pc l μ Q a w (st.take b).reverse (st.drop b)
    | 1 => sm_p2 st fun x y t => 1 ≤ d ∧ sm_ct t ≤ 8 ∧ X d bc bs k (pc + 3) l (.int (if y < x then y else x) :: t) μ Q
    | 2 => sm_p2 st fun x y t => 1 ≤ d ∧ sm_ct t ≤ 8 ∧ X d bc bs k (pc + 3) l (.int (if x < y then y else x) :: t) μ Q
    | 3 => sm_p2 st fun dp n t => sm_pr t fun q t => sm_p1 t fun sp t => sm_pr t fun o t => 1 ≤ d ∧ sm_ct t ≤ 8 ∧ ∃ n0 n1 : Nat, μ.2.1 o = some (.inr (0, n0)) ∧ μ.2.1 q = some (.inr (0, n1)) ∧ ¬ sp < 0 ∧ ¬ dp < 0 ∧ ¬ n < 0 ∧ sp.toNatClampNeg + n.toNatClampNeg ≤ n0 ∧ dp.toNatClampNeg + n.toNatClampNeg ≤ n1 ∧ X d bc bs k (pc + 3) l t (μ.1, μ.2.1, sm_cp μ.2.2.1 o sp.toNatClampNeg q dp.toNatClampNeg n.toNatClampNeg, μ.2.2.2.1, μ.2.2.2.2) Q
    | _ => False
  | _ => False
