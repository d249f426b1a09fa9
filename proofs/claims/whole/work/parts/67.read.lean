-- THE READER, PURE
def tkE (t : Tp) (p : Nat) : Nat := if tkK t p = 0 then p else if tkK t p = 3 then p + 1 else tkR t (tkK t p) 400 (p + 1)
def nx (t : Tp) (p : Nat) : Nat := tkAt t (tkE t p)
def tkC (t : Tp) (p : Nat) : Nat → List Nat
  | 0 => []
  | i + 1 => t.2 p :: tkC t (p + 1) i
/-- the letters of a word; no word has none -/
def tkWd (t : Tp) (p : Nat) : List Nat := if tkK t p = 1 then tkC t p (tkE t p - p) else []
def dg (t : Tp) (p : Nat) : Nat → Nat
  | 0 => 0
  | i + 1 => dg t p i * 10 + (t.2 (p + i) - 48)
def tkN (t : Tp) (p : Nat) : Nat := dg t p (tkE t p - p)
abbrev isG (t : Tp) (p c : Nat) : Prop := tkK t p = 3 ∧ t.2 p = c
def wIx : List (List Nat) → List Nat → Option Nat
  | [], _ => none
  | w :: r, x => if x = w then some 0 else (wIx r x).map (· + 1)
def lawKinds : List (List Nat) := [[116, 105, 114, 101, 115], [114, 101, 115, 116, 115], [110, 111, 116, 105, 99, 101, 115], [98, 97, 114, 115]]
def ordKinds : List (List Nat) := [[114, 101, 108, 105, 101, 118, 101], [115, 110, 101, 101, 122, 101], [112, 97, 114, 100, 111, 110], [112, 97, 115, 115]]
def lawWords : List (List Nat) := [[109, 97, 110], [104, 111, 108, 100], [116, 105, 114, 101, 100], [104, 101, 108, 100], [111, 116, 104, 101, 114], [117, 110, 108, 105, 107, 101], [104, 111, 117, 114], [119, 101, 97, 116, 104, 101, 114]]
def ordWords : List (List Nat) := [[104, 111, 117, 114], [100, 111, 110, 101], [108, 97, 116, 101, 115, 116], [117, 112], [104, 101, 108, 100], [102, 105, 116], [116, 105, 114, 101, 100]]
def wdNot : List Nat := [110, 111, 116]
def wdAnd : List Nat := [97, 110, 100]
def wdOr : List Nat := [111, 114]
def wdIf : List Nat := [105, 102]
def wdTimes : List Nat := [116, 105, 109, 101, 115]
def dRk (st : Nat) (x y : Int) : Option Int := (sp_rk (nI (st + 17)) (Int64.ofInt x) (Int64.ofInt y)).map Int64.toInt
def dBin (st : Nat) (A B : DD) : DD := fun env => (A env).bind fun x => (B env).bind fun z => dRk st x z
def dAnd (A B : DD) : DD := fun env => (A env).bind fun x => if x = 0 then some 0 else B env
def dOr (A B : DD) : DD := fun env => (A env).bind fun x => if x = 1 then some 1 else B env
def dNot (A : DD) : DD := fun env => (A env).map fun x => 1 - x
def dNum (v : Nat) : DD := fun _ => some (v : Int)
def dWd (i : Nat) : DD := fun env => some (env i)
def dCo (st : Nat) (A B : DD) : DD := if st = 12 then dOr A B else if st = 13 then dAnd A B else dBin st A B
abbrev Rr : Type := Nat ⊕ (Nat × Nat × DD)
def rLeaf (t : Tp) (o : Bool) (p pt : Nat) : Rr := if 50 ≤ pt then .inl p else
  if tkK t p = 2 then (if tkN t p ≤ 1000 then .inr ((nx t p), (pt + 1), (dNum (tkN t p))) else .inl p)
  else match wIx (if o = true then ordWords else lawWords) (tkWd t p) with
    | none => .inl p
    | some i => if o = true ∧ i = 6 then (if tkK t (nx t p) = 2 ∧ tkN t (nx t p) ≤ 6 then .inr ((nx t (nx t p)), (pt + 1), (dWd (6 + tkN t (nx t p)))) else .inl (nx t p)) else .inr ((nx t p), (pt + 1), (dWd i))
def rIn (t : Tp) (c : Nat) (f : Nat → Nat → Rr) (p pt : Nat) : Rr := match f (nx t p) pt with
  | .inl q => .inl q
  | .inr (q, pt', D) => if isG t q c then .inr ((nx t q), pt', D) else .inl q
def rPart (t : Tp) (o : Bool) (inn : Option (Nat → Nat → Rr)) (p pt : Nat) : Rr := if isG t p 91 then (match inn with
    | none => .inl p
    | some f => rIn t 93 f p pt) else rLeaf t o p pt
def rLoop (t : Tp) (op : Nat → Option Nat) (sub : Nat → Nat → Rr) : Nat → Nat → Nat → DD → Rr
  | 0, p, pt, D => .inr (p, pt, D)
  | f + 1, p, pt, D => match op p with
    | none => .inr (p, pt, D)
    | some st => match sub (nx t p) pt with
      | .inl q => .inl q
      | .inr (q, pt', D') => rLoop t op sub f q pt' (dCo st D D')
def rSeq (t : Tp) (op : Nat → Option Nat) (sub : Nat → Nat → Rr) (p pt : Nat) : Rr := match sub p pt with
  | .inl q => .inl q
  | .inr (q, pt', D) => rLoop t op sub 400 q pt' D
def opMul (t : Tp) (p : Nat) : Option Nat := if isG t p 42 then some 5 else if isG t p 47 then some 6 else if isG t p 37 then some 7 else none
def opAdd (t : Tp) (p : Nat) : Option Nat := if isG t p 43 then some 3 else if isG t p 45 then some 4 else none
def opCmp (t : Tp) (p : Nat) : Option Nat := if isG t p 60 then some 8 else if isG t p 62 then some 9 else if isG t p 61 then some 10 else none
def opAnd (t : Tp) (p : Nat) : Option Nat := if tkWd t p = wdAnd then some 13 else none
def opOr (t : Tp) (p : Nat) : Option Nat := if tkWd t p = wdOr then some 12 else none
def rNots (t : Tp) : Nat → Nat → Bool → Nat × Bool
  | 0, p, b => (p, b)
  | f + 1, p, b => if tkWd t p = wdNot then rNots t f (nx t p) (!b) else (p, b)
def rCmp (t : Tp) (sum : Nat → Nat → Rr) (p pt : Nat) : Rr := match sum p pt with
  | .inl q => .inl q
  | .inr (q, pt', A) => match opCmp t q with
    | none => .inl q
    | some st => match sum (nx t q) pt' with
      | .inl q2 => .inl q2
      | .inr (q2, pt2, B) => .inr (q2, pt2, (dBin st A B))
def rBare (t : Tp) (inn : Option (Nat → Nat → Rr)) (sum : Nat → Nat → Rr) (p pt : Nat) : Rr := if isG t p 40 then (match inn with
    | none => .inl p
    | some f => rIn t 41 f p pt) else rCmp t sum p pt
def rPlain (t : Tp) (inn : Option (Nat → Nat → Rr)) (sum : Nat → Nat → Rr) (p pt : Nat) : Rr := match rBare t inn sum (rNots t 400 p false).1 pt with
  | .inl q => .inl q
  | .inr (q, pt', D) => .inr (q, pt', (if (rNots t 400 p false).2 = true then dNot D else D))
def rSum (t : Tp) (o : Bool) : Nat → Nat → Nat → Rr
  | 0 => rSeq t (opAdd t) (rSeq t (opMul t) (rPart t o none))
  | r + 1 => rSeq t (opAdd t) (rSeq t (opMul t) (rPart t o (some (rSum t o r))))
def rTest (t : Tp) (o : Bool) : Nat → Nat → Nat → Rr
  | 0 => rSeq t (opOr t) (rSeq t (opAnd t) (rPlain t none (rSum t o 0)))
  | r + 1 => rSeq t (opOr t) (rSeq t (opAnd t) (rPlain t (some (rTest t o r)) (rSum t o (r + 1))))
abbrev Rc : Type := Nat ⊕ (Nat × Nat × OC)
/-- behind the kind and its sum -/
def rIf (t : Tp) (o : Bool) (kd : Nat) (D : DD) (tm p pt : Nat) : Rc := if tkWd t p = wdIf then (match rTest t o 8 (nx t p) pt with
    | .inl q => .inl q
    | .inr (q, pt', T) => .inr (q, pt', ((kd, D, some T), tm))) else .inr (p, pt, ((kd, D, none), tm))
def rTimes (t : Tp) (o : Bool) (kd : Nat) (D : DD) (p pt : Nat) : Rc := if o = true ∧ tkWd t p = wdTimes then (if tkK t (nx t p) = 2 ∧ 1 ≤ tkN t (nx t p) ∧ tkN t (nx t p) ≤ 20 then rIf t o kd D (tkN t (nx t p)) (nx t (nx t p)) pt else .inl (nx t p)) else rIf t o kd D 1 p pt
def rClause (t : Tp) (o : Bool) (p pt : Nat) : Rc := match wIx (if o = true then ordKinds else lawKinds) (tkWd t p) with
  | none => .inl p
  | some kd => if kd = 3 then rTimes t o kd (dNum 0) (nx t p) pt else match rSum t o 8 (nx t p) pt with
    | .inl q => .inl q
    | .inr (q, pt', D) => rTimes t o kd D q pt'
def rText (t : Tp) (o : Bool) : Nat → Nat → Nat → List OC → Nat ⊕ List OC
  | 0, p, _, _ => .inl p
  | f + 1, p, pt, l => match rClause t o p pt with
    | .inl q => .inl q
    | .inr (q, pt', x) => if tkK t q = 0 then .inr (l ++ [x]) else if isG t q 59 then rText t o f (nx t q) pt' (l ++ [x]) else .inl q
def rAll (t : Tp) (o : Bool) : Nat ⊕ List OC := rText t o 12 (tkAt t 0) 0 []
-- places
theorem tkK_0 {t : Tp} {p : Nat} : tkK t p = 0 ↔ t.1 ≤ p := by
  unfold tkK
  constructor
  · intro h
    by_cases e : p < t.1
    · rw [if_pos e] at h
      split at h
      · cases h
      · split at h <;> cases h
    · omega
  · intro h
    rw [if_neg (by omega)]
theorem tkR_b (t : Tp) (k : Nat) : ∀ f p, p ≤ tkR t k f p ∧ (p ≤ t.1 → tkR t k f p ≤ t.1)
  | 0, p => ⟨Nat.le_refl _, fun h => h⟩
  | f + 1, p => by
    unfold tkR
    by_cases h : p < t.1 ∧ tkK t p = k
    · rw [if_pos h]
      have := tkR_b t k f (p + 1)
      exact ⟨by omega, fun _ => this.2 (by omega)⟩
    · rw [if_neg h]
      exact ⟨Nat.le_refl _, fun h => h⟩
theorem tkE_b {t : Tp} {p : Nat} (h : p ≤ t.1) : p ≤ tkE t p ∧ tkE t p ≤ t.1 := by
  unfold tkE
  split
  · omega
  · rename_i h0
    have : p < t.1 := by
      have := mt tkK_0.mpr h0
      omega
    split
    · omega
    · have := tkR_b t (tkK t p) 400 (p + 1)
      omega
theorem tkE_lt {t : Tp} {p : Nat} (h : tkK t p ≠ 0) : p < tkE t p := by
  unfold tkE
  rw [if_neg h]
  split
  · omega
  · have := tkR_b t (tkK t p) 400 (p + 1)
    omega
theorem nx_b {t : Tp} {p : Nat} (h : p ≤ t.1) : tkE t p ≤ nx t p ∧ nx t p ≤ t.1 := by
  have h1 := tkE_b h
  have h2 := tkS_b t 400 (tkE t p)
  exact ⟨h2.1, h2.2 h1.2⟩
theorem nx_lt {t : Tp} {p : Nat} (h : tkK t p ≠ 0) : p < nx t p := by
  have hp : p ≤ t.1 := by
    have := mt tkK_0.mpr h
    omega
  have := (nx_b hp).1
  have := tkE_lt h
  omega
theorem isG_lt {t : Tp} {p c : Nat} (h : isG t p c) : p < nx t p ∧ p < t.1 := ⟨nx_lt (by rw [h.1]; decide), by
  have : ¬ tkK t p = 0 := by rw [h.1]; decide
  have := mt tkK_0.mpr this
  omega⟩
theorem tkC_len (t : Tp) : ∀ n p, (tkC t p n).length = n
  | 0, _ => rfl
  | n + 1, p => by show (tkC t (p + 1) n).length + 1 = n + 1; rw [tkC_len t n (p + 1)]
theorem tkW_k {t : Tp} {p : Nat} {w : List Nat} (h : tkWd t p = w) (hw : w ≠ []) : tkK t p = 1 ∧ tkE t p = p + w.length ∧ p + w.length ≤ nx t p ∧ p < t.1 := by
  unfold tkWd at h
  split at h
  · rename_i h1
    have hp : p < t.1 := by
      have : ¬ tkK t p = 0 := by rw [h1]; decide
      have := mt tkK_0.mpr this
      omega
    have e := tkE_lt (t := t) (p := p) (by rw [h1]; decide)
    have hl := congrArg List.length h
    rw [tkC_len] at hl
    have := (nx_b (Nat.le_of_lt hp)).1
    exact ⟨h1, by omega, by omega, hp⟩
  · exact absurd h.symm hw
theorem wIx_lt : ∀ (ws : List (List Nat)) (x : List Nat) (i : Nat), wIx ws x = some i → i < ws.length ∧ ws[i]? = some x
  | [], _, _, h => by cases h
  | w :: r, x, i, h => by
    unfold wIx at h
    split at h
    · rename_i e
      cases h
      exact ⟨by simp, by rw [e]; rfl⟩
    · cases hr : wIx r x with
      | none => rw [hr] at h; cases h
      | some j =>
        rw [hr] at h
        cases h
        have := wIx_lt r x j hr
        exact ⟨by simp; omega, this.2⟩
theorem wIx_ne {ws : List (List Nat)} {x : List Nat} {i : Nat} (h : wIx ws x = some i) (hw : ∀ w ∈ ws, 2 ≤ w.length) : 2 ≤ x.length := hw x (List.mem_of_getElem? (wIx_lt ws x i h).2)

-- RANGES
/-- it keeps within bounds in which the words lie -/
def dR (D : DD) : Prop := ∀ (lo hi : Int), lo ≤ -1000000000 → 1000000000 ≤ hi → ∀ env v, (∀ i, lo ≤ env i ∧ env i ≤ hi) → D env = some v → lo ≤ v ∧ v ≤ hi
theorem dR.B {D : DD} (h : dR D) : sp_inB D := fun env v he hv => h (-1000000000) 1000000000 (by omega) (by omega) env v he hv
theorem sp_01.In {D : DD} (h : sp_01 D) : sp_in D := fun env v hv => by
  have := h env v hv
  omega
theorem sp_01.R {D : DD} (h : sp_01 D) : dR D := fun lo hi h1 h2 env v _ hv => by
  have := h env v hv
  omega
theorem dRk_in {st : Nat} {x z v : Int} (h : dRk st x z = some v) : -1000000000 ≤ v ∧ v ≤ 1000000000 := by
  unfold dRk at h
  cases e : sp_rk (nI (st + 17)) (Int64.ofInt x) (Int64.ofInt z) with
  | none => rw [e] at h; cases h
  | some u =>
    rw [e] at h
    cases h
    unfold sp_rk at e
    split at e
    · cases e
    · split at e
      · rename_i hh
        cases e
        have h1 := Int64.le_iff_toInt_le.mp hh.1
        have h2 := Int64.le_iff_toInt_le.mp hh.2
        exact ⟨h1, h2⟩
      · cases e
theorem dBin_R (st : Nat) (A B : DD) : dR (dBin st A B) := by
  intro lo hi h1 h2 env v _ hv
  unfold dBin at hv
  cases ha : A env with
  | none => rw [ha] at hv; cases hv
  | some x =>
    rw [ha] at hv
    cases hb : B env with
    | none => rw [hb] at hv; cases hv
    | some z =>
      rw [hb] at hv
      have := dRk_in (show dRk st x z = some v from hv)
      omega
theorem dNum_R {v : Nat} (h : v ≤ 1000) : dR (dNum v) := by
  intro lo hi h1 h2 env u _ hv
  cases hv
  omega
theorem dWd_R (i : Nat) : dR (dWd i) := by
  intro lo hi h1 h2 env u he hv
  cases hv
  exact he i
theorem dAnd_01 {A B : DD} (hb : sp_01 B) : sp_01 (dAnd A B) := by
  intro env v hv
  unfold dAnd at hv
  cases ha : A env with
  | none => rw [ha] at hv; cases hv
  | some x =>
    rw [ha] at hv
    have hv : (if x = 0 then some 0 else B env) = some v := hv
    split at hv
    · cases hv; exact Or.inl rfl
    · exact hb env v hv
theorem dOr_01 {A B : DD} (hb : sp_01 B) : sp_01 (dOr A B) := by
  intro env v hv
  unfold dOr at hv
  cases ha : A env with
  | none => rw [ha] at hv; cases hv
  | some x =>
    rw [ha] at hv
    have hv : (if x = 1 then some 1 else B env) = some v := hv
    split at hv
    · cases hv; exact Or.inr rfl
    · exact hb env v hv
theorem dNot_01 {A : DD} (ha : sp_01 A) : sp_01 (dNot A) := by
  intro env v hv
  unfold dNot at hv
  cases h : A env with
  | none => rw [h] at hv; cases hv
  | some x =>
    rw [h] at hv
    have hv : some (1 - x) = some v := hv
    cases hv
    have := ha env x h
    omega
theorem dNot_not (A : DD) : dNot (dNot A) = A := by
  funext env
  unfold dNot
  cases A env with
  | none => rfl
  | some x => show some (1 - (1 - x)) = some x; congr 1; omega
theorem dCmp_01 {st : Nat} (h : 8 ≤ st ∧ st ≤ 10) (A B : DD) : sp_01 (dBin st A B) := by
  intro env v hv
  unfold dBin at hv
  cases ha : A env with
  | none => rw [ha] at hv; cases hv
  | some x =>
    rw [ha] at hv
    cases hb : B env with
    | none => rw [hb] at hv; cases hv
    | some z =>
      rw [hb] at hv
      have hv : dRk st x z = some v := hv
      unfold dRk at hv
      cases e : sp_rk (nI (st + 17)) (Int64.ofInt x) (Int64.ofInt z) with
      | none => rw [e] at hv; cases hv
      | some u =>
        rw [e] at hv
        cases hv
        unfold sp_rk at e
        split at e
        · cases e
        · split at e
          · cases e
            obtain rfl | rfl | rfl : st = 8 ∨ st = 9 ∨ st = 10 := by omega
            · unfold rk_val
              rw [if_neg (by decide), if_neg (by decide), if_neg (by decide), if_neg (by decide), if_neg (by decide), if_pos (by decide)]
              split
              · exact Or.inr rfl
              · exact Or.inl rfl
            · unfold rk_val
              rw [if_neg (by decide), if_neg (by decide), if_neg (by decide), if_neg (by decide), if_neg (by decide), if_neg (by decide), if_pos (by decide)]
              split
              · exact Or.inr rfl
              · exact Or.inl rfl
            · unfold rk_val
              rw [if_neg (by decide), if_neg (by decide), if_neg (by decide), if_neg (by decide), if_neg (by decide), if_neg (by decide), if_neg (by decide)]
              split
              · exact Or.inr rfl
              · exact Or.inl rfl
          · cases e

