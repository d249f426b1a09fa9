-- WHAT A LAW TELLS (the model)
/-- the code from a to b pushes what D tells, or breaks -/
def mSeg (cd : Nat → Int32 × Int32) (a b : Nat) (D : (Int32 → Int32 → Int64) → Option Int64) : Prop := a ≤ b ∧ ∀ (lf : Int32 → Int32 → Int64) (e : Nat) (st : List Int64) (P : Option (List Int64) → Prop) (f : Nat), b ≤ e → (match D lf with
  | some v => mEv cd lf e f b (v :: st) P
  | none => P none) → ∃ f', mEv cd lf e f' a st P
/-- nothing but the sums' own cells is touched -/
def mFq (I I' : Nat → Nat → Int32) (L L' : Nat → Nat → Int64) : Prop := (∀ a j, ¬ (a = 123 ∧ j = 38) → I' a j = I a j) ∧ ∀ a j, a ≠ 143 → ¬ (a = 123 ∧ (j = 39 ∨ j = 40)) → L' a j = L a j
theorem mFq.rfl' (I : Nat → Nat → Int32) (L : Nat → Nat → Int64) : mFq I I L L := ⟨fun _ _ _ => rfl, fun _ _ _ _ => rfl⟩
theorem mFq.trans {I I' I2 : Nat → Nat → Int32} {L L' L2 : Nat → Nat → Int64} (h1 : mFq I I' L L') (h2 : mFq I' I2 L' L2) : mFq I I2 L L2 := ⟨fun a j h => (h2.1 a j h).trans (h1.1 a j h), fun a j h h' => (h2.2 a j h h').trans (h1.2 a j h h')⟩
theorem mFr.q {I I' : Nat → Nat → Int32} {L L' : Nat → Nat → Int64} (h : mFr I I' L L') : mFq I I' L L' := ⟨h.1, fun a j h1 _ => h.2 a j h1⟩
theorem mFq.v (I : Nat → Nat → Int32) (L : Nat → Nat → Int64) (v : Int64) : mFq I I L (sm_st L 123 39 v) := ⟨fun _ _ _ => rfl, fun a j _ h => by
  by_cases ha : a = 123
  · exact sm_st_j _ _ (fun hj => h ⟨ha, Or.inl hj⟩)
  · exact sm_st_o _ _ ha⟩
theorem mFq.s (I : Nat → Nat → Int32) (L : Nat → Nat → Int64) (v : Int64) : mFq I I L (sm_st L 123 40 v) := ⟨fun _ _ _ => rfl, fun a j _ h => by
  by_cases ha : a = 123
  · exact sm_st_j _ _ (fun hj => h ⟨ha, Or.inr hj⟩)
  · exact sm_st_o _ _ ha⟩
theorem mCd_keptq {I I' : Nat → Nat → Int32} {L L' : Nat → Nat → Int64} (h : mFq I I' L L') (k : Nat) : mCd I' k = mCd I k := by
  unfold mCd
  rw [h.1 123 20 (by simp), h.1 123 34 (by simp), h.1 125 _ (by simp), h.1 125 _ (by simp), h.1 134 _ (by simp), h.1 135 _ (by simp)]
theorem mLf_keptq {I I' : Nat → Nat → Int32} {L L' : Nat → Nat → Int64} (h : mFq I I' L L') : mLf I' L' = mLf I L := by
  funext op arg
  unfold mLf
  rw [h.1 123 20 (by simp), h.1 125 _ (by simp), h.1 125 _ (by simp), h.2 141 _ (by simp) (by simp), h.2 142 _ (by simp) (by simp)]
def mVal (o : Option Int64) (I' : Nat → Nat → Int32) (L' : Nat → Nat → Int64) : Prop := match o with
  | some v => I' 123 38 = 0 ∧ L' 123 39 = v
  | none => I' 123 38 = 1
set_option maxHeartbeats 1000000 in
theorem c_X11_reckonAll {ex : sm_O} {n : Nat} {y : sm_Y} {I : Nat → Nat → Int32} {L : Nat → Nat → Int64} {R : Nat → Nat → Option Nat} {Q : sm_Q} {d a e B : Nat} {w3 w4 w5 w6 : Option Value} {D : (Int32 → Int32 → Int64) → Option Int64} (hd : 2 ≤ d) (hG : sm_G y R) (he : e ≤ 400) (hB : B + 98 + 2 * 400 + 1 < 5450) (hb : I 123 20 = 0 → I 123 34 = nI B) (hm : ∃ m, m ≤ 7 ∧ I 125 0 = nI m) (hs : mSeg (mCd I) a e D)
    (k : ∀ (I' : Nat → Nat → Int32) (L' : Nat → Nat → Int64), mFq I I' L L' → mVal (D (mLf I L)) I' L' → Q none (n, y, I', L', R)) : sm_W ex d 0 0 182 0 [some (.ref 123), some (.int (nI a)), some (.int (nI e)), w3, w4, w5, w6] [] (n, y, I, L, R) Q := by
  refine w_X11_reckonAll_0 hG ?_
  have hf0 : mFq I (sm_st I 123 38 0) L L := (mFr.I1 I L 0).q
  obtain ⟨f, hf⟩ := hs.2 (mLf I L) e [] (fun o => o = (D (mLf I L)).map (fun v => [v])) 1 (Nat.le_refl _) (by
    cases hD : D (mLf I L) with
    | none => rfl
    | some v =>
      show mEv _ _ _ 1 _ _ _
      unfold mEv
      rw [if_pos rfl]
      rfl)
  refine lp_reckonAll (cd := mCd I) (lf := mLf I L) hd hG he hB f a [] _ L _ _ _ (fun j => (mCd_keptq hf0 j).symm) (fun op arg => by rw [mLf_keptq hf0]) (fun h => by rw [hf0.1 123 34 (by simp)]; exact hb (by rw [← hf0.1 123 20 (by simp)]; exact h)) (by rw [hf0.1 125 0 (by simp)]; exact hm) (sm_st_s _ _ _ _) trivial (Nat.zero_le _) hf ?_
  intro o I' L' nn kk v1 v5 v6 ho hfr hout
  have hq := hf0.trans hfr.q
  refine w_X11_reckonAll_332 hG ?_
  cases hD : D (mLf I L) with
  | none =>
    rw [hD] at ho
    cases ho
    have hr : ∀ v : Int64, Q none (n, y, I', sm_st L' 123 39 v, R) := fun v => k I' _ (hq.trans (mFq.v I' L' v)) (by rw [hD]; exact hout)
    split
    · exact hr 0
    · exact hr _
  | some v =>
    rw [hD] at ho
    cases ho
    obtain ⟨h0, hst, hnn⟩ := hout
    subst hnn
    show if nI 1 ≤ 0 then Q none (n, y, I', sm_st L' 123 39 0, R) else Q none (n, y, I', sm_st L' 123 39 (L' 143 0), R)
    rw [if_neg (show ¬ nI 1 ≤ 0 by decide)]
    have hv : L' 143 0 = v := hst.1
    rw [hv]
    exact k I' _ (hq.trans (mFq.v I' L' v)) (by rw [hD]; exact ⟨h0, sm_st_s _ _ _ _⟩)

set_option maxRecDepth 100000 in
theorem w_X11_isSo_0 {ex : sm_O} {d n : Nat} {y : sm_Y} {I : Nat → Nat → Int32} {L : Nat → Nat → Int64} {R : Nat → Nat → Option Nat} {Q : sm_Q} {a1 : Int32} {d1 : Nat} (hG : sm_G y R) (h1 : d1 < d) (k : vp_in (a1 + 5) 5450 ∧ vp_in (a1 + 6) 5450 ∧ (if (I 125 (a1 + 6).toNatClampNeg) ≤ (I 125 (a1 + 5).toNatClampNeg) then (vp_in a1 5450 ∧ (if (I 125 a1.toNatClampNeg) = 3 then (Q (some (.int 1)) (n, y, I, L, R)) else (vp_in (a1 + 3) 5450 ∧ vp_in (a1 + 4) 5450 ∧ sm_W ex d1 0 0 182 0 [some (.ref 123), some (.int (I 125 (a1 + 3).toNatClampNeg)), some (.int (I 125 (a1 + 4).toNatClampNeg)), none, none, none, none] [] (n, y, I, L, R) (fun r μ1 => sm_W ex d 0 0 183 89 [some (.ref 123), some (.int a1)] (r.toList ++ []) μ1 Q)))) else (sm_W ex d1 0 0 182 0 [some (.ref 123), some (.int (I 125 (a1 + 5).toNatClampNeg)), some (.int (I 125 (a1 + 6).toNatClampNeg)), none, none, none, none] [] (n, y, I, L, R) (fun r μ1 => sm_W ex d 0 0 183 41 [some (.ref 123), some (.int a1)] (r.toList ++ []) μ1 Q)))) : sm_W ex d 0 0 183 0 [some (.ref 123), some (.int a1)] [] (n, y, I, L, R) Q := sm_in (sm_in (And.intro (hG.1 123 (Nat.le_of_ble_eq_true rfl)) (sm_gfr rfl (hG.2 123 3 rfl) (sm_in (sm_in (sm_in ((have e1 := k.1; have k1 := k.2; sm_in (Exists.intro 5450 (And.intro (hG.1 125 (Nat.le_of_ble_eq_true rfl)) (And.intro e1 (sm_in (sm_in (And.intro (hG.1 123 (Nat.le_of_ble_eq_true rfl)) (sm_gfr rfl (hG.2 123 3 rfl) (sm_in (sm_in (sm_in ((have e2 := k1.1; have k2 := k1.2; sm_in (Exists.intro 5450 (And.intro (hG.1 125 (Nat.le_of_ble_eq_true rfl)) (And.intro e2 (sm_in (And.intro (fun c3 => have k3t := Eq.mp (if_pos c3) k2; sm_in (sm_in (And.intro (hG.1 123 (Nat.le_of_ble_eq_true rfl)) (sm_gfr rfl (hG.2 123 3 rfl) (sm_in ((have e4 := k3t.1; have k4 := k3t.2; sm_in (Exists.intro 5450 (And.intro (hG.1 125 (Nat.le_of_ble_eq_true rfl)) (And.intro e4 (sm_in (sm_in (And.intro (fun c5 => have k5t := Eq.mp (if_pos c5) k4; sm_in (sm_in (And.intro rfl (And.intro (Or.inr rfl) k5t)))) (fun c5 => have k5f := Eq.mp (if_neg c5) k4; sm_in (sm_in (sm_in (And.intro (hG.1 123 (Nat.le_of_ble_eq_true rfl)) (sm_gfr rfl (hG.2 123 3 rfl) (sm_in (sm_in (sm_in ((have e6 := k5f.1; have k6 := k5f.2; sm_in (Exists.intro 5450 (And.intro (hG.1 125 (Nat.le_of_ble_eq_true rfl)) (And.intro e6 (sm_in (sm_in (And.intro (hG.1 123 (Nat.le_of_ble_eq_true rfl)) (sm_gfr rfl (hG.2 123 3 rfl) (sm_in (sm_in (sm_in ((have e7 := k6.1; have k7 := k6.2; sm_in (Exists.intro 5450 (And.intro (hG.1 125 (Nat.le_of_ble_eq_true rfl)) (And.intro e7 (sm_in (Exists.intro 11 (And.intro (hG.1 123 (Nat.le_of_ble_eq_true rfl)) (And.intro rfl (sm_calln h1 (Nat.le_of_ble_eq_true rfl) (Nat.le_of_ble_eq_true rfl) k7))))))))))))))))))))))))))))))))))))))))))) (fun c3 => have k3f := Eq.mp (if_neg c3) k2; sm_in (sm_in (sm_in (And.intro (hG.1 123 (Nat.le_of_ble_eq_true rfl)) (sm_gfr rfl (hG.2 123 3 rfl) (sm_in (sm_in (sm_in (sm_in (Exists.intro 5450 (And.intro (hG.1 125 (Nat.le_of_ble_eq_true rfl)) (And.intro e1 (sm_in (sm_in (And.intro (hG.1 123 (Nat.le_of_ble_eq_true rfl)) (sm_gfr rfl (hG.2 123 3 rfl) (sm_in (sm_in (sm_in (sm_in (Exists.intro 5450 (And.intro (hG.1 125 (Nat.le_of_ble_eq_true rfl)) (And.intro e2 (sm_in (Exists.intro 11 (And.intro (hG.1 123 (Nat.le_of_ble_eq_true rfl)) (And.intro rfl (sm_calln h1 (Nat.le_of_ble_eq_true rfl) (Nat.le_of_ble_eq_true rfl) k3f)))))))))))))))))))))))))))))))))))))))))))))))))))))
set_option maxRecDepth 100000 in
theorem w_X11_isSo_41 {ex : sm_O} {d n : Nat} {y : sm_Y} {I : Nat → Nat → Int32} {L : Nat → Nat → Int64} {R : Nat → Nat → Option Nat} {Q : sm_Q} {a1 : Int32} {d1 : Nat} (hG : sm_G y R) (h1 : d1 < d) (k : if (I 123 38) = 0 then (if (lg_cmp (L 123 39) 0) = 0 then (Q (some (.int 0)) (n, y, I, L, R)) else (vp_in a1 5450 ∧ (if (I 125 a1.toNatClampNeg) = 3 then (Q (some (.int 1)) (n, y, I, L, R)) else (vp_in (a1 + 3) 5450 ∧ vp_in (a1 + 4) 5450 ∧ sm_W ex d1 0 0 182 0 [some (.ref 123), some (.int (I 125 (a1 + 3).toNatClampNeg)), some (.int (I 125 (a1 + 4).toNatClampNeg)), none, none, none, none] [] (n, y, I, L, R) (fun r μ1 => sm_W ex d 0 0 183 89 [some (.ref 123), some (.int a1)] (r.toList ++ []) μ1 Q))))) else (Q (some (.int 0)) (n, y, I, L, R))) : sm_W ex d 0 0 183 41 [some (.ref 123), some (.int a1)] [] (n, y, I, L, R) Q := sm_in (sm_in (And.intro (hG.1 123 (Nat.le_of_ble_eq_true rfl)) (sm_in (And.intro (fun c1 => have k1f := Eq.mp (if_neg c1) k; sm_in (sm_in (And.intro rfl (And.intro (Or.inl rfl) k1f)))) (fun c1 => have k1t := Eq.mp (if_pos c1) k; sm_in (sm_in (And.intro (hG.1 123 (Nat.le_of_ble_eq_true rfl)) (sm_in (sm_in (sm_in (And.intro (fun c2 => have k2f := Eq.mp (if_neg c2) k1t; sm_in (sm_in (And.intro (hG.1 123 (Nat.le_of_ble_eq_true rfl)) (sm_gfr rfl (hG.2 123 3 rfl) (sm_in ((have e3 := k2f.1; have k3 := k2f.2; sm_in (Exists.intro 5450 (And.intro (hG.1 125 (Nat.le_of_ble_eq_true rfl)) (And.intro e3 (sm_in (sm_in (And.intro (fun c4 => have k4t := Eq.mp (if_pos c4) k3; sm_in (sm_in (And.intro rfl (And.intro (Or.inr rfl) k4t)))) (fun c4 => have k4f := Eq.mp (if_neg c4) k3; sm_in (sm_in (sm_in (And.intro (hG.1 123 (Nat.le_of_ble_eq_true rfl)) (sm_gfr rfl (hG.2 123 3 rfl) (sm_in (sm_in (sm_in ((have e5 := k4f.1; have k5 := k4f.2; sm_in (Exists.intro 5450 (And.intro (hG.1 125 (Nat.le_of_ble_eq_true rfl)) (And.intro e5 (sm_in (sm_in (And.intro (hG.1 123 (Nat.le_of_ble_eq_true rfl)) (sm_gfr rfl (hG.2 123 3 rfl) (sm_in (sm_in (sm_in ((have e6 := k5.1; have k6 := k5.2; sm_in (Exists.intro 5450 (And.intro (hG.1 125 (Nat.le_of_ble_eq_true rfl)) (And.intro e6 (sm_in (Exists.intro 11 (And.intro (hG.1 123 (Nat.le_of_ble_eq_true rfl)) (And.intro rfl (sm_calln h1 (Nat.le_of_ble_eq_true rfl) (Nat.le_of_ble_eq_true rfl) k6))))))))))))))))))))))))))))))))))))))))))) (fun c2 => have k2t := Eq.mp (if_pos c2) k1t; sm_in (sm_in (And.intro rfl (And.intro (Or.inl rfl) k2t)))))))))))))))
set_option maxRecDepth 100000 in
theorem w_X11_isSo_89 {ex : sm_O} {d n : Nat} {y : sm_Y} {I : Nat → Nat → Int32} {L : Nat → Nat → Int64} {R : Nat → Nat → Option Nat} {Q : sm_Q} {w1 : Option Value} (hG : sm_G y R) (k : if (I 123 38) = 0 then (Q (some (.int 1)) (n, y, I, sm_st L 123 40 (L 123 39), R)) else (Q (some (.int 0)) (n, y, I, sm_st L 123 40 (L 123 39), R))) : sm_W ex d 0 0 183 89 [some (.ref 123), w1] [] (n, y, I, L, R) Q := sm_in (sm_in (sm_in (And.intro (hG.1 123 (Nat.le_of_ble_eq_true rfl)) (sm_in (And.intro (hG.1 123 (Nat.le_of_ble_eq_true rfl)) (sm_in (sm_in (And.intro (hG.1 123 (Nat.le_of_ble_eq_true rfl)) (sm_in (And.intro (fun c1 => have k1f := Eq.mp (if_neg c1) k; sm_in (sm_in (And.intro rfl (And.intro (Or.inl rfl) k1f)))) (fun c1 => have k1t := Eq.mp (if_pos c1) k; sm_in (sm_in (sm_in (And.intro rfl (And.intro (Or.inr rfl) k1t)))))))))))))))
/-- what a sum, a test tells by its words; a clause: kind, sum, test -/
abbrev DD : Type := (Nat → Int) → Option Int
abbrev Law : Type := List (Nat × DD × Option DD)
def sp_tb (T : Option DD) (env : Nat → Int) : Bool := match T with
  | none => true
  | some T => match T env with
    | some v => v != 0
    | none => false
/-- what a clause tells, if it holds -/
def sp_cl (c : Nat × DD × Option DD) (env : Nat → Int) : Option Int := if sp_tb c.2.2 env = true then (if c.1 = 3 then some 1 else c.2.1 env) else none
/-- what the last one of a kind that holds tells -/
def sp_told : Law → Nat → (Nat → Int) → Option Int
  | [], _, _ => none
  | c :: t, kd, env => match sp_told t kd env with
    | some v => some v
    | none => if c.1 = kd then sp_cl c env else none
theorem sp_told_snoc (l : Law) (c : Nat × DD × Option DD) (kd : Nat) (env : Nat → Int) : sp_told (l ++ [c]) kd env = match (if c.1 = kd then sp_cl c env else none) with
    | some v => some v
    | none => sp_told l kd env := by
  induction l with
  | nil =>
    simp only [List.nil_append, sp_told]
    cases (if c.1 = kd then sp_cl c env else none) <;> rfl
  | cons x t ih =>
    simp only [List.cons_append, sp_told, ih]
    cases (if c.1 = kd then sp_cl c env else none) <;> rfl
def mWd (lf : Int32 → Int32 → Int64) (i : Nat) : Int := if i < 8 then (lf (nI (i + 1)) 0).toInt else 0
def mD (D : DD) : (Int32 → Int32 → Int64) → Option Int64 := fun lf => (D (mWd lf)).map Int64.ofInt
def cdB (I : Nat → Nat → Int32) (B k : Nat) : Int32 × Int32 := (I 125 (B + 98 + 2 * k), I 125 (B + 98 + 2 * k + 1))
theorem mCd_B {I : Nat → Nat → Int32} {B : Nat} (h : I 123 20 = 0) (hb : I 123 34 = nI B) (hB : B < 2 ^ 31) : mCd I = cdB I B := by
  funext k
  unfold mCd cdB
  rw [if_pos h, hb, nI_clamp hB]
/-- sums are such that they stay within -/
def sp_in (D : DD) : Prop := ∀ env v, D env = some v → -1000000000 ≤ v ∧ v ≤ 1000000000
def eB (env : Nat → Int) : Prop := ∀ i, -1000000000 ≤ env i ∧ env i ≤ 1000000000
def sp_inB (D : DD) : Prop := ∀ env v, eB env → D env = some v → -1000000000 ≤ v ∧ v ≤ 1000000000
/-- the clause at place A of the model's row, its code at B -/
def mCl (I : Nat → Nat → Int32) (B A : Nat) (c : Nat × DD × Option DD) : Prop := ∃ a a' t t' : Nat, I 125 A = nI c.1 ∧ c.1 ≤ 3 ∧ I 125 (A + 3) = nI a ∧ I 125 (A + 4) = nI a' ∧ I 125 (A + 5) = nI t ∧ I 125 (A + 6) = nI t' ∧ a' ≤ 400 ∧ t' ≤ 400 ∧ t ≤ t' ∧ (c.1 ≠ 3 → sp_inB c.2.1 ∧ mSeg (cdB I B) a a' (mD c.2.1)) ∧ (match c.2.2 with
  | none => t' = t
  | some T => t < t' ∧ sp_in T ∧ mSeg (cdB I B) t t' (mD T))
theorem mCl_kept {I I' : Nat → Nat → Int32} {L L' : Nat → Nat → Int64} {B A : Nat} {c : Nat × DD × Option DD} (h : mFq I I' L L') (hc : mCl I B A c) : mCl I' B A c := by
  have e : ∀ j, I' 125 j = I 125 j := fun j => h.1 125 j (by simp)
  have e2 : cdB I' B = cdB I B := by
    funext k
    unfold cdB
    rw [e, e]
  unfold mCl
  rw [e2]
  simp only [e]
  exact hc
set_option maxHeartbeats 1000000 in
theorem c_X11_isSo {ex : sm_O} {n : Nat} {y : sm_Y} {I : Nat → Nat → Int32} {L : Nat → Nat → Int64} {R : Nat → Nat → Option Nat} {Q : sm_Q} {d B A : Nat} {c : Nat × DD × Option DD} (hd : 3 ≤ d) (hG : sm_G y R) (hB : B ≤ 4550) (hA : A + 7 < 5450) (h20 : I 123 20 = 0) (hb : I 123 34 = nI B) (hm : ∃ m, m ≤ 7 ∧ I 125 0 = nI m) (hc : mCl I B A c)
    (k : ∀ (I' : Nat → Nat → Int32) (L' : Nat → Nat → Int64) (x : Int32), mFq I I' L L' → (match sp_cl c (mWd (mLf I L)) with
      | some v => x = 1 ∧ (c.1 ≠ 3 → L' 123 40 = Int64.ofInt v)
      | none => x = 0) → Q (some (.int x)) (n, y, I', L', R)) : sm_W ex d 0 0 183 0 [some (.ref 123), some (.int (nI A))] [] (n, y, I, L, R) Q := by
  obtain ⟨a, a', t, t', c0, c3, c4, c5, c6, c7, c8, c9, c10, c11, c12⟩ := id hc
  have i5 : nI A + 5 = nI (A + 5) := nI_add A 5
  have i6 : nI A + 6 = nI (A + 6) := nI_add A 6
  have i3 : nI A + 3 = nI (A + 3) := nI_add A 3
  have i4 : nI A + 4 = nI (A + 4) := nI_add A 4
  -- the second half: the sum
  have part2 : ∀ (I1 : Nat → Nat → Int32) (L1 : Nat → Nat → Int64), mFq I I1 L L1 → sp_tb c.2.2 (mWd (mLf I L)) = true → (vp_in (nI A) 5450 ∧ if I1 125 (nI A).toNatClampNeg = 3 then Q (some (.int 1)) (n, y, I1, L1, R) else vp_in (nI (A + 3)) 5450 ∧ vp_in (nI (A + 4)) 5450 ∧ sm_W ex 2 0 0 182 0 [some (.ref 123), some (.int (I1 125 (nI (A + 3)).toNatClampNeg)), some (.int (I1 125 (nI (A + 4)).toNatClampNeg)), none, none, none, none] [] (n, y, I1, L1, R) (fun r μ1 => sm_W ex d 0 0 183 89 [some (.ref 123), some (.int (nI A))] (r.toList ++ []) μ1 Q)) := by
    intro I1 L1 hf ht
    refine ⟨vp_in_nI (by omega) (by decide), ?_⟩
    rw [nI_clamp (by omega), nI_clamp (by omega), nI_clamp (by omega), hf.1 125 A (by simp), hf.1 125 (A + 3) (by simp), hf.1 125 (A + 4) (by simp), c0, c4, c5]
    by_cases h3 : c.1 = 3
    · rw [h3, if_pos (show nI 3 = 3 from rfl)]
      refine k I1 L1 1 hf ?_
      have : sp_cl c (mWd (mLf I L)) = some 1 := by unfold sp_cl; rw [if_pos ht, if_pos h3]
      rw [this]
      exact ⟨rfl, fun q => absurd h3 q⟩
    · rw [if_neg (by rw [sm_of 3, nI_eq (by omega) (by decide)]; exact h3)]
      refine ⟨vp_in_nI (by omega) (by decide), vp_in_nI (by omega) (by decide), ?_⟩
      have h20' : I1 123 20 = 0 := by rw [hf.1 123 20 (by simp)]; exact h20
      have hb' : I1 123 34 = nI B := by rw [hf.1 123 34 (by simp)]; exact hb
      have e2 : mCd I1 = cdB I B := by
        rw [mCd_B h20' hb' (by omega)]
        funext q
        unfold cdB
        rw [hf.1 125 _ (by simp), hf.1 125 _ (by simp)]
      refine c_X11_reckonAll (B := B) (Nat.le_refl 2) hG c8 (by omega) (fun _ => hb') (by rw [hf.1 125 0 (by simp)]; exact hm) (by rw [e2]; exact (c11 h3).2) ?_
      intro I2 L2 hf2 hv
      rw [mLf_keptq hf] at hv
      refine w_X11_isSo_89 hG ?_
      have hcl : sp_cl c (mWd (mLf I L)) = c.2.1 (mWd (mLf I L)) := by unfold sp_cl; rw [if_pos ht, if_neg h3]
      unfold mD at hv
      cases hD : c.2.1 (mWd (mLf I L)) with
      | none =>
        rw [hD] at hv
        rw [if_neg (by rw [show I2 123 38 = 1 from hv]; decide)]
        refine k I2 _ 0 ((hf.trans hf2).trans (mFq.s I2 L2 _)) ?_
        rw [hcl, hD]
      | some v =>
        rw [hD] at hv
        obtain ⟨v0, v1⟩ := hv
        rw [if_pos v0]
        refine k I2 _ 1 ((hf.trans hf2).trans (mFq.s I2 L2 _)) ?_
        rw [hcl, hD]
        exact ⟨rfl, fun _ => by rw [sm_st_s, v1]⟩
  refine w_X11_isSo_0 (d1 := 2) hG (by omega) ?_
  rw [i5, i6, i3, i4]
  refine ⟨vp_in_nI (by omega) (by decide), vp_in_nI (by omega) (by decide), ?_⟩
  rw [nI_clamp (show A + 5 < 2 ^ 31 by omega), nI_clamp (show A + 6 < 2 ^ 31 by omega), c6, c7]
  cases hT : c.2.2 with
  | none =>
    rw [hT] at c12
    subst c12
    rw [if_pos (Int32.le_refl _)]
    exact part2 I L (mFq.rfl' I L) (by rw [hT]; rfl)
  | some T =>
    rw [hT] at c12
    obtain ⟨g1, g2, g3⟩ := c12
    rw [if_neg (by rw [nI_leI (by omega) (by omega)]; omega)]
    refine c_X11_reckonAll (B := B) (Nat.le_refl 2) hG c9 (by omega) (fun _ => hb) hm (by rw [mCd_B h20 hb (by omega)]; exact g3) ?_
    intro I1 L1 hf hv
    refine w_X11_isSo_41 (d1 := 2) hG (by omega) ?_
    rw [i3, i4]
    simp only [sm_cmp_eq]
    unfold mD at hv
    have fail : sp_tb c.2.2 (mWd (mLf I L)) = false → Q (some (.int 0)) (n, y, I1, L1, R) := by
      intro hq
      refine k I1 L1 0 hf ?_
      have : sp_cl c (mWd (mLf I L)) = none := by unfold sp_cl; rw [hq]; rfl
      rw [this]
    cases hD : T (mWd (mLf I L)) with
    | none =>
      rw [hD] at hv
      rw [if_neg (by rw [show I1 123 38 = 1 from hv]; decide)]
      exact fail (by rw [hT]; show (match T (mWd (mLf I L)) with | some v => v != 0 | none => false) = false; rw [hD])
    | some v =>
      rw [hD] at hv
      obtain ⟨v0, v1⟩ := hv
      rw [if_pos v0, v1]
      have hin := g2 _ _ hD
      have hz : Int64.ofInt v = 0 ↔ v = 0 := by
        constructor
        · intro q
          have := congrArg Int64.toInt q
          rw [Int64.toInt_ofInt_of_le (by omega) (by omega)] at this
          exact this
        · intro q
          rw [q]
          rfl
      by_cases hv0 : v = 0
      · rw [if_pos (hz.mpr hv0)]
        exact fail (by rw [hT]; show (match T (mWd (mLf I L)) with | some v => v != 0 | none => false) = false; rw [hD, hv0]; rfl)
      · rw [if_neg (fun q => hv0 (hz.mp q))]
        exact part2 I1 L1 hf (by rw [hT]; show (match T (mWd (mLf I L)) with | some v => v != 0 | none => false) = true; rw [hD]; simpa using hv0)

set_option maxRecDepth 100000 in
theorem w_X11_tells_0 {ex : sm_O} {d n : Nat} {y : sm_Y} {I : Nat → Nat → Int32} {L : Nat → Nat → Int64} {R : Nat → Nat → Option Nat} {Q : sm_Q} {w1 : Option Value} {w5 : Option Value} {w6 : Option Value} {w7 : Option Value} {w8 : Option Value} {w9 : Option Value} {a2 : Int32} {a3 : Int32} {a4 : Int64} {d1 : Nat} (hG : sm_G y R) (h1 : d1 < d) (k : if (I 125 3) = (-1) then (Q (some (.long a4)) (n, y, I, L, R)) else (vp_in (24 + a2) 5450 ∧ vp_in (10 + a2) 5450 ∧ (if a3 = (-1) then (sm_W ex d 0 0 184 153 [some (.ref 123), w1, some (.int a2), some (.int a3), some (.long a4), sm_iv w5, some (.long a4), none, some (.int 0), w9] [] (n, y, sm_st I 123 34 (50 + (900 * (I 125 3))), sm_st (sm_st (sm_st (sm_st (sm_st (sm_st (sm_st (sm_st L 141 1 a2.toInt64) 141 2 ((I 125 (24 + a2).toNatClampNeg).toInt64)) 141 3 ((I 125 (10 + a2).toNatClampNeg).toInt64)) 141 4 ((I 125 9).toInt64)) 141 5 a3.toInt64) 141 6 (-1)) 141 7 ((I 125 4).toInt64)) 141 8 ((I 125 6).toInt64), R) Q) else (sm_W ex d1 0 0 140 0 [some (.ref 123), some (.int a2), some (.int a3), none, none] [] (n, y, sm_st I 123 34 (50 + (900 * (I 125 3))), sm_st (sm_st (sm_st (sm_st (sm_st L 141 1 a2.toInt64) 141 2 ((I 125 (24 + a2).toNatClampNeg).toInt64)) 141 3 ((I 125 (10 + a2).toNatClampNeg).toInt64)) 141 4 ((I 125 9).toInt64)) 141 5 a3.toInt64, R) (fun r μ1 => sm_W ex d 0 0 184 115 [some (.ref 123), w1, some (.int a2), some (.int a3), some (.long a4), w5, w6, w7, w8, w9] (r.toList ++ [.int 6, .ref 141]) μ1 Q))))) : sm_W ex d 0 0 184 0 [some (.ref 123), w1, some (.int a2), some (.int a3), some (.long a4), w5, w6, w7, w8, w9] [] (n, y, I, L, R) Q := sm_in (sm_in (And.intro (hG.1 123 (Nat.le_of_ble_eq_true rfl)) (sm_gfr rfl (hG.2 123 3 rfl) (sm_in (sm_in (Exists.intro 5450 (And.intro (hG.1 125 (Nat.le_of_ble_eq_true rfl)) (And.intro (sm_lin (by decide)) (sm_in (sm_in (And.intro (fun c1 => have k1f := Eq.mp (if_neg c1) k; sm_in (sm_in (sm_in (sm_in (sm_in (And.intro (hG.1 123 (Nat.le_of_ble_eq_true rfl)) (sm_gfr rfl (hG.2 123 3 rfl) (sm_in (sm_in (Exists.intro 5450 (And.intro (hG.1 125 (Nat.le_of_ble_eq_true rfl)) (And.intro (sm_lin (by decide)) (sm_in (sm_in (sm_in (And.intro (hG.1 123 (Nat.le_of_ble_eq_true rfl)) (sm_in (sm_in (And.intro (hG.1 123 (Nat.le_of_ble_eq_true rfl)) (sm_gfr rfl (hG.2 123 35 rfl) (sm_in (sm_in (sm_in (sm_in (Exists.intro 13 (And.intro (hG.1 141 (Nat.le_of_ble_eq_true rfl)) (And.intro (sm_lin (by decide)) (sm_in (sm_in (And.intro (hG.1 123 (Nat.le_of_ble_eq_true rfl)) (sm_gfr rfl (hG.2 123 35 rfl) (sm_in (sm_in (sm_in (And.intro (hG.1 123 (Nat.le_of_ble_eq_true rfl)) (sm_gfr rfl (hG.2 123 3 rfl) (sm_in (sm_in (sm_in ((have e2 := k1f.1; have k2 := k1f.2; sm_in (Exists.intro 5450 (And.intro (hG.1 125 (Nat.le_of_ble_eq_true rfl)) (And.intro e2 (sm_in (sm_in (Exists.intro 13 (And.intro (hG.1 141 (Nat.le_of_ble_eq_true rfl)) (And.intro (sm_lin (by decide)) (sm_in (sm_in (And.intro (hG.1 123 (Nat.le_of_ble_eq_true rfl)) (sm_gfr rfl (hG.2 123 35 rfl) (sm_in (sm_in (sm_in (And.intro (hG.1 123 (Nat.le_of_ble_eq_true rfl)) (sm_gfr rfl (hG.2 123 3 rfl) (sm_in (sm_in (sm_in ((have e3 := k2.1; have k3 := k2.2; sm_in (Exists.intro 5450 (And.intro (hG.1 125 (Nat.le_of_ble_eq_true rfl)) (And.intro e3 (sm_in (sm_in (Exists.intro 13 (And.intro (hG.1 141 (Nat.le_of_ble_eq_true rfl)) (And.intro (sm_lin (by decide)) (sm_in (sm_in (And.intro (hG.1 123 (Nat.le_of_ble_eq_true rfl)) (sm_gfr rfl (hG.2 123 35 rfl) (sm_in (sm_in (sm_in (And.intro (hG.1 123 (Nat.le_of_ble_eq_true rfl)) (sm_gfr rfl (hG.2 123 3 rfl) (sm_in (sm_in (Exists.intro 5450 (And.intro (hG.1 125 (Nat.le_of_ble_eq_true rfl)) (And.intro (sm_lin (by decide)) (sm_in (sm_in (Exists.intro 13 (And.intro (hG.1 141 (Nat.le_of_ble_eq_true rfl)) (And.intro (sm_lin (by decide)) (sm_in (sm_in (And.intro (hG.1 123 (Nat.le_of_ble_eq_true rfl)) (sm_gfr rfl (hG.2 123 35 rfl) (sm_in (sm_in (sm_in (sm_in (Exists.intro 13 (And.intro (hG.1 141 (Nat.le_of_ble_eq_true rfl)) (And.intro (sm_lin (by decide)) (sm_in (sm_in (And.intro (hG.1 123 (Nat.le_of_ble_eq_true rfl)) (sm_gfr rfl (hG.2 123 35 rfl) (sm_in (sm_in (sm_in (sm_in (And.intro (fun c4 => have k4f := Eq.mp (if_neg c4) k3; sm_in (sm_in (sm_in (sm_in (Exists.intro 11 (And.intro (hG.1 123 (Nat.le_of_ble_eq_true rfl)) (And.intro rfl (sm_calln h1 (Nat.le_of_ble_eq_true rfl) (Nat.le_of_ble_eq_true rfl) k4f)))))))) (fun c4 => have k4t := Eq.mp (if_pos c4) k3; sm_in (sm_in (sm_in (Exists.intro 13 (And.intro (hG.1 141 (Nat.le_of_ble_eq_true rfl)) (And.intro (sm_lin (by decide)) (sm_in (sm_in (And.intro (hG.1 123 (Nat.le_of_ble_eq_true rfl)) (sm_gfr rfl (hG.2 123 35 rfl) (sm_in (sm_in (sm_in (And.intro (hG.1 123 (Nat.le_of_ble_eq_true rfl)) (sm_gfr rfl (hG.2 123 3 rfl) (sm_in (sm_in (Exists.intro 5450 (And.intro (hG.1 125 (Nat.le_of_ble_eq_true rfl)) (And.intro (sm_lin (by decide)) (sm_in (sm_in (Exists.intro 13 (And.intro (hG.1 141 (Nat.le_of_ble_eq_true rfl)) (And.intro (sm_lin (by decide)) (sm_in (sm_in (And.intro (hG.1 123 (Nat.le_of_ble_eq_true rfl)) (sm_gfr rfl (hG.2 123 35 rfl) (sm_in (sm_in (sm_in (And.intro (hG.1 123 (Nat.le_of_ble_eq_true rfl)) (sm_gfr rfl (hG.2 123 3 rfl) (sm_in (sm_in (Exists.intro 5450 (And.intro (hG.1 125 (Nat.le_of_ble_eq_true rfl)) (And.intro (sm_lin (by decide)) (sm_in (sm_in (Exists.intro 13 (And.intro (hG.1 141 (Nat.le_of_ble_eq_true rfl)) (And.intro (sm_lin (by decide)) (sm_in (sm_in (And.intro (Nat.le_of_ble_eq_true rfl) (sm_in (sm_in (And.intro (Nat.le_of_ble_eq_true rfl) (k4t))))))))))))))))))))))))))))))))))))))))))))))))))))))))))))))))))))))))))))))))))))))))))))))))))))))))))))))))))))))))))))))))))))))))))))))))))))))))))))))))) (fun c1 => have k1t := Eq.mp (if_pos c1) k; sm_in (sm_in (And.intro rfl k1t))))))))))))))
set_option maxRecDepth 100000 in
theorem w_X11_tells_115 {ex : sm_O} {d n : Nat} {y : sm_Y} {I : Nat → Nat → Int32} {L : Nat → Nat → Int64} {R : Nat → Nat → Option Nat} {Q : sm_Q} {w1 : Option Value} {w2 : Option Value} {w3 : Option Value} {w5 : Option Value} {w6 : Option Value} {w7 : Option Value} {w8 : Option Value} {w9 : Option Value} {a4 : Int64} {s0 : Int32} {s1 : Int32} (hG : sm_G y R) (k : vp_in s1 13 ∧ sm_W ex d 0 0 184 153 [some (.ref 123), w1, w2, w3, some (.long a4), sm_iv w5, some (.long a4), none, some (.int 0), w9] [] (n, y, I, sm_st (sm_st (sm_st L 141 s1.toNatClampNeg s0.toInt64) 141 7 ((I 125 4).toInt64)) 141 8 ((I 125 6).toInt64), R) Q) : sm_W ex d 0 0 184 115 [some (.ref 123), w1, w2, w3, some (.long a4), w5, w6, w7, w8, w9] [.int s0, .int s1, .ref 141] (n, y, I, L, R) Q := sm_in ((have e1 := k.1; have k1 := k.2; sm_in (Exists.intro 13 (And.intro (hG.1 141 (Nat.le_of_ble_eq_true rfl)) (And.intro e1 (sm_in (sm_in (And.intro (hG.1 123 (Nat.le_of_ble_eq_true rfl)) (sm_gfr rfl (hG.2 123 35 rfl) (sm_in (sm_in (sm_in (And.intro (hG.1 123 (Nat.le_of_ble_eq_true rfl)) (sm_gfr rfl (hG.2 123 3 rfl) (sm_in (sm_in (Exists.intro 5450 (And.intro (hG.1 125 (Nat.le_of_ble_eq_true rfl)) (And.intro (sm_lin (by decide)) (sm_in (sm_in (Exists.intro 13 (And.intro (hG.1 141 (Nat.le_of_ble_eq_true rfl)) (And.intro (sm_lin (by decide)) (sm_in (sm_in (And.intro (hG.1 123 (Nat.le_of_ble_eq_true rfl)) (sm_gfr rfl (hG.2 123 35 rfl) (sm_in (sm_in (sm_in (And.intro (hG.1 123 (Nat.le_of_ble_eq_true rfl)) (sm_gfr rfl (hG.2 123 3 rfl) (sm_in (sm_in (Exists.intro 5450 (And.intro (hG.1 125 (Nat.le_of_ble_eq_true rfl)) (And.intro (sm_lin (by decide)) (sm_in (sm_in (Exists.intro 13 (And.intro (hG.1 141 (Nat.le_of_ble_eq_true rfl)) (And.intro (sm_lin (by decide)) (sm_in (sm_in (And.intro (Nat.le_of_ble_eq_true rfl) (sm_in (sm_in (And.intro (Nat.le_of_ble_eq_true rfl) (k1))))))))))))))))))))))))))))))))))))))))))))))))))
set_option maxRecDepth 100000 in
theorem w_X11_tells_153 {ex : sm_O} {d n : Nat} {y : sm_Y} {I : Nat → Nat → Int32} {L : Nat → Nat → Int64} {R : Nat → Nat → Option Nat} {Q : sm_Q} {w2 : Option Value} {w3 : Option Value} {w4 : Option Value} {w5 : Option Value} {w7 : Option Value} {w9 : Option Value} {a1 : Int32} {a6 : Int64} {a8 : Int32} {d1 : Nat} (hG : sm_G y R) (h1 : d1 < d) (k : vp_in ((I 123 34) + 1) 5450 ∧ (if (I 125 ((I 123 34) + 1).toNatClampNeg) ≤ a8 then (Q (some (.long a6)) (n, y, I, L, R)) else (vp_in (((I 123 34) + 2) + (8 * a8)) 5450 ∧ (if (I 125 (((I 123 34) + 2) + (8 * a8)).toNatClampNeg) = a1 then (sm_W ex d1 0 0 183 0 [some (.ref 123), some (.int (((I 123 34) + 2) + (8 * a8)))] [] (n, y, I, L, R) (fun r μ1 => sm_W ex d 0 0 184 200 [some (.ref 123), some (.int a1), w2, w3, w4, w5, some (.long a6), w7, some (.int a8), some (.int (((I 123 34) + 2) + (8 * a8)))] (r.toList ++ []) μ1 Q)) else (sm_W ex d 0 0 184 153 [some (.ref 123), some (.int a1), w2, w3, w4, w5, some (.long a6), sm_iv w7, some (.int (a8 + 1)), some (.int (((I 123 34) + 2) + (8 * a8)))] [] (n, y, I, L, R) Q))))) : sm_W ex d 0 0 184 153 [some (.ref 123), some (.int a1), w2, w3, w4, w5, some (.long a6), w7, some (.int a8), w9] [] (n, y, I, L, R) Q := sm_in (sm_in (sm_in (And.intro (hG.1 123 (Nat.le_of_ble_eq_true rfl)) (sm_gfr rfl (hG.2 123 3 rfl) (sm_in (sm_in (And.intro (hG.1 123 (Nat.le_of_ble_eq_true rfl)) (sm_in (sm_in ((have e1 := k.1; have k1 := k.2; sm_in (Exists.intro 5450 (And.intro (hG.1 125 (Nat.le_of_ble_eq_true rfl)) (And.intro e1 (sm_in (And.intro (fun c2 => have k2t := Eq.mp (if_pos c2) k1; sm_in (sm_in (And.intro rfl k2t))) (fun c2 => have k2f := Eq.mp (if_neg c2) k1; sm_in (sm_in (And.intro (hG.1 123 (Nat.le_of_ble_eq_true rfl)) (sm_in (sm_in (sm_in (sm_in (sm_in (sm_in (sm_in (And.intro (Nat.le_of_ble_eq_true rfl) (sm_in (sm_in (And.intro (hG.1 123 (Nat.le_of_ble_eq_true rfl)) (sm_gfr rfl (hG.2 123 3 rfl) (sm_in ((have e3 := k2f.1; have k3 := k2f.2; sm_in (Exists.intro 5450 (And.intro (hG.1 125 (Nat.le_of_ble_eq_true rfl)) (And.intro e3 (sm_in (sm_in (And.intro (fun c4 => have k4f := Eq.mp (if_neg c4) k3; sm_in (And.intro (Nat.le_of_ble_eq_true rfl) (sm_in (k4f)))) (fun c4 => have k4t := Eq.mp (if_pos c4) k3; sm_in (sm_in (sm_in (Exists.intro 11 (And.intro (hG.1 123 (Nat.le_of_ble_eq_true rfl)) (And.intro rfl (sm_calln h1 (Nat.le_of_ble_eq_true rfl) (Nat.le_of_ble_eq_true rfl) k4t)))))))))))))))))))))))))))))))))))))))))))))))
set_option maxRecDepth 100000 in
theorem w_X11_tells_200 {ex : sm_O} {d n : Nat} {y : sm_Y} {I : Nat → Nat → Int32} {L : Nat → Nat → Int64} {R : Nat → Nat → Option Nat} {Q : sm_Q} {w2 : Option Value} {w3 : Option Value} {w4 : Option Value} {w5 : Option Value} {w6 : Option Value} {w7 : Option Value} {w9 : Option Value} {a1 : Int32} {a8 : Int32} {s0 : Int32} (hG : sm_G y R) (k : if s0 = 0 then (sm_W ex d 0 0 184 153 [some (.ref 123), some (.int a1), w2, w3, w4, w5, w6, sm_iv w7, some (.int (a8 + 1)), w9] [] (n, y, I, L, R) Q) else (if a1 = 3 then (sm_W ex d 0 0 184 153 [some (.ref 123), some (.int a1), w2, w3, w4, sm_iv w5, some (.long 1), none, some (.int (a8 + 1)), w9] [] (n, y, I, L, R) Q) else (sm_W ex d 0 0 184 153 [some (.ref 123), some (.int a1), w2, w3, w4, sm_iv w5, some (.long (L 123 40)), none, some (.int (a8 + 1)), w9] [] (n, y, I, L, R) Q))) : sm_W ex d 0 0 184 200 [some (.ref 123), some (.int a1), w2, w3, w4, w5, w6, w7, some (.int a8), w9] [.int s0] (n, y, I, L, R) Q := sm_in (And.intro (fun c1 => have k1t := Eq.mp (if_pos c1) k; sm_in (And.intro (Nat.le_of_ble_eq_true rfl) (sm_in (k1t)))) (fun c1 => have k1f := Eq.mp (if_neg c1) k; sm_in (sm_in (sm_in (And.intro (fun c2 => have k2f := Eq.mp (if_neg c2) k1f; sm_in (sm_in (And.intro (hG.1 123 (Nat.le_of_ble_eq_true rfl)) (sm_in (And.intro (Nat.le_of_ble_eq_true rfl) (sm_in (And.intro (Nat.le_of_ble_eq_true rfl) (sm_in (k2f))))))))) (fun c2 => have k2t := Eq.mp (if_pos c2) k1f; sm_in (sm_in (sm_in (And.intro (Nat.le_of_ble_eq_true rfl) (sm_in (And.intro (Nat.le_of_ble_eq_true rfl) (sm_in (k2t)))))))))))))
/-- a law at B of the model's row -/
def mLaw (I : Nat → Nat → Int32) (B : Nat) (l : Law) : Prop := I 125 (B + 1) = nI l.length ∧ l.length ≤ 12 ∧ ∀ (c : Nat) (x : Nat × DD × Option DD), l[c]? = some x → mCl I B (B + 2 + 8 * c) x
theorem mLaw_kept {I I' : Nat → Nat → Int32} {L L' : Nat → Nat → Int64} {B : Nat} {l : Law} (h : mFq I I' L L') (hl : mLaw I B l) : mLaw I' B l := ⟨by rw [h.1 125 _ (by simp)]; exact hl.1, hl.2.1, fun c x hx => mCl_kept h (hl.2.2 c x hx)⟩
def sp_otherI : Option Nat → Int
  | none => -1
  | some o => o
/-- the words that a law is asked with -/
def sp_env (s : St) (m : Nat) (other : Option Nat) (i : Nat) : Int := match i with
  | 0 => m
  | 1 => sHold s m
  | 2 => sTired s m
  | 3 => sHeld s
  | 4 => sp_otherI other
  | 5 => match other with
    | none => -1
    | some o => sp_unlike s m o
  | 6 => sTerm s 0
  | 7 => sTerm s 2
  | _ => 0
def sp_val (w : Int64) (o : Option Int) : Int64 := match o with
  | some v => Int64.ofInt v
  | none => w
set_option maxHeartbeats 1000000 in
theorem lp_tells {ex : sm_O} {d n B kd : Nat} {y : sm_Y} {R : Nat → Nat → Option Nat} {Q : sm_Q} {w2 w3 w4 : Option Value} {l : Law} {w : Int64} (hd : 4 ≤ d) (hG : sm_G y R) (hB : B ≤ 4550) (hkd : kd ≤ 3) :
    ∀ (q c : Nat) (I : Nat → Nat → Int32) (L : Nat → Nat → Int64) (w5 w7 w9 : Option Value), c + q = l.length → I 123 20 = 0 → I 123 34 = nI B → (∃ m, m ≤ 7 ∧ I 125 0 = nI m) → mLaw I B l →
    (∀ (I' : Nat → Nat → Int32) (L' : Nat → Nat → Int64), mFq I I' L L' → Q (some (.long (sp_val w (sp_told l kd (mWd (mLf I L)))))) (n, y, I', L', R)) →
    sm_W ex d 0 0 184 153 [some (.ref 123), some (.int (nI kd)), w2, w3, w4, w5, some (.long (sp_val w (sp_told (l.take c) kd (mWd (mLf I L))))), w7, some (.int (nI c)), w9] [] (n, y, I, L, R) Q := by
  intro q
  induction q with
  | zero =>
    intro c I L w5 w7 w9 hc h20 hb hm hl k
    obtain rfl : c = l.length := by omega
    refine w_X11_tells_153 (d1 := 3) hG (by omega) ?_
    have i1 : nI B + 1 = nI (B + 1) := nI_add B 1
    rw [hb, i1]
    refine ⟨vp_in_nI (by omega) (by decide), ?_⟩
    rw [nI_clamp (by omega), hl.1, if_pos (Int32.le_refl _), List.take_length]
    exact k I L (mFq.rfl' I L)
  | succ q ih =>
    intro c I L w5 w7 w9 hc h20 hb hm hl k
    have hlt : c < l.length := by omega
    have hx : l[c]? = some l[c] := List.getElem?_eq_getElem hlt
    have h12 := hl.2.1
    have hcl := hl.2.2 c l[c] hx
    have i1 : nI B + 1 = nI (B + 1) := nI_add B 1
    have i2 : nI B + 2 + 8 * nI c = nI (B + 2 + 8 * c) := by rw [sm_of 2, sm_of 8, pk_mul, nI_add, nI_add]
    have htk : l.take (c + 1) = l.take c ++ [l[c]] := by rw [List.take_succ, hx]; rfl
    -- on with the loop
    have go : ∀ (I1 : Nat → Nat → Int32) (L1 : Nat → Nat → Int64) (u5 u7 u9 : Option Value) (x : Int64), mFq I I1 L L1 → x = sp_val w (sp_told (l.take (c + 1)) kd (mWd (mLf I L))) → sm_W ex d 0 0 184 153 [some (.ref 123), some (.int (nI kd)), w2, w3, w4, u5, some (.long x), u7, some (.int (nI c + 1)), u9] [] (n, y, I1, L1, R) Q := by
      intro I1 L1 u5 u7 u9 x hf hx
      rw [hx, sm_n1, ← mLf_keptq hf]
      exact ih (c + 1) I1 L1 u5 u7 u9 (by omega) (by rw [hf.1 123 20 (by simp)]; exact h20) (by rw [hf.1 123 34 (by simp)]; exact hb) (by rw [hf.1 125 0 (by simp)]; exact hm) (mLaw_kept hf hl) (fun I2 L2 hf2 => by rw [mLf_keptq hf]; exact k I2 L2 (hf.trans hf2))
    refine w_X11_tells_153 (d1 := 3) hG (by omega) ?_
    rw [hb, i1, i2]
    refine ⟨vp_in_nI (by omega) (by decide), ?_⟩
    rw [nI_clamp (show B + 1 < 2 ^ 31 by omega), hl.1, if_neg (by rw [nI_leI (by omega) (by omega)]; omega)]
    refine ⟨vp_in_nI (by omega) (by decide), ?_⟩
    obtain ⟨a, a', t, t', c0, c3, -⟩ := id hcl
    rw [nI_clamp (by omega), c0]
    by_cases hk : (l[c]).1 = kd
    · rw [if_pos (by rw [hk])]
      refine c_X11_isSo (B := B) (A := B + 2 + 8 * c) (Nat.le_refl 3) hG hB (by omega) h20 hb hm hcl ?_
      intro I1 L1 x hf hx1
      refine w_X11_tells_200 hG ?_
      cases hs : sp_cl l[c] (mWd (mLf I L)) with
      | none =>
        rw [hs] at hx1
        subst hx1
        rw [if_pos rfl]
        refine go I1 L1 _ _ _ _ hf ?_
        rw [htk, sp_told_snoc, if_pos hk, hs]
      | some v =>
        rw [hs] at hx1
        obtain ⟨rfl, hx2⟩ := hx1
        rw [if_neg (by decide)]
        by_cases h3 : kd = 3
        · subst h3
          rw [if_pos (show nI 3 = 3 from rfl)]
          refine go I1 L1 _ _ _ _ hf ?_
          rw [htk, sp_told_snoc, if_pos hk, hs]
          have : v = 1 := by
            unfold sp_cl at hs
            split at hs
            · first
                | exact (Option.some.inj hs).symm
                | (rw [if_pos hk] at hs; exact (Option.some.inj hs).symm)
            · cases hs
          rw [this]
          rfl
        · rw [if_neg (by rw [sm_of 3, nI_eq (by omega) (by decide)]; exact h3)]
          refine go I1 L1 _ _ _ _ hf ?_
          rw [htk, sp_told_snoc, if_pos hk, hs]
          exact hx2 (by rw [hk]; exact h3)
    · rw [if_neg (by rw [nI_eq (by omega) (by omega)]; exact hk)]
      refine go I L _ _ _ _ (mFq.rfl' I L) ?_
      rw [htk, sp_told_snoc, if_neg hk]

/-- which law is in force, in the model's row -/
def mForce (I : Nat → Nat → Int32) (F : Option (Nat × Law)) : Prop := match F with
  | none => I 125 3 = -1
  | some (j, l) => I 125 3 = nI j ∧ j < 6 ∧ mLaw I (50 + 900 * j) l
def sp_toldF (F : Option (Nat × Law)) (kd : Nat) (env : Nat → Int) : Option Int := match F with
  | none => none
  | some (_, l) => sp_told l kd env
/-- what asking a law touches -/
def mFt (I I' : Nat → Nat → Int32) (L L' : Nat → Nat → Int64) : Prop := (∀ a j, ¬ (a = 123 ∧ (j = 38 ∨ j = 34)) → I' a j = I a j) ∧ ∀ a j, a ≠ 143 → a ≠ 141 → ¬ (a = 123 ∧ (j = 39 ∨ j = 40)) → L' a j = L a j
theorem mFt.rfl' (I : Nat → Nat → Int32) (L : Nat → Nat → Int64) : mFt I I L L := ⟨fun _ _ _ => rfl, fun _ _ _ _ _ => rfl⟩
theorem mFt.trans {I I' I2 : Nat → Nat → Int32} {L L' L2 : Nat → Nat → Int64} (h1 : mFt I I' L L') (h2 : mFt I' I2 L' L2) : mFt I I2 L L2 := ⟨fun a j h => (h2.1 a j h).trans (h1.1 a j h), fun a j h h' h'' => (h2.2 a j h h' h'').trans (h1.2 a j h h' h'')⟩
theorem mFq.t {I I' : Nat → Nat → Int32} {L L' : Nat → Nat → Int64} (h : mFq I I' L L') : mFt I I' L L' := ⟨fun a j hq => h.1 a j (fun z => hq ⟨z.1, Or.inl z.2⟩), fun a j h1 _ h3 => h.2 a j h1 h3⟩
theorem mFt.i (I : Nat → Nat → Int32) (L : Nat → Nat → Int64) (v : Int32) : mFt I (sm_st I 123 34 v) L L := ⟨fun a j h => by
  by_cases ha : a = 123
  · exact sm_st_j _ _ (fun hj => h ⟨ha, Or.inr hj⟩)
  · exact sm_st_o _ _ ha, fun _ _ _ _ _ => rfl⟩
theorem mFt.l (I : Nat → Nat → Int32) (L : Nat → Nat → Int64) (i : Nat) (v : Int64) : mFt I I L (sm_st L 141 i v) := ⟨fun _ _ _ => rfl, fun _ _ _ h _ => sm_st_o _ _ h⟩
theorem mCl_keptI {I I' : Nat → Nat → Int32} {B A : Nat} {c : Nat × DD × Option DD} (e : ∀ j, I' 125 j = I 125 j) (hc : mCl I B A c) : mCl I' B A c := by
  have e2 : cdB I' B = cdB I B := by
    funext k
    unfold cdB
    rw [e, e]
  unfold mCl
  rw [e2]
  simp only [e]
  exact hc
theorem mLaw_keptI {I I' : Nat → Nat → Int32} {B : Nat} {l : Law} (h : ∀ j, I' 125 j = I 125 j) (hl : mLaw I B l) : mLaw I' B l := ⟨by rw [h]; exact hl.1, hl.2.1, fun c x hx => mCl_keptI h (hl.2.2 c x hx)⟩
theorem sm_ni64 {m : Nat} (h : m < 2 ^ 31) : (nI m).toInt64.toInt = (m : Int) := by rw [nI_l h, lN_toInt h]
set_option maxHeartbeats 2000000 in
theorem c_X11_tells {ex : sm_O} {n : Nat} {y : sm_Y} {I : Nat → Nat → Int32} {L : Nat → Nat → Int64} {R : Nat → Nat → Option Nat} {Q : sm_Q} {d m kd : Nat} {w5 w6 w7 w8 w9 : Option Value} {s : St} {other : Option Nat} {F : Option (Nat × Law)} {w : Int64} (hd : 4 ≤ d) (hG : sm_G y R) (hs : mS s (I 125)) (hok : sp_ok s) (hm : m < sMen s) (ho : ∀ o, other = some o → o < sMen s) (h20 : I 123 20 = 0) (hF : mForce I F) (hkd : kd ≤ 3)
    (k : ∀ (I' : Nat → Nat → Int32) (L' : Nat → Nat → Int64), mFt I I' L L' → Q (some (.long (sp_val w (sp_toldF F kd (sp_env s m other))))) (n, y, I', L', R)) :
    sm_W ex d 0 0 184 0 [some (.ref 123), some (.int (nI kd)), some (.int (nI m)), some (.int (sp_up other)), some (.long w), w5, w6, w7, w8, w9] [] (n, y, I, L, R) Q := by
  have h7 := hok.1
  refine w_X11_tells_0 (d1 := 3) hG (by omega) ?_
  match F, hF, k with
  | none, hF, k =>
    rw [if_pos (show I 125 3 = -1 from hF)]
    exact k I L (mFt.rfl' I L)
  | some (j, l), hF, k =>
    obtain ⟨f1, f2, f3⟩ := hF
    rw [f1, if_neg (by
      intro q
      have := congrArg Int32.toInt q
      rw [nI_toInt (by omega)] at this
      have z : (-1 : Int32).toInt = -1 := rfl
      omega)]
    refine ⟨sm_ci24 (by omega) (by decide), sm_ci10 (by omega) (by decide), ?_⟩
    rw [sm_cx24 (by omega), sm_cx10 (by omega), (hs.2.1 m hm).1, (hs.2.1 m hm).2.2.1, hs.2.2.2.1]
    have hbase : (50 : Int32) + 900 * nI j = nI (50 + 900 * j) := by rw [sm_of 50, sm_of 900, pk_mul, nI_add]
    rw [hbase]
    have ht0 : I 125 4 = nI (sTerm s 0) := hs.2.2.2.2 0 (by decide)
    have ht2 : I 125 6 = nI (sTerm s 2) := hs.2.2.2.2 2 (by decide)
    have hmm := hok.2.1 m hm
    have hh := hok.2.2.2.1
    have ht := hok.2.2.2.2.1
    have hw := hok.2.2.2.2.2.2.1
    -- the loop, once the words are set
    have loop : ∀ (L1 : Nat → Nat → Int64) (u1 u2 u3 u5 u7 u9 : Option Value), mFt I (sm_st I 123 34 (nI (50 + 900 * j))) L L1 → (∀ i, i < 8 → (L1 141 (i + 1)).toInt = sp_env s m other i) → sm_W ex d 0 0 184 153 [some (.ref 123), some (.int (nI kd)), u1, u2, u3, u5, some (.long w), u7, some (.int 0), u9] [] (n, y, sm_st I 123 34 (nI (50 + 900 * j)), L1, R) Q := by
      intro L1 u1 u2 u3 u5 u7 u9 hf hL1
      have e20 : (sm_st I 123 34 (nI (50 + 900 * j))) 123 20 = 0 := by rw [sm_st_j _ _ (by decide)]; exact h20
      have e125 : ∀ q, (sm_st I 123 34 (nI (50 + 900 * j))) 125 q = I 125 q := fun q => sm_st_o _ _ (by decide)
      have henv : mWd (mLf (sm_st I 123 34 (nI (50 + 900 * j))) L1) = sp_env s m other := by
        funext i
        unfold mWd
        split
        · rename_i hi
          unfold mLf
          rw [if_pos e20, nI_clamp (by omega)]
          exact hL1 i hi
        · rename_i hi
          match i, hi with
          | 0, hi => omega
          | 1, hi => omega
          | 2, hi => omega
          | 3, hi => omega
          | 4, hi => omega
          | 5, hi => omega
          | 6, hi => omega
          | 7, hi => omega
          | i + 8, _ => rfl
      have h0 := lp_tells (ex := ex) (d := d) (n := n) (y := y) (R := R) (Q := Q) (w := w) (w2 := u1) (w3 := u2) (w4 := u3) (l := l) (B := 50 + 900 * j) (kd := kd) hd hG (by omega) hkd l.length 0 (sm_st I 123 34 (nI (50 + 900 * j))) L1 u5 u7 u9 (by omega) e20 (sm_st_s _ _ _ _) ⟨sMen s, h7, by rw [e125]; exact hs.1⟩ (mLaw_keptI e125 f3) (fun I' L' hq => by rw [henv]; exact k I' L' (hf.trans hq.t))
      exact h0
    have e34 : ∀ q, (sm_st I 123 34 (nI (50 + 900 * j))) 125 q = I 125 q := fun q => sm_st_o _ _ (by decide)
    cases other with
    | none =>
      rw [if_pos (show sp_up none = -1 from rfl)]
      refine loop _ _ _ _ _ _ _ ((mFt.i I L _).trans ((((((((mFt.l _ _ _ _).trans (mFt.l _ _ _ _)).trans (mFt.l _ _ _ _)).trans (mFt.l _ _ _ _)).trans (mFt.l _ _ _ _)).trans (mFt.l _ _ _ _)).trans (mFt.l _ _ _ _)).trans (mFt.l _ _ _ _))) ?_
      intro i hi
      match i, hi with
      | 0, _ => simp [sm_st]; rw [nI_toInt (by omega)]; rfl
      | 1, _ => simp [sm_st]; rw [nI_toInt (by omega)]; rfl
      | 2, _ => simp [sm_st]; rw [nI_toInt (by omega)]; rfl
      | 3, _ => simp [sm_st]; rw [nI_toInt (by omega)]; rfl
      | 4, _ => simp [sm_st, sp_up]; rfl
      | 5, _ => simp [sm_st]; rfl
      | 6, _ => simp [sm_st]; rw [ht0, nI_toInt (by omega)]; rfl
      | 7, _ => simp [sm_st]; rw [ht2, nI_toInt (by omega)]; rfl
    | some o =>
      have hoo := ho o rfl
      rw [if_neg (by
        intro q
        have := congrArg Int32.toInt q
        rw [show sp_up (some o) = nI o from rfl, nI_toInt (by omega)] at this
        have z : (-1 : Int32).toInt = -1 := rfl
        omega)]
      refine c_X11_unlike (s := s) (by decide) hG (by
        have : (sm_st I 123 34 (nI (50 + 900 * j))) 125 = I 125 := funext e34
        rw [this]
        exact hs) hok hm hoo ?_
      refine w_X11_tells_115 hG ⟨sm_lin (by decide), ?_⟩
      have hu : sp_unlike s m o ≤ 6 := sp_pop_le _ 6
      refine loop _ _ _ _ _ _ _ ((mFt.i I L _).trans ((((((((mFt.l _ _ _ _).trans (mFt.l _ _ _ _)).trans (mFt.l _ _ _ _)).trans (mFt.l _ _ _ _)).trans (mFt.l _ _ _ _)).trans (mFt.l _ _ _ _)).trans (mFt.l _ _ _ _)).trans (mFt.l _ _ _ _))) ?_
      intro i hi
      have e6 : (6 : Int32).toNatClampNeg = 6 := rfl
      match i, hi with
      | 0, _ => simp [sm_st, e6]; rw [nI_toInt (by omega)]; rfl
      | 1, _ => simp [sm_st, e6]; rw [nI_toInt (by omega)]; rfl
      | 2, _ => simp [sm_st, e6]; rw [nI_toInt (by omega)]; rfl
      | 3, _ => simp [sm_st, e6]; rw [nI_toInt (by omega)]; rfl
      | 4, _ => simp [sm_st, e6]; rw [show sp_up (some o) = nI o from rfl, nI_toInt (by omega)]; rfl
      | 5, _ => simp [sm_st, e6]; rw [nI_toInt (by omega)]; rfl
      | 6, _ => simp [sm_st, e6]; rw [ht0, nI_toInt (by omega)]; rfl
      | 7, _ => simp [sm_st, e6]; rw [ht2, nI_toInt (by omega)]; rfl

