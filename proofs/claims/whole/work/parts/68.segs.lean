-- SEGMENTS
def cSX (N : Nat) (cd : Nat → Nat × Nat) (a b hh : Nat) (D : DD) : Prop := ∀ cd' : Nat → Nat × Nat, (∀ k, a ≤ k → k < b → cd' k = cd k) → cSeg cd' a b hh (cD N D)
theorem cSX.mono {N : Nat} {cd cd2 : Nat → Nat × Nat} {a b hh : Nat} {D : DD} (h : cSX N cd a b hh D) (hc : ∀ k, a ≤ k → k < b → cd2 k = cd k) : cSX N cd2 a b hh D := fun cd' h' => h cd' (fun k h1 h2 => (h' k h1 h2).trans (hc k h1 h2))
theorem cSX.le {N : Nat} {cd : Nat → Nat × Nat} {a b hh : Nat} {D : DD} (h : cSX N cd a b hh D) : a ≤ b := (h cd (fun _ _ _ => rfl)).1
theorem cSX.up {N : Nat} {cd : Nat → Nat × Nat} {a b hh h2 : Nat} {D : DD} (h : cSX N cd a b hh D) (hl : hh ≤ h2) : cSX N cd a b h2 D := fun cd' hc => ⟨(h cd' hc).1, fun w len st P f hb hs k => (h cd' hc).2 w len st P f hb (by omega) k⟩
theorem ofI_nI (v : Nat) : Int32.ofInt (v : Int) = nI v := rfl
theorem cs_num {N : Nat} {cd : Nat → Nat × Nat} {a v : Nat} (h : cd a = (1, v)) : cSX N cd a (a + 1) 1 (dNum v) := by
  intro cd' hc
  have e : cd' a = (1, v) := (hc a (Nat.le_refl _) (by omega)).trans h
  refine ⟨by omega, fun w len st P f hb hs k => ⟨f + 1, ?_⟩⟩
  unfold cEv
  rw [e]
  refine ⟨by omega, ?_⟩
  rw [if_neg (show ¬ (1, v).1 = 0 from fun q => absurd (show (1 : Nat) = 0 from q) (by decide)), if_pos (show (1, v).1 = 1 from rfl)]
  exact ⟨by omega, k⟩
theorem cs_wd {N : Nat} {cd : Nat → Nat × Nat} {a i : Nat} (h : cd a = (2, i)) (hi : i < N) (hN : N ≤ 13) : cSX N cd a (a + 1) 1 (dWd i) := by
  intro cd' hc
  have e : cd' a = (2, i) := (hc a (Nat.le_refl _) (by omega)).trans h
  refine ⟨by omega, fun w len st P f hb hs k => ⟨f + 1, ?_⟩⟩
  unfold cEv
  rw [e]
  refine ⟨by omega, ?_⟩
  rw [if_neg (show ¬ (2, i).1 = 0 from fun q => absurd (show (2 : Nat) = 0 from q) (by decide)), if_neg (show ¬ (2, i).1 = 1 from fun q => absurd (show (2 : Nat) = 1 from q) (by decide)), if_pos (show (2, i).1 = 2 from rfl)]
  have ev : cD N (dWd i) w = some (w i) := by
    show some (Int32.ofInt (cW N w i)) = some (w i)
    unfold cW
    rw [if_pos hi, Int32.ofInt_toInt]
  rw [ev] at k
  exact ⟨by omega, by show i < 13; omega, k⟩
theorem of32_64 {x : Int} (h : -2147483648 ≤ x ∧ x ≤ 2147483647) : (Int32.ofInt x).toInt64 = Int64.ofInt x := by
  apply Int64.toInt_inj.mp
  rw [Int32.toInt_toInt64, Int32.toInt_ofInt_of_le (by omega) (by omega), Int64.toInt_ofInt_of_le (by omega) (by omega)]
theorem cW_b (N : Nat) (w : Nat → Int32) (i : Nat) : -2147483648 ≤ cW N w i ∧ cW N w i ≤ 2147483647 := by
  unfold cW
  split
  · have h1 := Int32.le_toInt (w i)
    have h2 := Int32.toInt_lt (w i)
    omega
  · omega
theorem cs_bin {N : Nat} {cd : Nat → Nat × Nat} {a b c h1 h2 hh st : Nat} {A B : DD} (hA : cSX N cd a b h1 A) (hB : cSX N cd b c h2 B) (ra : dR A) (rb : dR B) (hs : 3 ≤ st ∧ st ≤ 10) (hc : cd c = (st, 0)) (e1 : h1 ≤ hh) (e2 : h2 + 1 ≤ hh) : cSX N cd a (c + 1) hh (dBin st A B) := by
  intro cd' hcd
  have l1 := hA.le
  have l2 := hB.le
  have sA := hA cd' (fun k q1 q2 => hcd k q1 (by omega))
  have sB := hB cd' (fun k q1 q2 => hcd k (by omega) (by omega))
  have ec : cd' c = (st, 0) := (hcd c (by omega) (by omega)).trans hc
  refine ⟨by omega, fun w len stk P f hb hs' k => ?_⟩
  have kA := sA.2 w len stk P
  have dA : cD N A w = (A (cW N w)).map Int32.ofInt := rfl
  have dB : cD N B w = (B (cW N w)).map Int32.ofInt := rfl
  cases hAe : A (cW N w) with
  | none =>
    have e : cD N (dBin st A B) w = none := by
      show ((dBin st A B) (cW N w)).map Int32.ofInt = none
      unfold dBin
      rw [hAe]
      rfl
    rw [e] at k
    exact kA 0 (by omega) (by omega) (by rw [dA, hAe]; exact k)
  | some x =>
    have kB := sB.2 w len (Int32.ofInt x :: stk) P
    cases hBe : B (cW N w) with
    | none =>
      have e : cD N (dBin st A B) w = none := by
        show ((dBin st A B) (cW N w)).map Int32.ofInt = none
        unfold dBin
        rw [hAe, hBe]
        rfl
      rw [e] at k
      obtain ⟨f1, q1⟩ := kB 0 (by omega) (by simp only [List.length_cons]; omega) (by rw [dB, hBe]; exact k)
      exact kA f1 (by omega) (by omega) (by rw [dA, hAe]; exact q1)
    | some z =>
      have rx := ra (-2147483648) 2147483647 (by omega) (by omega) _ x (cW_b N w) hAe
      have rz := rb (-2147483648) 2147483647 (by omega) (by omega) _ z (cW_b N w) hBe
      have e : cD N (dBin st A B) w = (dRk st x z).map Int32.ofInt := by
        show ((dBin st A B) (cW N w)).map Int32.ofInt = _
        unfold dBin
        rw [hAe, hBe]
        rfl
      rw [e] at k
      have fin : cEv cd' len w (f + 1) c (Int32.ofInt z :: Int32.ofInt x :: stk) P := by
        unfold cEv
        rw [ec]
        refine ⟨by omega, ?_⟩
        dsimp only
        rw [if_neg (show ¬ st = 0 by omega), if_neg (show ¬ st = 1 by omega), if_neg (show ¬ st = 2 by omega), if_neg (show ¬ st = 11 by omega), if_neg (show ¬ (st = 12 ∨ st = 13) by omega), show nI st + 17 = nI (st + 17) from nI_add st 17, of32_64 rx, of32_64 rz]
        unfold dRk at k
        cases hr : sp_rk (nI (st + 17)) (Int64.ofInt x) (Int64.ofInt z) with
        | none =>
          rw [hr] at k
          exact k
        | some u =>
          rw [hr] at k
          have k : cEv cd' len w f (c + 1) (Int32.ofInt u.toInt :: stk) P := k
          rw [← ofI_l, Int64.ofInt_toInt] at k
          exact k
      obtain ⟨f1, q1⟩ := kB (f + 1) (by omega) (by simp only [List.length_cons]; omega) (by rw [dB, hBe]; exact fin)
      exact kA f1 (by omega) (by omega) (by rw [dA, hAe]; exact q1)
theorem ofI01 {x : Int} (h : x = 0 ∨ x = 1) (c : Int) (hc : c = 0 ∨ c = 1) : Int32.ofInt x = Int32.ofInt c ↔ x = c := by
  constructor
  · intro q
    have := congrArg Int32.toInt q
    rw [Int32.toInt_ofInt_of_le (by omega) (by omega), Int32.toInt_ofInt_of_le (by omega) (by omega)] at this
    exact this
  · intro q; rw [q]
theorem dCo_env (st : Nat) (hs : st = 12 ∨ st = 13) (A B : DD) (env : Nat → Int) : dCo st A B env = (A env).bind fun x => if x = (if st = 12 then 1 else 0) then some x else B env := by
  unfold dCo
  rcases hs with rfl | rfl
  · rw [if_pos rfl, if_pos rfl]
    unfold dOr
    cases A env with
    | none => rfl
    | some x =>
      show (if x = 1 then some 1 else B env) = (if x = 1 then some x else B env)
      by_cases q : x = 1
      · rw [if_pos q, if_pos q, q]
      · rw [if_neg q, if_neg q]
  · rw [if_neg (by decide), if_pos rfl, if_neg (by decide)]
    unfold dAnd
    cases A env with
    | none => rfl
    | some x =>
      show (if x = 0 then some 0 else B env) = (if x = 0 then some x else B env)
      by_cases q : x = 0
      · rw [if_pos q, if_pos q, q]
      · rw [if_neg q, if_neg q]
theorem cs_skip {N : Nat} {cd : Nat → Nat × Nat} {a b c hh st : Nat} {A B : DD} (hA : cSX N cd a b hh A) (hB : cSX N cd (b + 1) c hh B) (a01 : sp_01 A) (hs : st = 12 ∨ st = 13) (hc : cd b = (st, c - b - 1)) : cSX N cd a c hh (dCo st A B) := by
  intro cd' hcd
  have l1 := hA.le
  have l2 := hB.le
  have sA := hA cd' (fun k q1 q2 => hcd k q1 (by omega))
  have sB := hB cd' (fun k q1 q2 => hcd k (by omega) (by omega))
  have ec : cd' b = (st, c - b - 1) := (hcd b (by omega) (by omega)).trans hc
  refine ⟨by omega, fun w len stk P f hb hs' k => ?_⟩
  have kA := sA.2 w len stk P
  have dA : cD N A w = (A (cW N w)).map Int32.ofInt := rfl
  have dB : cD N B w = (B (cW N w)).map Int32.ofInt := rfl
  have dC : cD N (dCo st A B) w = ((A (cW N w)).bind fun x => if x = (if st = 12 then 1 else 0) then some x else B (cW N w)).map Int32.ofInt := by
    show (dCo st A B (cW N w)).map Int32.ofInt = _
    rw [dCo_env st hs]
  rw [dC] at k
  cases hAe : A (cW N w) with
  | none =>
    rw [hAe] at k
    exact kA 0 (by omega) (by omega) (by rw [dA, hAe]; exact k)
  | some x =>
    have x01 := a01 _ _ hAe
    rw [hAe] at k
    have e01 : (Int32.ofInt x = (if st = 12 then 1 else 0)) ↔ x = (if st = 12 then 1 else 0) := by
      rcases hs with rfl | rfl
      · exact ofI01 x01 1 (Or.inr rfl)
      · exact ofI01 x01 0 (Or.inl rfl)
    have n12 : ¬ st = 0 ∧ ¬ st = 1 ∧ ¬ st = 2 ∧ ¬ st = 11 := by omega
    by_cases hx : x = (if st = 12 then 1 else 0)
    · have k : (match Option.map Int32.ofInt (if x = (if st = 12 then 1 else 0) then some x else B (cW N w)) with
        | some v => cEv cd' len w f c (v :: stk) P
        | none => P none) := k
      rw [if_pos hx] at k
      refine kA (f + 1) (by omega) (by omega) ?_
      rw [dA, hAe]
      show cEv cd' len w (f + 1) b (Int32.ofInt x :: stk) P
      unfold cEv
      rw [ec]
      refine ⟨by omega, ?_⟩
      dsimp only
      rw [if_neg n12.1, if_neg n12.2.1, if_neg n12.2.2.1, if_neg n12.2.2.2, if_pos hs, if_pos (e01.mpr hx), show b + (c - b - 1) + 1 = c by omega]
      exact k
    · have k : (match Option.map Int32.ofInt (if x = (if st = 12 then 1 else 0) then some x else B (cW N w)) with
        | some v => cEv cd' len w f c (v :: stk) P
        | none => P none) := k
      rw [if_neg hx] at k
      obtain ⟨f1, q1⟩ := sB.2 w len stk P f (by omega) (by omega) (by rw [dB]; exact k)
      refine kA (f1 + 1) (by omega) (by omega) ?_
      rw [dA, hAe]
      show cEv cd' len w (f1 + 1) b (Int32.ofInt x :: stk) P
      unfold cEv
      rw [ec]
      refine ⟨by omega, ?_⟩
      dsimp only
      rw [if_neg n12.1, if_neg n12.2.1, if_neg n12.2.2.1, if_neg n12.2.2.2, if_pos hs, if_neg (fun q => hx (e01.mp q))]
      exact q1
theorem cs_not {N : Nat} {cd : Nat → Nat × Nat} {a b hh : Nat} {A : DD} (hA : cSX N cd a b hh A) (hc : cd b = (11, 0)) : cSX N cd a (b + 1) hh (dNot A) := by
  intro cd' hcd
  have l1 := hA.le
  have sA := hA cd' (fun k q1 q2 => hcd k q1 (by omega))
  have ec : cd' b = (11, 0) := (hcd b (by omega) (by omega)).trans hc
  refine ⟨by omega, fun w len stk P f hb hs' k => ?_⟩
  have kA := sA.2 w len stk P
  have dA : cD N A w = (A (cW N w)).map Int32.ofInt := rfl
  have dC : cD N (dNot A) w = ((A (cW N w)).map fun x => 1 - x).map Int32.ofInt := rfl
  rw [dC] at k
  cases hAe : A (cW N w) with
  | none =>
    rw [hAe] at k
    exact kA 0 (by omega) (by omega) (by rw [dA, hAe]; exact k)
  | some x =>
    rw [hAe] at k
    have k : cEv cd' len w f (b + 1) (Int32.ofInt (1 - x) :: stk) P := k
    refine kA (f + 1) (by omega) (by omega) ?_
    rw [dA, hAe]
    show cEv cd' len w (f + 1) b (Int32.ofInt x :: stk) P
    unfold cEv
    rw [ec]
    refine ⟨by omega, ?_⟩
    rw [if_neg (show ¬ ((11, 0) : Nat × Nat).1 = 0 by decide), if_neg (show ¬ ((11, 0) : Nat × Nat).1 = 1 by decide), if_neg (show ¬ ((11, 0) : Nat × Nat).1 = 2 by decide), if_pos (show ((11, 0) : Nat × Nat).1 = 11 from rfl)]
    rw [Int32.ofInt_sub] at k
    exact k
-- of the model
def mSX (wd : (Int32 → Int32 → Int64) → Nat → Int) (cd : Nat → Int32 × Int32) (a b : Nat) (D : DD) : Prop := ∀ cd' : Nat → Int32 × Int32, (∀ k, a ≤ k → k < b → cd' k = cd k) → mSeg cd' a b (fun lf => (D (wd lf)).map Int64.ofInt)
theorem mSX.mono {wd : (Int32 → Int32 → Int64) → Nat → Int} {cd cd2 : Nat → Int32 × Int32} {a b : Nat} {D : DD} (h : mSX wd cd a b D) (hc : ∀ k, a ≤ k → k < b → cd2 k = cd k) : mSX wd cd2 a b D := fun cd' h' => h cd' (fun k h1 h2 => (h' k h1 h2).trans (hc k h1 h2))
theorem mSX.le {wd : (Int32 → Int32 → Int64) → Nat → Int} {cd : Nat → Int32 × Int32} {a b : Nat} {D : DD} (h : mSX wd cd a b D) : a ≤ b := (h cd (fun _ _ _ => rfl)).1
theorem ms_num {wd : (Int32 → Int32 → Int64) → Nat → Int} {cd : Nat → Int32 × Int32} {a v : Nat} (h : cd a = (0, nI v)) (hv : v ≤ 1000) : mSX wd cd a (a + 1) (dNum v) := by
  intro cd' hc
  have e : cd' a = (0, nI v) := (hc a (Nat.le_refl _) (by omega)).trans h
  refine ⟨by omega, fun lf e' st P f hb k => ⟨f + 1, ?_⟩⟩
  unfold mEv
  rw [if_neg (by omega), e]
  refine ⟨by omega, ?_⟩
  rw [if_neg (show ¬ (20 : Int32) ≤ (0, nI v).1 from fun q => absurd (show (20 : Int32) ≤ 0 from q) (by decide))]
  refine ⟨by show (0 : Int32) ≤ 0; decide, by show (0 : Int32) < 9; decide, ?_⟩
  rw [if_pos (show ((0 : Int32), nI v).1 = 0 from rfl)]
  have k : mEv cd' lf e' f (a + 1) (Int64.ofInt (v : Int) :: st) P := k
  have ev : (nI v).toInt64 = Int64.ofInt (v : Int) := by
    apply Int64.toInt_inj.mp
    rw [sm_ni64 (by omega), Int64.toInt_ofInt_of_le (by omega) (by omega)]
  show mEv cd' lf e' f (a + 1) ((nI v).toInt64 :: st) P
  rw [ev]
  exact k
theorem ms_wd {wd : (Int32 → Int32 → Int64) → Nat → Int} {cd : Nat → Int32 × Int32} {a i : Nat} {op ar : Int32} (h : cd a = (op, ar)) (h1 : 0 < op) (h9 : op < 9) (hw : ∀ lf, wd lf i = (lf op ar).toInt) : mSX wd cd a (a + 1) (dWd i) := by
  intro cd' hc
  have e : cd' a = (op, ar) := (hc a (Nat.le_refl _) (by omega)).trans h
  refine ⟨by omega, fun lf e' st P f hb k => ⟨f + 1, ?_⟩⟩
  have g1 := Int32.lt_iff_toInt_lt.mp h1
  have g9 := Int32.lt_iff_toInt_lt.mp h9
  have z0 : (0 : Int32).toInt = 0 := rfl
  have z9 : (9 : Int32).toInt = 9 := rfl
  have z20 : (20 : Int32).toInt = 20 := rfl
  unfold mEv
  rw [if_neg (by omega), e]
  refine ⟨by omega, ?_⟩
  rw [if_neg (show ¬ (20 : Int32) ≤ (op, ar).1 from fun q => by have := Int32.le_iff_toInt_le.mp (show (20 : Int32) ≤ op from q); omega)]
  refine ⟨by show (0 : Int32) ≤ op; rw [Int32.le_iff_toInt_le]; omega, h9, ?_⟩
  rw [if_neg (show ¬ (op, ar).1 = 0 from fun q => by have := congrArg Int32.toInt (show op = 0 from q); omega)]
  have k : mEv cd' lf e' f (a + 1) (Int64.ofInt (wd lf i) :: st) P := k
  rw [hw, Int64.ofInt_toInt] at k
  exact k
theorem ms_bin {wd : (Int32 → Int32 → Int64) → Nat → Int} {cd : Nat → Int32 × Int32} {a b c st : Nat} {ar : Int32} {A B : DD} (hA : mSX wd cd a b A) (hB : mSX wd cd b c B) (hs : 3 ≤ st ∧ st ≤ 10) (hc : cd c = (nI (st + 17), ar)) : mSX wd cd a (c + 1) (dBin st A B) := by
  intro cd' hcd
  have l1 := hA.le
  have l2 := hB.le
  have sA := hA cd' (fun k q1 q2 => hcd k q1 (by omega))
  have sB := hB cd' (fun k q1 q2 => hcd k (by omega) (by omega))
  have ec : cd' c = (nI (st + 17), ar) := (hcd c (by omega) (by omega)).trans hc
  refine ⟨by omega, fun lf e stk P f hb k => ?_⟩
  have kA := sA.2 lf e stk P
  cases hAe : A (wd lf) with
  | none =>
    have e1 : (dBin st A B) (wd lf) = none := by unfold dBin; rw [hAe]; rfl
    have k : P none := by
      have k2 := k
      dsimp only at k2
      rw [e1] at k2
      exact k2
    exact kA 0 (by omega) (by dsimp only; rw [hAe]; exact k)
  | some x =>
    have kB := sB.2 lf e (Int64.ofInt x :: stk) P
    cases hBe : B (wd lf) with
    | none =>
      have e1 : (dBin st A B) (wd lf) = none := by unfold dBin; rw [hAe, hBe]; rfl
      have k : P none := by
        have k2 := k
        dsimp only at k2
        rw [e1] at k2
        exact k2
      obtain ⟨f1, q1⟩ := kB 0 (by omega) (by dsimp only; rw [hBe]; exact k)
      exact kA f1 (by omega) (by dsimp only; rw [hAe]; exact q1)
    | some z =>
      have e1 : (dBin st A B) (wd lf) = dRk st x z := by unfold dBin; rw [hAe, hBe]; rfl
      dsimp only at k
      rw [e1] at k
      have fin : mEv cd' lf e (f + 1) c (Int64.ofInt z :: Int64.ofInt x :: stk) P := by
        unfold mEv
        rw [if_neg (by omega), ec]
        refine ⟨by omega, ?_⟩
        dsimp only
        rw [if_pos (show (20 : Int32) ≤ nI (st + 17) from (nI_leI (a := 20) (by decide) (by omega)).mpr (by omega)), if_neg (show ¬ (28 : Int32) ≤ nI (st + 17) from fun q => by have := (nI_leI (a := 28) (by decide) (by omega)).mp q; omega)]
        unfold dRk at k
        cases hr : sp_rk (nI (st + 17)) (Int64.ofInt x) (Int64.ofInt z) with
        | none =>
          rw [hr] at k
          exact k
        | some u =>
          rw [hr] at k
          have k : mEv cd' lf e f (c + 1) (Int64.ofInt u.toInt :: stk) P := k
          rw [Int64.ofInt_toInt] at k
          exact k
      obtain ⟨f1, q1⟩ := kB (f + 1) (by omega) (by dsimp only; rw [hBe]; exact fin)
      exact kA f1 (by omega) (by dsimp only; rw [hAe]; exact q1)
theorem ofL01 {x : Int} (h : x = 0 ∨ x = 1) (c : Int) (hc : c = 0 ∨ c = 1) : Int64.ofInt x = Int64.ofInt c ↔ x = c := by
  constructor
  · intro q
    have := congrArg Int64.toInt q
    rw [Int64.toInt_ofInt_of_le (by omega) (by omega), Int64.toInt_ofInt_of_le (by omega) (by omega)] at this
    exact this
  · intro q; rw [q]
theorem ms_skip {wd : (Int32 → Int32 → Int64) → Nat → Int} {cd : Nat → Int32 × Int32} {a b c st : Nat} {A B : DD} (hA : mSX wd cd a b A) (hB : mSX wd cd (b + 1) c B) (a01 : sp_01 A) (hs : st = 12 ∨ st = 13) (hc : cd b = (if st = 12 then 30 else 29, nI c)) : mSX wd cd a c (dCo st A B) := by
  intro cd' hcd
  have l1 := hA.le
  have l2 := hB.le
  have sA := hA cd' (fun k q1 q2 => hcd k q1 (by omega))
  have sB := hB cd' (fun k q1 q2 => hcd k (by omega) (by omega))
  have ec : cd' b = (if st = 12 then 30 else 29, nI c) := (hcd b (by omega) (by omega)).trans hc
  refine ⟨by omega, fun lf e stk P f hb k => ?_⟩
  have kA := sA.2 lf e stk P
  dsimp only at k
  rw [dCo_env st hs] at k
  have c1 : (20 : Int32) ≤ (if st = 12 then 30 else 29) ∧ (28 : Int32) ≤ (if st = 12 then 30 else 29) ∧ ¬ (if st = 12 then (30 : Int32) else 29) = 28 ∧ (if (if st = 12 then (30 : Int32) else 29) = 29 then (0 : Int64) else 1) = Int64.ofInt (if st = 12 then 1 else 0) := by
    rcases hs with rfl | rfl <;> decide
  cases hAe : A (wd lf) with
  | none =>
    rw [hAe] at k
    exact kA 0 (by omega) (by dsimp only; rw [hAe]; exact k)
  | some x =>
    have x01 := a01 _ _ hAe
    rw [hAe] at k
    have e01 : (Int64.ofInt x = Int64.ofInt (if st = 12 then 1 else 0)) ↔ x = (if st = 12 then 1 else 0) := ofL01 x01 _ (by rcases hs with rfl | rfl <;> decide)
    have k : (match Option.map Int64.ofInt (if x = (if st = 12 then 1 else 0) then some x else B (wd lf)) with
        | some v => mEv cd' lf e f c (v :: stk) P
        | none => P none) := k
    by_cases hx : x = (if st = 12 then 1 else 0)
    · rw [if_pos hx] at k
      refine kA (f + 1) (by omega) ?_
      dsimp only
      rw [hAe]
      show mEv cd' lf e (f + 1) b (Int64.ofInt x :: stk) P
      unfold mEv
      rw [if_neg (by omega), ec]
      refine ⟨by omega, ?_⟩
      dsimp only
      rw [if_pos c1.1, if_pos c1.2.1, if_neg c1.2.2.1, c1.2.2.2, if_pos (e01.mpr hx)]
      exact ⟨c, rfl, by omega, by omega, k⟩
    · rw [if_neg hx] at k
      obtain ⟨f1, q1⟩ := sB.2 lf e stk P f (by omega) k
      refine kA (f1 + 1) (by omega) ?_
      dsimp only
      rw [hAe]
      show mEv cd' lf e (f1 + 1) b (Int64.ofInt x :: stk) P
      unfold mEv
      rw [if_neg (by omega), ec]
      refine ⟨by omega, ?_⟩
      dsimp only
      rw [if_pos c1.1, if_pos c1.2.1, if_neg c1.2.2.1, c1.2.2.2, if_neg (fun q => hx (e01.mp q))]
      exact q1
theorem ms_not {wd : (Int32 → Int32 → Int64) → Nat → Int} {cd : Nat → Int32 × Int32} {a b : Nat} {ar : Int32} {A : DD} (hA : mSX wd cd a b A) (hc : cd b = (28, ar)) : mSX wd cd a (b + 1) (dNot A) := by
  intro cd' hcd
  have l1 := hA.le
  have sA := hA cd' (fun k q1 q2 => hcd k q1 (by omega))
  have ec : cd' b = (28, ar) := (hcd b (by omega) (by omega)).trans hc
  refine ⟨by omega, fun lf e stk P f hb k => ?_⟩
  have kA := sA.2 lf e stk P
  cases hAe : A (wd lf) with
  | none =>
    have e1 : (dNot A) (wd lf) = none := by unfold dNot; rw [hAe]; rfl
    have k : P none := by
      have k2 := k
      dsimp only at k2
      rw [e1] at k2
      exact k2
    exact kA 0 (by omega) (by dsimp only; rw [hAe]; exact k)
  | some x =>
    have e1 : (dNot A) (wd lf) = some (1 - x) := by unfold dNot; rw [hAe]; rfl
    dsimp only at k
    rw [e1] at k
    have k : mEv cd' lf e f (b + 1) (Int64.ofInt (1 - x) :: stk) P := k
    refine kA (f + 1) (by omega) ?_
    dsimp only
    rw [hAe]
    show mEv cd' lf e (f + 1) b (Int64.ofInt x :: stk) P
    unfold mEv
    rw [if_neg (by omega), ec]
    refine ⟨by omega, ?_⟩
    rw [if_pos (show (20 : Int32) ≤ (28, ar).1 from (show (20 : Int32) ≤ 28 by decide)), if_pos (show (28 : Int32) ≤ (28, ar).1 from (show (28 : Int32) ≤ 28 by decide))]
    dsimp only
    rw [if_pos rfl]
    rw [Int64.ofInt_sub] at k
    exact k

