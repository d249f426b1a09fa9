-- ORDERS: the class runs them
def cRf (I I' : Nat → Nat → Int32) : Prop := ∀ a j, ¬ (51 ≤ a ∧ a ≤ 53) → ¬ (55 ≤ a ∧ a ≤ 57) → ¬ (a = 1 ∧ 5 ≤ j ∧ j ≤ 7) → a ≠ 4 → ¬ (a = 5 ∧ j = 0) → ¬ (a = 65 ∧ j = 1) → a ≠ 66 → ¬ (a = 54 ∧ (j = 7 ∨ j = 8)) → I' a j = I a j
theorem cRf.rfl' (I : Nat → Nat → Int32) : cRf I I := fun _ _ _ _ _ _ _ _ _ _ => rfl
theorem cRf.trans {I I' I2 : Nat → Nat → Int32} (h1 : cRf I I') (h2 : cRf I' I2) : cRf I I2 := fun a j q1 q2 q3 q4 q5 q6 q7 q8 => (h2 a j q1 q2 q3 q4 q5 q6 q7 q8).trans (h1 a j q1 q2 q3 q4 q5 q6 q7 q8)
theorem mk67 {y : sm_Y} {R : Nat → Nat → Option Nat} (hG : sm_G y R) : ok6 y R 67 200 12 := ⟨hG.1 67 (by decide), hG.2 67 0 rfl, hG.2 67 1 rfl, hG.2 67 2 rfl, hG.2 67 3 rfl, hG.2 67 4 rfl, hG.1 68 (by decide), hG.1 69 (by decide), hG.1 70 (by decide), hG.1 71 (by decide), hG.1 72 (by decide)⟩
theorem ofI_1 {v : Int} (h : v = 0 ∨ v = 1) : Int32.ofInt v = 1 ↔ v = 1 := by
  rcases h with rfl | rfl
  · exact ⟨fun z => absurd z (by decide), fun z => by cases z⟩
  · exact ⟨fun _ => rfl, fun _ => rfl⟩
set_option maxHeartbeats 1000000 in
theorem c_X1_runOnce {ex : sm_O} {n : Nat} {y : sm_Y} {I : Nat → Nat → Int32} {L : Nat → Nat → Int64} {R : Nat → Nat → Option Nat} {Q : sm_Q} {d b c : Nat} {w2 : Option Value} {s0 : St} {F : Option (Nat × Law)} {l : List OC} {x : OC} {z : ZZ} (hd : 5 ≤ d) (hE : exOK ex) (hG : sm_G y R) (hs : cS z.1 1 I) (hu : cU z.2.1 65 I) (hz : wZ s0 b z) (hb : b ≤ 500) (hF : cForce I F) (hl : cOrd I l) (hx : l[c]? = some x) (h7 : I 54 7 = nI z.2.2.1) (h8 : I 54 8 = sp_up z.2.2.2)
    (k0 : or_one F x.1 z = none → ∀ I', cRf I I' → Q (some (.int 0)) (n, y, I', L, R))
    (k1 : ∀ z', or_one F x.1 z = some z' → ∀ I', cRf I I' → cS z'.1 1 I' → cU z'.2.1 65 I' → I' 54 7 = nI z'.2.2.1 → I' 54 8 = sp_up z'.2.2.2 → Q (some (.int 1)) (n, y, I', L, R)) : sm_W ex d 0 0 8 0 [some (.ref 54), some (.int (nI c)), w2] [] (n, y, I, L, R) Q := by
  obtain ⟨hw1, hw2, hw3, hw4, hw5⟩ := hz
  obtain ⟨l1, l2, cd, len, l3, l4⟩ := hl
  have hcx := l4 c x hx
  have hc12 : c < 12 := by
    have := (List.getElem?_eq_some_iff.mp hx).1
    omega
  obtain ⟨c1, c2, c3, c4, c5, c6, c7⟩ := hcx
  have hcl : (nI c).toNatClampNeg = c := nI_clamp (by omega)
  have hvp : vp_in (nI c) 12 := vp_in_nI hc12 (by decide)
  refine w_X1_runOnce_0 (d1 := 4) hG (by omega) ?_
  refine c_X1_setWords (by omega) hG hs hw1 h7 (by omega) h8 hw5 ?_
  intro I1 f1 en1
  generalize hen : oenv z.1 z.2.2.1 z.2.2.2 = env at en1
  -- the act
  have act : ∀ (I2 : Nat → Nat → Int32) (v : Int), (∀ a j, ¬ (55 ≤ a ∧ a ≤ 57) → I2 a j = I a j) → sp_tb x.1.2.2 env = true → or_sum x.1 env = some v → (x.1.1 ≠ 3 → I2 55 3 = Int32.ofInt v ∧ I2 70 c ≠ -1) → sm_W ex d 0 0 8 91 [some (.ref 54), some (.int (nI c)), w2] [] (n, y, I2, L, R) Q := by
    intro I2 v f2 htb hsum hv
    have hone : or_one F x.1 z = or_do F x.1.1 v z := by
      unfold or_one
      rw [hen, if_pos htb, hsum]
      rfl
    have e69 : I2 69 c = nI x.1.1 := (f2 69 c (by omega)).trans c1
    have go : sm_W ex 4 0 0 6 0 [some (.ref 54), some (.int (nI x.1.1)), some (.int (Int32.ofInt v))] [] (n, y, I2, L, R) (fun r μ1 => sm_W ex d 0 0 8 128 [some (.ref 54), some (.int (nI c)), w2] (r.toList ++ []) μ1 Q) := by
      refine c_X1_act (Nat.le_refl 4) hE hG (cS_kept2 (fun a j q => f2 a j (by omega)) hs) hw1 (cU_kept (fun a j q => f2 a j (by omega)) hu) hw2 (cForce_kept (fun a j q1 q2 => f2 a j (by omega)) hF) c2 ?_
      intro I3 f3 s3 u3
      have fr3 : ∀ a j, ¬ (51 ≤ a ∧ a ≤ 53) → ¬ (55 ≤ a ∧ a ≤ 57) → ¬ (a = 1 ∧ 5 ≤ j ∧ j ≤ 7) → a ≠ 4 → ¬ (a = 5 ∧ j = 0) → ¬ (a = 65 ∧ j = 1) → a ≠ 66 → I3 a j = I a j := fun a j q1 q2 q3 q4 q5 q6 q7 => (f3 a j q1 q3 q4 q5 q6 q7).trans (f2 a j q2)
      refine w_X1_runOnce_128 hG ?_
      unfold or_do at hone
      have hr := sp_act_r (F := F) (u := z.2.1) x.1.1 (Int32.ofInt v) hw1.1.1
      generalize hact : sp_act F z.1 z.2.1 x.1.1 (Int32.ofInt v) = r at hone hr s3 u3 ⊢
      by_cases hn : r.1 < 0
      · rw [if_pos hn] at hone
        rw [if_neg (Int32.not_le.mpr hn)]
        exact k0 hone I3 (fun a j q1 q2 q3 q4 q5 q6 q7 _ => fr3 a j q1 q2 q3 q4 q5 q6 q7)
      · rw [if_neg hn] at hone
        rw [if_pos (Int32.not_lt.mp hn), hcl, show I3 69 c = nI x.1.1 from (fr3 69 c (by omega) (by omega) (by omega) (by omega) (by omega) (by omega) (by omega)).trans c1]
        refine ⟨hvp, ?_⟩
        have e7 : I3 54 7 = nI z.2.2.1 := (fr3 54 7 (by omega) (by omega) (by omega) (by omega) (by omega) (by omega) (by omega)).trans h7
        have e8 : I3 54 8 = sp_up z.2.2.2 := (fr3 54 8 (by omega) (by omega) (by omega) (by omega) (by omega) (by omega) (by omega)).trans h8
        have hr2 : r.1 = nI r.1.toNatClampNeg := by
          rcases hr with (q | q) | ⟨t, t1, t2⟩
          · rw [q] at hn
            exact absurd (show (-2 : Int32) < 0 by decide) hn
          · rw [q] at hn
            exact absurd (show (-3 : Int32) < 0 by decide) hn
          · rw [t2, nI_clamp (by omega)]
        have f0 : nI x.1.1 = 0 ↔ x.1.1 = 0 := nI_eq (b := 0) (by omega) (by decide)
        simp only [f0]
        rw [e7, sm_n1]
        by_cases hk0 : x.1.1 = 0
        · rw [if_pos hk0]
          rw [if_pos hk0] at hone
          refine k1 _ hone _ (fun a j q1 q2 q3 q4 q5 q6 q7 q8 => ?_) ?_ ?_ ?_ ?_
          · rw [sm_st_or _ _ (by omega), sm_st_or _ _ (by omega)]
            exact fr3 a j q1 q2 q3 q4 q5 q6 q7
          · exact cS_kept2 (fun a j q => by rw [sm_st_or _ _ (by omega), sm_st_or _ _ (by omega)]) s3
          · exact cU_kept (fun a j q => by rw [sm_st_or _ _ (by omega), sm_st_or _ _ (by omega)]) u3
          · exact sm_st_s _ _ _ _
          · rw [sm_st_j _ _ (by decide), sm_st_s]
            exact hr2
        · rw [if_neg hk0]
          rw [if_neg hk0] at hone
          refine k1 _ hone _ (fun a j q1 q2 q3 q4 q5 q6 q7 q8 => ?_) ?_ ?_ ?_ ?_
          · rw [sm_st_or _ _ (by omega)]
            exact fr3 a j q1 q2 q3 q4 q5 q6 q7
          · exact cS_kept2 (fun a j q => by rw [sm_st_or _ _ (by omega)]) s3
          · exact cU_kept (fun a j q => by rw [sm_st_or _ _ (by omega)]) u3
          · exact sm_st_s _ _ _ _
          · rw [sm_st_j _ _ (by decide)]
            exact e8
    refine w_X1_runOnce_91 (d1 := 4) hG (by omega) ?_
    rw [hcl]
    refine ⟨hvp, ?_⟩
    by_cases h3 : x.1.1 = 3
    · rw [if_pos ((f2 70 c (by omega)).trans (c4 h3)), e69]
      unfold or_sum at hsum
      rw [if_pos h3] at hsum
      cases hsum
      exact go
    · obtain ⟨v1, v2⟩ := hv h3
      rw [if_neg v2, v1, e69]
      exact go
  -- the sum
  have sum : ∀ (I2 : Nat → Nat → Int32), (∀ a j, ¬ (55 ≤ a ∧ a ≤ 57) → I2 a j = I a j) → cW 13 (I2 56) = env → sp_tb x.1.2.2 env = true → sm_W ex d 0 0 8 53 [some (.ref 54), some (.int (nI c)), w2] [] (n, y, I2, L, R) Q := by
    intro I2 f2 en2 htb
    refine w_X1_runOnce_53 (d1 := 4) hG (by omega) ?_
    rw [hcl]
    refine ⟨hvp, ?_⟩
    have e70 : I2 70 c = I 70 c := f2 70 c (by omega)
    by_cases h3 : x.1.1 = 3
    · rw [if_pos (e70.trans (c4 h3))]
      exact act I2 (-1) f2 htb (by unfold or_sum; rw [if_pos h3]) (fun q => absurd h3 q)
    · obtain ⟨hin, a, bb, hh, ea, hb1, hh1, hb2, hsg⟩ := c3 h3
      have hab := hsg.1
      have hl2 := l3.2.1
      have hne : ¬ I2 70 c = -1 := by rw [e70, ea]; exact nI_m1 (by omega)
      rw [if_neg hne, e70, ea]
      refine c_X2_works (by omega) (mk55 hG) (mk67 hG) rfl (by unfold cApart; omega) (⟨(f2 67 6 (by omega)).trans l3.1, l3.2.1, fun k hk => by rw [f2 68 k (by omega)]; exact l3.2.2 k hk⟩ : cPr I2 67 cd len) hsg hh1 hb1 hb2 ?_
      intro I3 f3 v3
      have e56 : cD 13 x.1.2.1 (I2 (55 + 1)) = (x.1.2.1 env).map Int32.ofInt := by
        unfold cD
        rw [show cW 13 (I2 (55 + 1)) = env from en2]
      rw [e56] at v3 ⊢
      have fr3 : ∀ a j, ¬ (55 ≤ a ∧ a ≤ 57) → I3 a j = I a j := fun a j q => (f3 a j (by omega) (by omega)).trans (f2 a j q)
      refine w_X1_runOnce_86 ?_
      have hos : or_sum x.1 env = x.1.2.1 env := by unfold or_sum; rw [if_neg h3]
      cases hD : x.1.2.1 env with
      | none =>
        rw [if_pos (show (if (Option.map Int32.ofInt (none : Option Int)).isSome = true then (1 : Int32) else 0) = 0 from rfl)]
        refine k0 ?_ I3 (fun a j _ q2 _ _ _ _ _ _ => fr3 a j q2)
        unfold or_one
        rw [hen, if_pos htb, hos, hD]
        rfl
      | some v =>
        rw [hD] at v3
        rw [if_neg (show ¬ (if (Option.map Int32.ofInt (some v)).isSome = true then (1 : Int32) else 0) = 0 from fun w => absurd (show (1 : Int32) = 0 from w) (by decide))]
        exact act I3 v fr3 htb (hos.trans hD) (fun _ => ⟨v3, by rw [fr3 70 c (by omega), ea]; exact nI_m1 (by omega)⟩)
  -- the test
  have f1' : ∀ a j, ¬ (55 ≤ a ∧ a ≤ 57) → I1 a j = I a j := fun a j q => f1 a j (by omega)
  have skip : ∀ I2 : Nat → Nat → Int32, (∀ a j, ¬ (55 ≤ a ∧ a ≤ 57) → I2 a j = I a j) → ¬ sp_tb x.1.2.2 env = true → Q (some (.int 1)) (n, y, I2, L, R) := fun I2 f2 htb => by
    refine k1 z ?_ I2 (fun a j _ q2 _ _ _ _ _ _ => f2 a j q2) (cS_kept2 (fun a j q => f2 a j (by omega)) hs) (cU_kept (fun a j q => f2 a j (by omega)) hu) ((f2 54 7 (by omega)).trans h7) ((f2 54 8 (by omega)).trans h8)
    unfold or_one
    rw [hen, if_neg htb]
  refine w_X1_runOnce_4 (d1 := 4) hG (by omega) ?_
  rw [hcl]
  refine ⟨hvp, ?_⟩
  have e71 : I1 71 c = I 71 c := f1' 71 c (by omega)
  cases hT : x.1.2.2 with
  | none =>
    rw [hT] at c5
    rw [if_pos (e71.trans c5)]
    exact sum I1 f1' en1 (by rw [hT]; rfl)
  | some T =>
    rw [hT] at c5
    obtain ⟨h01, hin, a, bb, hh, ea, hb1, hh1, hb2, hsg⟩ := c5
    have hab := hsg.1
    have hl2 := l3.2.1
    rw [if_neg (by rw [e71, ea]; exact nI_m1 (by omega)), e71, ea]
    refine c_X2_works (by omega) (mk55 hG) (mk67 hG) rfl (by unfold cApart; omega) (⟨(f1' 67 6 (by omega)).trans l3.1, l3.2.1, fun k hk => by rw [f1' 68 k (by omega)]; exact l3.2.2 k hk⟩ : cPr I1 67 cd len) hsg hh1 hb1 hb2 ?_
    intro I3 f3 v3
    have e56 : cD 13 T (I1 (55 + 1)) = (T env).map Int32.ofInt := by
      unfold cD
      rw [show cW 13 (I1 (55 + 1)) = env from en1]
    rw [e56] at v3 ⊢
    have fr3 : ∀ a j, ¬ (55 ≤ a ∧ a ≤ 57) → I3 a j = I a j := fun a j q => (f3 a j (by omega) (by omega)).trans (f1' a j q)
    have en3 : cW 13 (I3 56) = env := by
      have : I3 (55 + 1) = I1 (55 + 1) := f3.w
      rw [show I3 56 = I1 56 from this]
      exact en1
    refine w_X1_runOnce_37 hG ?_
    cases hD : T env with
    | none =>
      rw [if_pos (show (if (Option.map Int32.ofInt (none : Option Int)).isSome = true then (1 : Int32) else 0) = 0 from rfl)]
      refine skip I3 fr3 ?_
      rw [hT]
      unfold sp_tb
      dsimp only
      rw [hD]
      decide
    | some v =>
      rw [hD] at v3
      have h01v := h01 env v hD
      have htb : sp_tb x.1.2.2 env = (v != 0) := by
        rw [hT]
        unfold sp_tb
        dsimp only
        rw [hD]
      rw [if_neg (show ¬ (if (Option.map Int32.ofInt (some v)).isSome = true then (1 : Int32) else 0) = 0 from fun w => absurd (show (1 : Int32) = 0 from w) (by decide)), show I3 55 3 = Int32.ofInt v from v3]
      simp only [ofI_1 h01v]
      by_cases hv : v = 1
      · rw [if_pos hv]
        exact sum I3 fr3 en3 (by rw [htb, hv]; rfl)
      · rw [if_neg hv]
        refine skip I3 fr3 ?_
        rw [htb]
        obtain rfl : v = 0 := by omega
        decide

theorem c_X4_copyFrom {ex : sm_O} {n : Nat} {y : sm_Y} {I : Nat → Nat → Int32} {L : Nat → Nat → Int64} {R : Nat → Nat → Option Nat} {Q : sm_Q} {d o o1 : Nat} {u : List (Nat × St)} (hd : 1 ≤ d) (ho : ok4 y R o) (ho1 : ok4 y R o1) (ha : o + 1 < o1 ∨ o1 + 1 < o) (hu : cU u o1 I) (h16 : u.length ≤ 16) (h7 : ∀ x ∈ u, sMen x.2 ≤ 7)
    (k : ∀ (I' : Nat → Nat → Int32), (∀ a j, ¬ (a = o ∧ j = 1) → a ≠ o + 1 → I' a j = I a j) → cU u o I' → Q none (n, y, I', L, R)) : sm_W ex d 0 0 22 0 [some (.ref o), some (.ref o1)] [] (n, y, I, L, R) Q := by
  refine w_X4_copyFrom_0 ho1 ho hd ?_
  rw [show (nI 192).toNatClampNeg = 192 from rfl, z0]
  refine ⟨by decide, by decide, ?_⟩
  generalize hI1 : sm_cp I (o1 + 1) 0 (o + 1) 0 192 = I1
  have f1 : ∀ a j, a ≠ o + 1 → I1 a j = I a j := fun a j q => by rw [← hI1]; exact sm_cp_or _ (by omega)
  have g1 : ∀ j, j < 192 → I1 (o + 1) j = I (o1 + 1) j := fun j hj => by
    rw [← hI1]
    refine (sm_cp_in _ _ _ (by omega) (by omega)).trans ?_
    rw [Nat.zero_add, Nat.sub_zero]
  refine k _ (fun a j q1 q2 => by rw [sm_st_or _ _ (by omega)]; exact f1 a j q2) ⟨?_, fun i x hx => ?_⟩
  · rw [sm_st_s, f1 o1 1 (by omega)]
    exact hu.1
  · have hi : i < u.length := (List.getElem?_eq_some_iff.mp hx).1
    have hx7 := h7 x (List.mem_of_getElem? hx)
    have e : ∀ j, j < 12 → sm_st I1 o 1 (I1 o1 1) (o + 1) (12 * i + j) = I (o1 + 1) (12 * i + j) := fun j hj => by
      rw [sm_st_o _ _ (by omega)]
      exact g1 _ (by omega)
    obtain ⟨u0, u1, u2, u3, u4, u5⟩ := hu.2 i x hx
    refine ⟨(e 0 (by decide)).trans u0, (e 1 (by decide)).trans u1, (e 2 (by decide)).trans u2, (e 3 (by decide)).trans u3, (e 4 (by decide)).trans u4, fun m hm => (e (5 + m) (by omega)).trans (u5 m hm)⟩
def cRu (I I' : Nat → Nat → Int32) : Prop := (∀ a j, ¬ (1 ≤ a ∧ a ≤ 5) → ¬ (51 ≤ a ∧ a ≤ 53) → ¬ (55 ≤ a ∧ a ≤ 66) → ¬ (a = 54 ∧ (j = 7 ∨ j = 8 ∨ j = 9)) → I' a j = I a j) ∧ ∀ j, 8 ≤ j → j ≤ 10 → I' 1 j = I 1 j
theorem j810 {P : Nat → Prop} (h8 : P 8) (h9 : P 9) (h10 : P 10) : ∀ j, 8 ≤ j → j ≤ 10 → P j := fun j h1 h2 => by
  have : j = 8 ∨ j = 9 ∨ j = 10 := by omega
  rcases this with rfl | rfl | rfl
  · exact h8
  · exact h9
  · exact h10
set_option maxHeartbeats 1000000 in
theorem c_X1_run {ex : sm_O} {n : Nat} {y : sm_Y} {I : Nat → Nat → Int32} {L : Nat → Nat → Int64} {R : Nat → Nat → Option Nat} {Q : sm_Q} {d : Nat} {w1 w2 : Option Value} {s : St} {u : List (Nat × St)} {F : Option (Nat × Law)} {l : List OC} (hd : 6 ≤ d) (hE : exOK ex) (hG : sm_G y R) (hs : cS s 1 I) (hu : cU u 65 I) (hws : wS s) (hwu : wU s u) (hF : cForce I F) (hl : cOrd I l)
    (k0 : ∀ c, or_all F l 0 (s, u, 0, none) = .inl c → ∀ I', cRu I I' → cS s 1 I' → cU u 65 I' → I' 54 9 = nI c → Q (some (.int (-3))) (n, y, I', L, R))
    (k1 : ∀ z, or_all F l 0 (s, u, 0, none) = .inr z → wZ s 240 z → ∀ I', cRu I I' → cS z.1 1 I' → cU z.2.1 65 I' → I' 54 9 = I 54 9 → Q (some (.int (nI z.2.2.1))) (n, y, I', L, R)) : sm_W ex d 0 0 7 0 [some (.ref 54), w1, w2] [] (n, y, I, L, R) Q := by
  have h7 := hws.1.1
  have hu7 : ∀ x ∈ u, sMen x.2 ≤ 7 := fun x hx => (hwu.2 x hx).2.1.1.1
  refine w_X1_run_0 (d1 := 5) hG (by omega) ?_
  refine c_X9_copyFrom (by omega) (mk58 hG).1 (mk1 hG).1 (by unfold cApt; omega) h7 hs ?_
  intro I1 f1 s1 p1
  refine w_X1_run_11 (d1 := 5) hG (by omega) ?_
  refine c_X4_copyFrom (by omega) (mk63 hG) (mk65 hG) (by omega) (cU_kept (fun a j q => f1 a j (by omega)) hu) hwu.1 hu7 ?_
  intro I2 f2 u2
  refine w_X1_run_22 hG ?_
  generalize hI3 : sm_st (sm_st I2 54 7 0) 54 8 (-1) = I3
  have f3 : ∀ a j, ¬ (a = 54 ∧ (j = 7 ∨ j = 8)) → I3 a j = I2 a j := fun a j q => by rw [← hI3, sm_st_or _ _ (by omega), sm_st_or _ _ (by omega)]
  have d3 : I3 54 7 = nI 0 := by rw [← hI3, sm_st_j _ _ (by decide), sm_st_s]; rfl
  have l8 : I3 54 8 = sp_up none := by rw [← hI3, sm_st_s]; rfl
  have fr3 : ∀ a j, ¬ (58 ≤ a ∧ a ≤ 64) → ¬ (a = 54 ∧ (j = 7 ∨ j = 8)) → I3 a j = I a j := fun a j q1 q2 => (f3 a j q2).trans ((f2 a j (by omega) (by omega)).trans (f1 a j (by omega)))
  have s58 : cS s 58 I3 := cS_kept2 (fun a j q => (f3 a j (by omega)).trans (f2 a j (by omega) (by omega))) s1
  have u63 : cU u 63 I3 := cU_kept (fun a j q => f3 a j (by omega)) u2
  have p58 : I3 58 8 = I 1 8 ∧ I3 58 9 = I 1 9 ∧ I3 58 10 = I 1 10 := ⟨(f3 58 8 (by omega)).trans ((f2 58 8 (by omega) (by omega)).trans p1.1), (f3 58 9 (by omega)).trans ((f2 58 9 (by omega) (by omega)).trans p1.2.1), (f3 58 10 (by omega)).trans ((f2 58 10 (by omega) (by omega)).trans p1.2.2)⟩
  have l3 : cOrd I3 l := cOrd_kept (fun a j q1 q2 => fr3 a j (by omega) (by omega)) hl
  have F3 : cForce I3 F := cForce_kept (fun a j q1 q2 => fr3 a j (by omega) (by omega)) hF
  -- what the frames say of the whole
  have ru : ∀ I4, cRf I3 I4 → cRu I I4 := fun I4 f4 => ⟨fun a j q1 q2 q3 q4 => (f4 a j q2 (by omega) (by omega) (by omega) (by omega) (by omega) (by omega) (by omega)).trans (fr3 a j (by omega) (by omega)), fun j q1 q2 => (f4 1 j (by omega) (by omega) (by omega) (by omega) (by omega) (by omega) (by omega) (by omega)).trans (fr3 1 j (by omega) (by omega))⟩
  have clauses : ∀ (q c : Nat) (z : ZZ) (I4 : Nat → Nat → Int32) (w2 : Option Value), c + q = l.length → cRf I3 I4 → cS z.1 1 I4 → cU z.2.1 65 I4 → I4 54 7 = nI z.2.2.1 → I4 54 8 = sp_up z.2.2.2 → wZ s (20 * c) z → or_all F l 0 (s, u, 0, none) = or_all F (l.drop c) c z → sm_W ex d 0 0 7 34 [some (.ref 54), some (.int (nI c)), w2] [] (n, y, I4, L, R) Q := by
    intro q
    induction q with
    | zero =>
      intro c z I4 w2 hc f4 s4 u4 e7 e8 hz hall
      obtain rfl : c = l.length := by omega
      have l4 : cOrd I4 l := cOrd_kept (fun a j q1 q2 => f4 a j (by omega) (by omega) (by omega) (by omega) (by omega) (by omega) (by omega) (by omega)) l3
      have hl12 := l4.2.1
      refine w_X1_run_34 hG ?_
      rw [l4.1, if_pos (Int32.le_refl _), e7]
      rw [List.drop_length] at hall
      refine k1 z hall ⟨hz.1, hz.2.1, hz.2.2.1, by have := hz.2.2.2.1; omega, hz.2.2.2.2⟩ I4 (ru I4 f4) s4 u4 ?_
      exact (f4 54 9 (by omega) (by omega) (by omega) (by omega) (by omega) (by omega) (by omega) (by omega)).trans (fr3 54 9 (by omega) (by omega))
    | succ q ih =>
      intro c z I4 w2 hc f4 s4 u4 e7 e8 hz hall
      have hcl : c < l.length := by omega
      have l4 : cOrd I4 l := cOrd_kept (fun a j q1 q2 => f4 a j (by omega) (by omega) (by omega) (by omega) (by omega) (by omega) (by omega) (by omega)) l3
      have hl12 := l4.2.1
      have hx : l[c]? = some l[c] := List.getElem?_eq_getElem hcl
      generalize hxx : l[c] = x at hx
      have hdrop : l.drop c = x :: l.drop (c + 1) := by rw [← hxx]; exact List.drop_eq_getElem_cons hcl
      rw [hdrop] at hall
      have hcn : (nI c).toNatClampNeg = c := nI_clamp (by omega)
      have times : ∀ (p t : Nat) (z : ZZ) (I5 : Nat → Nat → Int32), t + p = x.2 → cRf I3 I5 → cS z.1 1 I5 → cU z.2.1 65 I5 → I5 54 7 = nI z.2.2.1 → I5 54 8 = sp_up z.2.2.2 → wZ s (20 * c + t) z → or_all F l 0 (s, u, 0, none) = (match or_times F x.1 p z with
          | none => .inl c
          | some z' => or_all F (l.drop (c + 1)) (c + 1) z') → sm_W ex d 0 0 7 47 [some (.ref 54), some (.int (nI c)), some (.int (nI t))] [] (n, y, I5, L, R) Q := by
        intro p
        induction p with
        | zero =>
          intro t z I5 ht f5 s5 u5 e7 e8 hz hall
          have l5 : cOrd I5 l := cOrd_kept (fun a j q1 q2 => f5 a j (by omega) (by omega) (by omega) (by omega) (by omega) (by omega) (by omega) (by omega)) l3
          obtain ⟨m1, m2, cd, len, m3, m4⟩ := l5
          obtain ⟨_, _, _, _, _, c6, c7⟩ := m4 c x hx
          refine w_X1_run_47 (d1 := 5) hG (by omega) ?_
          rw [hcn, c6, if_pos (by rw [nI_leI (by omega) (by omega)]; omega), sm_n1]
          refine ⟨vp_in_nI (by omega) (by decide), ih (c + 1) z I5 _ (by omega) f5 s5 u5 e7 e8 ⟨hz.1, hz.2.1, hz.2.2.1, by have := hz.2.2.2.1; omega, hz.2.2.2.2⟩ hall⟩
        | succ p ihp =>
          intro t z I5 ht f5 s5 u5 e7 e8 hz hall
          have l5 : cOrd I5 l := cOrd_kept (fun a j q1 q2 => f5 a j (by omega) (by omega) (by omega) (by omega) (by omega) (by omega) (by omega) (by omega)) l3
          have l5' := l5
          obtain ⟨m1, m2, cd, len, m3, m4⟩ := l5
          obtain ⟨_, _, _, _, _, c6, c7⟩ := m4 c x hx
          refine w_X1_run_47 (d1 := 5) hG (by omega) ?_
          rw [hcn, c6, if_neg (by rw [nI_leI (by omega) (by omega)]; omega)]
          refine ⟨vp_in_nI (by omega) (by decide), ?_⟩
          refine c_X1_runOnce (Nat.le_refl 5) hE hG s5 u5 hz (by omega) (cForce_kept (fun a j q1 q2 => f5 a j (by omega) (by omega) (by omega) (by omega) (by omega) (by omega) (by omega) (by omega)) F3) l5' hx e7 e8 ?_ ?_
          · intro hone I6 f6
            have hall2 : or_all F l 0 (s, u, 0, none) = .inl c := by
              rw [hall]
              show (match (or_one F x.1 z).bind (or_times F x.1 p) with
                | none => Sum.inl c
                | some z' => or_all F (l.drop (c + 1)) (c + 1) z') = _
              rw [hone]
              rfl
            have f36 := f5.trans f6
            refine w_X1_run_65 (d1 := 5) hG (by omega) ?_
            rw [if_pos rfl]
            refine c_X9_copyFrom (by omega) (mk1 hG).1 (mk58 hG).1 (by unfold cApt; omega) h7 (cS_kept2 (fun a j q => f36 a j (by omega) (by omega) (by omega) (by omega) (by omega) (by omega) (by omega) (by omega)) s58) ?_
            intro I7 f7 s7 p7
            refine w_X1_run_79 (d1 := 5) hG (by omega) ?_
            refine c_X4_copyFrom (by omega) (mk65 hG) (mk63 hG) (by omega) (cU_kept (fun a j q => (f7 a j (by omega)).trans (f36 a j (by omega) (by omega) (by omega) (by omega) (by omega) (by omega) (by omega) (by omega))) u63) hwu.1 hu7 ?_
            intro I8 f8 u8
            refine w_X1_run_90 hG ?_
            have r6 := ru I6 f36
            have e58 : ∀ j, 8 ≤ j → I6 58 j = I3 58 j := fun j hj => f36 58 j (by omega) (by omega) (by omega) (by omega) (by omega) (by omega) (by omega) (by omega)
            refine k0 c hall2 _ ⟨fun a j q1 q2 q3 q4 => ?_, j810 ?_ ?_ ?_⟩ ?_ ?_ (sm_st_s _ _ _ _)
            · rw [sm_st_or _ _ (by omega)]
              exact (f8 a j (by omega) (by omega)).trans ((f7 a j (by omega)).trans (r6.1 a j q1 q2 q3 q4))
            · rw [sm_st_or _ _ (by omega)]
              exact (f8 1 8 (by omega) (by omega)).trans (p7.1.trans ((e58 8 (by omega)).trans p58.1))
            · rw [sm_st_or _ _ (by omega)]
              exact (f8 1 9 (by omega) (by omega)).trans (p7.2.1.trans ((e58 9 (by omega)).trans p58.2.1))
            · rw [sm_st_or _ _ (by omega)]
              exact (f8 1 10 (by omega) (by omega)).trans (p7.2.2.trans ((e58 10 (by omega)).trans p58.2.2))
            · exact cS_kept2 (fun a j q => by rw [sm_st_or _ _ (by omega)]; exact f8 a j (by omega) (by omega)) s7
            · exact cU_kept (fun a j q => by rw [sm_st_or _ _ (by omega)]) u8
          · intro z' hone I6 f6 s6 u6 e76 e86
            refine w_X1_run_65 (d1 := 5) hG (by omega) ?_
            rw [if_neg (show ¬ (1 : Int32) = 0 by decide), sm_n1 t]
            refine ihp (t + 1) z' I6 (by omega) (f5.trans f6) s6 u6 e76 e86 (or_one_w hz hone) ?_
            rw [hall]
            show (match (or_one F x.1 z).bind (or_times F x.1 p) with
                | none => Sum.inl c
                | some z' => or_all F (l.drop (c + 1)) (c + 1) z') = _
            rw [hone]
            rfl
      refine w_X1_run_34 hG ?_
      rw [l4.1, if_neg (by rw [nI_leI (by omega) (by omega)]; omega)]
      exact times x.2 0 z I4 (by omega) f4 s4 u4 e7 e8 hz hall
  exact clauses l.length 0 (s, u, 0, none) I3 _ (by omega) (cRf.rfl' I3) (cS_kept2 (fun a j q => fr3 a j (by omega) (by omega)) hs) (cU_kept (fun a j q => fr3 a j (by omega) (by omega)) hu) d3 l8 ⟨hws, hwu, ⟨rfl, rfl, rfl, fun _ _ => rfl⟩, Nat.zero_le _, fun r hr => by cases hr⟩ rfl

