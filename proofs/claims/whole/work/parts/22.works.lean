-- THE CLASS'S MACHINE AT A PROGRAM
theorem sm_st15 {s w : Nat} (hs : s < 16) (hw : w < 100000) : nI (s + 16 * w) &&& 15 = nI s := by
  rw [pk_andN (by omega) 4 (by decide)]
  congr 1
  omega
theorem sm_st4 {s w : Nat} (hs : s < 16) (hw : w < 100000) : nI (s + 16 * w) >>> ((4 : Int32) &&& 31) = nI w := by
  rw [pk_shrN (by omega) _ 4 (by decide)]
  congr 1
  omega
/-- the class's code from k on, on a pile (the top first): P of the top where it stops, or of none (it doesn't work) -/
def cEv (cd : Nat → Nat × Nat) (len : Nat) (w : Nat → Int32) : Nat → Nat → List Int32 → (Option Int32 → Prop) → Prop
  | 0, _, _, _ => False
  | f + 1, k, st, P => k < len ∧ (if (cd k).1 = 0 then (match st with
      | [] => False
      | a :: _ => P (some a))
    else if (cd k).1 = 1 then st.length < 40 ∧ cEv cd len w f (k + 1) (nI (cd k).2 :: st) P
    else if (cd k).1 = 2 then st.length < 40 ∧ (cd k).2 < 13 ∧ cEv cd len w f (k + 1) (w (cd k).2 :: st) P
    else if (cd k).1 = 11 then (match st with
      | [] => False
      | a :: t => cEv cd len w f (k + 1) ((1 - a) :: t) P)
    else if (cd k).1 = 12 ∨ (cd k).1 = 13 then (match st with
      | [] => False
      | a :: t => if a = (if (cd k).1 = 12 then 1 else 0) then cEv cd len w f (k + (cd k).2 + 1) (a :: t) P else cEv cd len w f (k + 1) t P)
    else (match st with
      | b :: a :: t => (match sp_rk (nI (cd k).1 + 17) a.toInt64 b.toInt64 with
        | some v => cEv cd len w f (k + 1) (v.toInt32 :: t) P
        | none => P none)
      | _ => False))
def stC (g : Nat → Int32) : List Int32 → Prop
  | [] => True
  | a :: t => g t.length = a ∧ stC g t
theorem stC_kept {g g' : Nat → Int32} : ∀ (t : List Int32), (∀ i, i < t.length → g' i = g i) → stC g t → stC g' t
  | [], _, _ => trivial
  | a :: t, h, hs => ⟨by rw [h _ (by simp)]; exact hs.1, stC_kept t (fun i hi => h i (by simp; omega)) hs.2⟩
/-- the steps of a Program of the class -/
def cPr (I : Nat → Nat → Int32) (p : Nat) (cd : Nat → Nat × Nat) (len : Nat) : Prop := I p 6 = nI len ∧ len ≤ 200 ∧ ∀ k, k < len → I (p + 1) k = nI ((cd k).1 + 16 * (cd k).2) ∧ (cd k).1 < 14 ∧ (cd k).2 < 100000
/-- what the machine at o touches in a sum -/
def cFr (o : Nat) (I I' : Nat → Nat → Int32) : Prop := ∀ a j, ¬ (a = o ∧ (j = 2 ∨ j = 3)) → a ≠ o + 2 → I' a j = I a j
theorem cFr.rfl' (o : Nat) (I : Nat → Nat → Int32) : cFr o I I := fun _ _ _ _ => rfl
theorem cFr.trans {o : Nat} {I I' I2 : Nat → Nat → Int32} (h1 : cFr o I I') (h2 : cFr o I' I2) : cFr o I I2 := fun a j h g => (h2 a j h g).trans (h1 a j h g)
theorem cFr.s (o : Nat) (I : Nat → Nat → Int32) (i : Nat) (v : Int32) : cFr o I (sm_st I (o + 2) i v) := fun _ _ _ h => sm_st_o _ _ h
theorem cFr.t (o : Nat) (I : Nat → Nat → Int32) {i : Nat} (hi : i = 2 ∨ i = 3) (v : Int32) : cFr o I (sm_st I o i v) := fun a j h _ => by
  by_cases ha : a = o
  · exact sm_st_j _ _ (fun hj => h ⟨ha, hj ▸ hi⟩)
  · exact sm_st_o _ _ ha
def cApart (o p : Nat) : Prop := p + 1 < o ∨ o + 2 < p
theorem cFr.p {o p : Nat} {I I' : Nat → Nat → Int32} (h : cFr o I I') (hp : cApart o p) {cd : Nat → Nat × Nat} {len : Nat} (hc : cPr I p cd len) : cPr I' p cd len := by
  unfold cApart at hp
  refine ⟨?_, hc.2.1, fun k hk => ?_⟩
  · rw [h p 6 (by omega) (by omega)]
    exact hc.1
  · rw [h (p + 1) k (by omega) (by omega)]
    exact hc.2.2 k hk
theorem cFr.w {o : Nat} {I I' : Nat → Nat → Int32} (h : cFr o I I') : I' (o + 1) = I (o + 1) := by
  funext j
  exact h (o + 1) j (by omega) (by omega)
theorem sp_rk32 {op : Int32} {a b v : Int64} (h : sp_rk op a b = some v) : v.toInt32.toInt64 = v := by
  unfold sp_rk at h
  split at h
  · cases h
  · split at h
    · rename_i q
      cases h
      obtain ⟨q1, q2⟩ := q
      rw [Int64.le_iff_toInt_le] at q1 q2
      have z1 : (-1000000000 : Int64).toInt = -1000000000 := rfl
      have z2 : (1000000000 : Int64).toInt = 1000000000 := rfl
      apply Int64.toInt_inj.mp
      rw [Int32.toInt_toInt64, Int64.toInt_toInt32]
      apply Int.bmod_eq_of_le <;> omega
    · cases h
set_option maxHeartbeats 2000000 in
theorem lp_works {ex : sm_O} {d n o p ns nc len : Nat} {y : sm_Y} {L : Nat → Nat → Int64} {R : Nat → Nat → Option Nat} {Q : sm_Q} {cd : Nat → Nat × Nat} {w : Nat → Int32} {P : Option Int32 → Prop} {a2 : Int32} (hd : 1 ≤ d) (ho : ok2 y R o) (hp : ok6 y R p ns nc) (hns : ns = 200) (ha : cApart o p) :
    ∀ (f k : Nat) (st : List Int32) (I : Nat → Nat → Int32) (w4 w5 : Option Value), cPr I p cd len → I (o + 1) = w → I o 2 = nI st.length → st.length ≤ 40 → stC (I (o + 2)) st → cEv cd len w f k st P →
    (∀ (r : Option Int32) (I' : Nat → Nat → Int32), P r → cFr o I I' → (match r with
      | some v => I' o 3 = v
      | none => True) → Q (some (.int (if r.isSome = true then 1 else 0))) (n, y, I', L, R)) →
    sm_W ex d 0 0 11 11 [some (.ref o), some (.ref p), some (.int a2), some (.int (nI k)), w4, w5] [] (n, y, I, L, R) Q := by
  intro f
  induction f with
  | zero => intro k st I w4 w5 _ _ _ _ _ h; exact h.elim
  | succ f ih =>
    intro k st I w4 w5 hpr hw htop hlen hst h kk
    unfold cEv at h
    obtain ⟨hk, h⟩ := h
    obtain ⟨hs, h14, hwi⟩ := hpr.2.2 k hk
    have hl200 := hpr.2.1
    refine w_X2_works_11 hp ?_
    rw [hpr.1, if_neg (by rw [nI_leI (by omega) (by omega)]; omega), nI_clamp (by omega), hs, sm_st15 (by omega) hwi, sm_st4 (by omega) hwi]
    refine ⟨vp_in_nI (by omega) (by omega), ?_⟩
    generalize hop : (cd k).1 = op at h hs h14
    generalize hwith : (cd k).2 = wi at h hs hwi
    have e0 : ∀ c : Nat, c < 100 → (nI op = nI c ↔ op = c) := fun c hc => nI_eq (by omega) (by omega)
    have q0 : nI op = (0 : Int32) ↔ op = 0 := e0 0 (by omega)
    have q1 : nI op = (1 : Int32) ↔ op = 1 := e0 1 (by omega)
    have q2 : nI op = (2 : Int32) ↔ op = 2 := e0 2 (by omega)
    have q11 : nI op = (11 : Int32) ↔ op = 11 := e0 11 (by omega)
    have q12 : nI op = (12 : Int32) ↔ op = 12 := e0 12 (by omega)
    have q13 : nI op = (13 : Int32) ↔ op = 13 := e0 13 (by omega)
    refine w_X2_works_40 (d1 := 0) ho (by omega) ?_
    simp only [q0, q1, q2, q11, q12, q13]
    -- one more step
    have more : ∀ (k' : Nat) (st' : List Int32) (I' : Nat → Nat → Int32) (v4 v5 : Option Value), cFr o I I' → I' o 2 = nI st'.length → st'.length ≤ 40 → stC (I' (o + 2)) st' → cEv cd len w f k' st' P → sm_W ex d 0 0 11 11 [some (.ref o), some (.ref p), some (.int a2), some (.int (nI k')), v4, v5] [] (n, y, I', L, R) Q := by
      intro k' st' I' v4 v5 hf ht' hl' hst' h'
      refine ih k' st' I' v4 v5 (hf.p ha hpr) (by rw [hf.w, hw]) ht' hl' hst' h' ?_
      intro r I2 hP hf2 hr
      exact kk r I2 hP (hf.trans hf2) hr
    have fail : P none → Q (some (.int 0)) (n, y, I, L, R) := fun hP => kk none I hP (cFr.rfl' o I) trivial
    -- pushing a number
    have push : ∀ v : Int32, st.length < 40 → cEv cd len w f (k + 1) (v :: st) P → ∀ v4 v5 : Option Value, sm_W ex d 0 0 11 11 [some (.ref o), some (.ref p), some (.int a2), some (.int (nI k + 1)), v4, v5] [] (n, y, sm_st (sm_st I (o + 2) st.length v) o 2 ((sm_st I (o + 2) st.length v) o 2 + 1), L, R) Q := by
      intro v h40 h' v4 v5
      rw [sm_n1]
      refine more (k + 1) (v :: st) _ v4 v5 ((cFr.s o I _ _).trans (cFr.t o _ (Or.inl rfl) _)) ?_ (by simp; omega) ?_ h'
      · rw [sm_st_s, sm_st_o _ _ (by omega), htop, sm_n1]
        rfl
      · refine ⟨?_, stC_kept st (fun i hi => ?_) hst⟩
        · rw [sm_st_o _ _ (by omega), sm_st_s]
        · rw [sm_st_o _ _ (by omega), sm_st_j _ _ (by omega)]
    by_cases c0 : op = 0
    · rw [if_pos c0] at h ⊢
      match st, h, htop, hst, hlen with
      | a :: t, h, htop, hst, hlen =>
        simp only [List.length_cons] at htop hlen
        refine w_X2_works_245 ho ?_
        rw [htop, if_neg (nI_nle (by omega) (by omega)), nI_pred, nI_clamp (by omega)]
        refine ⟨vp_in_nI (by omega) (by decide), ?_⟩
        rw [sm_st_j _ _ (by decide), htop, if_neg (nI_nle (by omega) (by omega)), hst.1]
        exact kk (some a) _ h (cFr.t o I (Or.inr rfl) _) (sm_st_s _ _ _ _)
    rw [if_neg c0] at h ⊢
    by_cases c1 : op = 1
    · rw [if_pos c1] at h ⊢
      obtain ⟨h40, h⟩ := h
      rw [htop, if_neg (by rw [sm_of 40, nI_leI (by omega) (by omega)]; omega), if_neg (by omega), nI_clamp (by omega)]
      exact ⟨vp_in_nI h40 (by decide), push _ h40 h _ _⟩
    rw [if_neg c1] at h ⊢
    by_cases c2 : op = 2
    · rw [if_pos c2] at h ⊢
      obtain ⟨h40, h13, h⟩ := h
      rw [htop, if_neg (by rw [sm_of 40, nI_leI (by omega) (by omega)]; omega), if_pos (by rw [sm_of 13, nI_ltI (by omega) (by omega)]; exact h13), nI_clamp (by omega), nI_clamp (by omega)]
      rw [← hw] at h
      exact ⟨vp_in_nI h13 (by decide), vp_in_nI h40 (by decide), push _ h40 (hw ▸ h) _ _⟩
    rw [if_neg c2] at h ⊢
    match st, h, htop, hst, hlen with
    | [], h, htop, hst, hlen =>
      exfalso
      split at h
      · exact h
      · split at h <;> exact h
    | a :: t, h, htop, hst, hlen =>
      simp only [List.length_cons] at htop hlen
      rw [htop, if_neg (nI_ne0 (by omega) (by omega))]
      have i1 : nI (t.length + 1) - 1 = nI t.length := nI_pred _
      rw [i1]
      have hin : vp_in (nI t.length) 40 := vp_in_nI (by omega) (by decide)
      have hct : (nI t.length).toNatClampNeg = t.length := nI_clamp (by omega)
      rw [hct]
      by_cases c11 : op = 11
      · rw [if_pos c11] at h ⊢
        rw [hst.1, sm_n1]
        refine ⟨hin, ?_⟩
        refine more (k + 1) ((1 - a) :: t) _ _ _ (cFr.s o I _ _) ?_ (by simp; omega) ⟨sm_st_s _ _ _ _, stC_kept t (fun i hi => sm_st_j _ _ (by omega)) hst.2⟩ h
        rw [sm_st_o _ _ (by omega), htop]
        rfl
      rw [if_neg c11] at h ⊢
      have jump : ∀ c : Int32, (if a = c then cEv cd len w f (k + wi + 1) (a :: t) P else cEv cd len w f (k + 1) t P) → vp_in (nI t.length) 40 ∧ (if I (o + 2) t.length = c then sm_W ex d 0 0 11 11 [some (.ref o), some (.ref p), some (.int a2), some (.int (nI k + nI wi + 1)), some (.int (nI op)), some (.int (nI wi))] [] (n, y, I, L, R) Q else sm_W ex d 0 0 11 11 [some (.ref o), some (.ref p), some (.int a2), some (.int (nI k + 1)), some (.int (nI op)), some (.int (nI wi))] [] (n, y, sm_st I o 2 (nI t.length), L, R) Q) := by
        intro c hc
        refine ⟨hin, ?_⟩
        rw [hst.1]
        split
        · rename_i q
          rw [if_pos q] at hc
          rw [nI_add, sm_n1]
          exact more (k + wi + 1) (a :: t) I _ _ (cFr.rfl' o I) htop hlen hst hc
        · rename_i q
          rw [if_neg q] at hc
          rw [sm_n1]
          refine more (k + 1) t _ _ _ (cFr.t o I (Or.inl rfl) _) (sm_st_s _ _ _ _) (by omega) (stC_kept t (fun i hi => sm_st_o _ _ (by omega)) hst.2) hc
      by_cases c12 : op = 12
      · rw [if_pos c12]
        rw [if_pos (Or.inl c12)] at h
        dsimp only at h
        rw [if_pos c12] at h
        exact jump 1 h
      rw [if_neg c12]
      by_cases c13 : op = 13
      · rw [if_pos c13]
        rw [if_pos (Or.inr c13)] at h
        dsimp only at h
        rw [if_neg c12] at h
        exact jump 0 h
      rw [if_neg c13]
      rw [if_neg (by omega)] at h
      match t, h, htop, hst, hlen with
      | [], h, _, _, _ => exact h.elim
      | b :: t, h, htop, hst, hlen =>
        dsimp only at h
        simp only [List.length_cons] at htop hlen
        have ea : I (o + 2) (t.length + 1) = a := hst.1
        have eb : I (o + 2) t.length = b := hst.2.1
        refine c_X2_join (t := t.length) ho htop (by omega) (fun v hv => ?_) (fun hv => ?_)
        · rw [ea, eb] at hv
          rw [hv] at h
          dsimp only at h
          refine w_X2_works_234 ?_
          rw [if_neg (by decide), sm_n1]
          refine more (k + 1) (v.toInt32 :: t) _ _ _ ((cFr.t o I (Or.inl rfl) _).trans (cFr.s o _ _ _)) ?_ (by simp; omega) ⟨sm_st_s _ _ _ _, stC_kept t (fun i hi => ?_) hst.2.2⟩ h
          · rw [sm_st_o _ _ (by omega), sm_st_s]
            rfl
          · rw [sm_st_j _ _ (by omega), sm_st_o _ _ (by omega)]
        · rw [ea, eb] at hv
          rw [hv] at h
          dsimp only at h
          refine w_X2_works_234 ?_
          rw [if_pos rfl]
          exact fail h

/-- the code from a to b pushes what D tells, or doesn't work; it wants hh cells of the pile -/
def cSeg (cd : Nat → Nat × Nat) (a b hh : Nat) (D : (Nat → Int32) → Option Int32) : Prop := a ≤ b ∧ ∀ (w : Nat → Int32) (len : Nat) (st : List Int32) (P : Option Int32 → Prop) (f : Nat), b < len → st.length + hh ≤ 40 → (match D w with
  | some v => cEv cd len w f b (v :: st) P
  | none => P none) → ∃ f', cEv cd len w f' a st P
theorem c_X2_works {ex : sm_O} {n : Nat} {y : sm_Y} {I : Nat → Nat → Int32} {L : Nat → Nat → Int64} {R : Nat → Nat → Option Nat} {Q : sm_Q} {d o p a b hh len ns nc : Nat} {w3 w4 w5 : Option Value} {cd : Nat → Nat × Nat} {D : (Nat → Int32) → Option Int32} (hd : 1 ≤ d) (ho : ok2 y R o) (hp : ok6 y R p ns nc) (hns : ns = 200) (ha : cApart o p) (hpr : cPr I p cd len) (hs : cSeg cd a b hh D) (hh40 : hh ≤ 40) (hb : b < len) (hb0 : (cd b).1 = 0)
    (k : ∀ (I' : Nat → Nat → Int32), cFr o I I' → (match D (I (o + 1)) with
      | some v => I' o 3 = v
      | none => True) → Q (some (.int (if (D (I (o + 1))).isSome = true then 1 else 0))) (n, y, I', L, R)) : sm_W ex d 0 0 11 0 [some (.ref o), some (.ref p), some (.int (nI a)), w3, w4, w5] [] (n, y, I, L, R) Q := by
  have hl200 := hpr.2.1
  refine w_X2_works_0 ho hd ?_
  rw [if_neg (nI_pos (by have := hs.1; omega))]
  obtain ⟨f, hf⟩ := hs.2 (I (o + 1)) len [] (fun r => r = D (I (o + 1))) 1 hb (by simpa using hh40) (by
    cases hD : D (I (o + 1)) with
    | none => rfl
    | some v =>
      show cEv _ _ _ 1 _ _ _
      unfold cEv
      rw [if_pos hb0]
      exact ⟨hb, rfl⟩)
  have hf0 : cFr o I (sm_st I o 2 0) := cFr.t o I (Or.inl rfl) _
  refine lp_works (cd := cd) (w := I (o + 1)) hd ho hp hns ha f a [] _ _ _ (hf0.p ha hpr) hf0.w (sm_st_s _ _ _ _) (by simp) trivial hf ?_
  intro r I' hr hf1 hv
  subst hr
  exact k I' (hf0.trans hf1) hv

