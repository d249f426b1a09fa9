-- CHAINS: both
theorem CI_me {g : GG} {n : Nat} {y : sm_Y} {I I' : Nat → Nat → Int32} {R : Nat → Nat → Option Nat} (hw : Wf g) (hc : CI g n y I R) (h : meFr I I') (hca : cCa (bF (gB g)) (gS g) I') : CI g n y I' R :=
  ⟨hc.1, hc.2.1, cS_kept2 (fun a j q => h a j (by omega) (by omega) (by omega) (by omega)) hc.2.2.1, cP_kept (fun a j q => h a j (by omega) (by omega) (by omega) (by omega)) hc.2.2.2.1, cB_kept hw.1.2.2.1 (fun a j q => h a j (by omega) (by omega) (by omega) (by omega)) hc.2.2.2.2.1, cU_kept (fun a j q => h a j (by omega) (by omega) (by omega) (by omega)) hc.2.2.2.2.2.1, cT_kept (fun a j q => h a j (by omega) (by omega) (by omega) (by omega)) hc.2.2.2.2.2.2.1, cN_kept (fun a j q => h a j (by omega) (by omega) (by omega) (by omega)) hc.2.2.2.2.2.2.2.1, cDr_kept (fun a j q => h a j (by omega) (by omega) (by omega) (by omega)) hc.2.2.2.2.2.2.2.2.1, cIm_kept hw.2.2.2.1 (fun a j q => h a j (by omega) (by omega) (by omega) (by omega)) hc.2.2.2.2.2.2.2.2.2.1, hca⟩
theorem dL_full {lk : Nat → Nat → Bool} {men to o : Nat} : dL men (chD lk men to o) = chD lk men to o := by
  cases hd : chD lk men to o with
  | none => rfl
  | some x =>
    unfold dL
    dsimp only
    rw [if_pos (chD_iff.mp hd).1]
theorem c_X3_along {ex : sm_O} {n : Nat} {y : sm_Y} {I : Nat → Nat → Int32} {L : Nat → Nat → Int64} {R : Nat → Nat → Option Nat} {Q : sm_Q} {d to c a l : Nat} {w4 w5 : Option Value} {s : St} {F : Option (Nat × Law)} (hd : 2 ≤ d) (hG : sm_G y R) (hs : cS s 1 I) (hok : sp_ok s) (hey : eyOk F s I) (hto : to < sMen s) (ha : a < sMen s) (hl : chD (chL F s) (sMen s) to a = some l) (hc : c < l) (h106 : ∀ o, o < sMen s → I 106 o = sp_up (chD (chL F s) (sMen s) to o))
    (k : Q (some (.int (nI (chW (chL F s) (sMen s) to (c + 1) a)))) (n, y, I, L, R)) : sm_W ex d 0 0 19 0 [some (.ref 102), some (.ref 1), some (.int (nI a)), some (.int (nI c)), w4, w5] [] (n, y, I, L, R) Q := by
  have h7 := hok.1
  have hl7 := (chD_iff.mp hl).1
  have go : ∀ (q i m : Nat), i + q = c + 1 → m < sMen s → chD (chL F s) (sMen s) to m = some (l - i) → chW (chL F s) (sMen s) to (c + 1) a = chW (chL F s) (sMen s) to q m → sm_W ex d 0 0 19 6 [some (.ref 102), some (.ref 1), some (.int (nI a)), some (.int (nI c)), some (.int (nI m)), some (.int (nI i))] [] (n, y, I, L, R) Q := by
    intro q
    induction q with
    | zero =>
      intro i m hi hm hdm he
      obtain rfl : i = c + 1 := by omega
      refine w_X3_along_6 (d1 := 1) hG (mk1 hG).1 (by omega) (by omega) ?_
      rw [if_pos (by rw [nI_ltI (by omega) (by omega)]; omega)]
      rw [he] at k
      exact k
    | succ q ih =>
      intro i m hi hm hdm he
      refine w_X3_along_6 (d1 := 1) hG (mk1 hG).1 (by omega) (by omega) ?_
      obtain ⟨x, hx⟩ : ∃ x, l - i = x + 1 := ⟨l - i - 1, by omega⟩
      rw [hx] at hdm
      rw [if_neg (by rw [nI_ltI (by omega) (by omega)]; omega), if_neg (by rw [sm_of 0, nI_ltI (by omega) (by omega)]; omega), hs.1, if_neg (by rw [nI_leI (by omega) (by omega)]; omega), nI_clamp (by omega), h106 m hm, hdm]
      refine ⟨vp_in_nI (by omega) (by decide), ?_⟩
      show sm_W ex 1 0 0 18 0 [some (.ref 102), some (.ref 1), some (.int (nI m)), some (.int (nI (x + 1) - 1)), none] [] (n, y, I, L, R) _
      rw [nI_pred]
      have hsp := chN_spec hto hdm
      refine c_X3_nextTo (len := sMen s) hG hs hok hey hto hm (by omega) h7 ?_ ?_ ?_ ?_
      · rw [dL_full, hdm]
        intro z
        have := Option.some.inj z
        omega
      · intro o ho
        rw [dL_full]
        exact h106 o ho
      · intro o ho h1 h2 h3
        have ho2 : o = chN (chL F s) (sMen s) to m x := by
          rcases Nat.lt_trichotomy o (chN (chL F s) (sMen s) to m x) with q | q | q
          · exact absurd ⟨h1, h2⟩ (hsp.2.2.2 o q)
          · exact q
          · exact absurd ⟨hsp.2.1, hsp.2.2.1⟩ (h3 _ q)
        subst ho2
        refine w_X3_along_37 ?_
        rw [sm_n1]
        exact ih (i + 1) _ (by omega) ho (by rw [h1]; congr 1; omega) (by rw [he, chW_s hdm])
      · intro h1
        exact absurd ⟨hsp.2.1, hsp.2.2.1⟩ (h1 _ hsp.1)
  refine w_X3_along_0 ?_
  exact go (c + 1) 0 a (by omega) ha hl rfl
theorem C_chain {ex : sm_O} {d : Nat} {w4 : Option Value} {g : GG} {a b c : Int32} (hd : 5 ≤ d) (hw : Wf g) : CM ex d 98 [some (.ref 0), some (.int a), some (.int b), some (.int c), w4] g (f_chain g a b c) g := by
  intro n y I L R Q hc k
  have hs := hc.2.2.1
  have hG := hc.2.1
  have hok : sp_ok (gS g) := hw.1.1.1
  have h7 := hok.1
  unfold f_chain at k
  have k0 := k I L hc (cKeep.rfl' I L)
  refine w_X10_chain_0 (d1 := 4) hG (by omega) (by omega) ?_
  rw [hs.1]
  by_cases q1 : a < 0
  · rw [if_pos q1]
    rw [if_neg (fun z => absurd q1 (Int32.not_lt.mpr z.1.1))] at k0
    exact k0
  rw [if_neg q1]
  by_cases q2 : nI (sMen (gS g)) ≤ a
  · rw [if_pos q2]
    rw [if_neg (fun z => absurd z.1.2 (Int32.not_lt.mpr q2))] at k0
    exact k0
  rw [if_neg q2]
  by_cases q3 : b < 0
  · rw [if_pos q3]
    rw [if_neg (fun z => absurd q3 (Int32.not_lt.mpr z.2.1.1))] at k0
    exact k0
  rw [if_neg q3]
  by_cases q4 : nI (sMen (gS g)) ≤ b
  · rw [if_pos q4]
    rw [if_neg (fun z => absurd z.2.1.2 (Int32.not_lt.mpr q4))] at k0
    exact k0
  rw [if_neg q4]
  by_cases q5 : -1 ≤ c
  · rw [if_pos q5]
    rw [if_pos ⟨⟨Int32.not_lt.mp q1, Int32.not_le.mp q2⟩, ⟨Int32.not_lt.mp q3, Int32.not_le.mp q4⟩, q5⟩] at k
    obtain ⟨x, hx, rfl⟩ := nI_of q1
    obtain ⟨to, hto, rfl⟩ := nI_of q3
    have hxm := (nI_ltI hx (by omega)).mp (Int32.not_le.mp q2)
    have htm := (nI_ltI hto (by omega)).mp (Int32.not_le.mp q4)
    rw [nI_clamp hx, nI_clamp hto] at k
    refine c_X3_measure (Nat.le_refl 4) hG hs hok (hc.F hw) hc.2.2.2.2.2.2.2.2.2.2 htm ?_
    intro I1 f1 ca1 ey1 h106
    have hc1 := CI_me hw hc f1 ca1
    have k1 := k I1 L hc1 (cKeep_c (fun a j q => f1 a j (by omega) (by omega) (by omega) (by omega)))
    refine w_X10_chain_41 (d1 := 4) hG (by omega) ?_
    rw [nI_clamp hx, h106 x hxm]
    refine ⟨vp_in_nI (by omega) (by decide), ?_⟩
    cases hd : chD (chL (bF (gB g)) (gS g)) (sMen (gS g)) to x with
    | none =>
      rw [hd] at k1
      dsimp only at k1
      show if c = -1 then Q (some (.int (-1))) _ else if (-1 : Int32) ≤ c then _ else _
      rw [if_pos q5]
      split <;> exact k1
    | some l =>
      rw [hd] at k1
      dsimp only at k1
      have hl := (chD_iff.mp hd).1
      show if c = -1 then Q (some (.int (nI l))) _ else if nI l ≤ c then _ else _
      rcases m1_cases q5 with e | e
      · rw [if_pos e] at k1 ⊢
        exact k1
      · have hne : ¬ c = -1 := fun z => by rw [z] at e; exact absurd e (by decide)
        rw [if_neg hne] at k1 ⊢
        by_cases q6 : c < nI l
        · rw [if_pos q6] at k1
          rw [if_neg (Int32.not_le.mpr q6)]
          obtain ⟨i, hi, rfl⟩ := nI_of (Int32.not_lt.mpr e)
          have hil := (nI_ltI hi (by omega)).mp q6
          rw [nI_clamp hi] at k1
          refine c_X3_along (by omega) hG hc1.2.2.1 hok ey1 htm hxm hd hil h106 ?_
          exact w_X10_chain_79 k1
        · rw [if_neg q6] at k1
          rw [if_pos (Int32.not_lt.mp q6)]
          exact k1
  · rw [if_neg q5]
    rw [if_neg (fun z => q5 z.2.2)] at k0
    exact k0
-- the model
theorem c_X11_links {ex : sm_O} {n : Nat} {y : sm_Y} {I : Nat → Nat → Int32} {L : Nat → Nat → Int64} {R : Nat → Nat → Option Nat} {Q : sm_Q} {d m o : Nat} {s : St} {F : Option (Nat × Law)} (hG : sm_G y R) (hs : mS s (I 125)) (hok : sp_ok s) (hno : noOk F s I) (hm : m < sMen s) (ho : o < sMen s) (k : Q (some (.int (if chL F s m o = true then 1 else 0))) (n, y, I, L, R)) : sm_W ex d 0 0 214 0 [some (.ref 123), some (.int (nI o)), some (.int (nI m))] [] (n, y, I, L, R) Q := by
  have h7 := hok.1
  have ht3 : sTerm s 3 ≤ 99 := hok.2.2.2.2.2.2.2
  refine w_X11_links_0 hG ?_
  have fe : nI o = nI m ↔ o = m := nI_eq (by omega) (by omega)
  have hle := sp_ey_le F s m o
  have ht : I 125 7 = nI (sTerm s 3) := hs.2.2.2.2 3 (by decide)
  simp only [fe]
  unfold chL at k
  by_cases e : o = m
  · rw [if_pos e]
    rw [decide_eq_false (show ¬ (m ≠ o) from fun z => z e.symm), Bool.false_and, if_neg (show ¬ (false = true) by decide)] at k
    exact k
  · rw [if_neg e]
    rw [decide_eq_true (show m ≠ o from fun z => e z.symm), Bool.true_and] at k
    have e7 : 7 * nI o + nI m = nI (7 * o + m) := by rw [show (7 : Int32) = nI 7 from rfl, pk_mul, nI_add]
    rw [e7, nI_clamp (by omega), hno o m ho hm, ht]
    refine ⟨vp_in_nI (by omega) (by decide), ?_⟩
    by_cases hc : sp_ey F s m o ≤ sTerm s 3
    · rw [decide_eq_true hc, if_pos rfl] at k
      rw [if_neg (by rw [nI_ltI (by omega) (by omega)]; omega)]
      exact k
    · rw [decide_eq_false hc, if_neg (show ¬ (false = true) by decide)] at k
      rw [if_pos (by rw [nI_ltI (by omega) (by omega)]; omega)]
      exact k
def awI (lk : Nat → Nat → Bool) (men to : Nat) (A : Nat → Nat) (I : Nat → Nat → Int32) : Prop := ∀ m, m < men → I 151 m = nI (A m) ∧ A m ≤ 100000000 ∧ (A m < 100000000 → chS lk men to (A m) m = true)
def awC (lk : Nat → Nat → Bool) (men to : Nat) (b : Nat → Nat) (A : Nat → Nat) : Prop := ∀ m, m < men → ∀ k, chD lk men to m = some k → k ≤ b m → A m ≤ k
def awV (o : Option Nat) : Nat := match o with
  | none => 100000000
  | some k => k
def awF (I I' : Nat → Nat → Int32) (L L' : Nat → Nat → Int64) : Prop := (∀ a j, ¬ (a = 123 ∧ (j = 38 ∨ j = 34)) → a ≠ 149 → a ≠ 151 → I' a j = I a j) ∧ ∀ a j, a ≠ 143 → a ≠ 141 → ¬ (a = 123 ∧ (j = 39 ∨ j = 40)) → L' a j = L a j
set_option maxHeartbeats 1000000 in
theorem c_X11_layAway {ex : sm_O} {n : Nat} {y : sm_Y} {I : Nat → Nat → Int32} {L : Nat → Nat → Int64} {R : Nat → Nat → Option Nat} {Q : sm_Q} {d to : Nat} {w2 w3 w4 : Option Value} {s : St} {F : Option (Nat × Law)} (hd : 7 ≤ d) (hG : sm_G y R) (hs0 : mS s (I 125)) (hok : sp_ok s) (h20 : I 123 20 = 0) (hF : mForce I F) (hto : to < sMen s)
    (k : ∀ (I' : Nat → Nat → Int32) (L' : Nat → Nat → Int64), awF I I' L L' → noOk F s I' → (∀ m, m < sMen s → I' 151 m = nI (awV (chD (chL F s) (sMen s) to m))) → Q none (n, y, I', L', R)) : sm_W ex d 0 0 215 0 [some (.ref 123), some (.int (nI to)), w2, w3, w4] [] (n, y, I, L, R) Q := by
  have h7 := hok.1
  refine w_X11_layAway_0 (d1 := 6) hG (by omega) ?_
  refine c_X11_layNotice (Nat.le_refl 6) hG hs0 hok h20 hF ?_
  intro I1 L1 f1 no1
  have hs1 : mS s (I1 125) := by
    have : I1 125 = I 125 := funext (fun j => f1.1 125 j (by omega) (by omega))
    rw [this]; exact hs0
  have keepS : ∀ I2 : Nat → Nat → Int32, (∀ a j, a ≠ 151 → I2 a j = I1 a j) → mS s (I2 125) := fun I2 f2 => by
    have : I2 125 = I1 125 := funext (fun j => f2 125 j (by omega))
    rw [this]; exact hs1
  have keepN : ∀ I2 : Nat → Nat → Int32, (∀ a j, a ≠ 151 → I2 a j = I1 a j) → noOk F s I2 := fun I2 f2 a b ha hb => (f2 149 _ (by decide)).trans (no1 a b ha hb)
  refine w_X11_layAway_4 ?_
  -- the passes
  have pass : ∀ (q t : Nat) (A : Nat → Nat) (I2 : Nat → Nat → Int32) (w3 w4 : Option Value), t + q = sMen s → (∀ a j, a ≠ 151 → I2 a j = I1 a j) → awI (chL F s) (sMen s) to A I2 → awC (chL F s) (sMen s) to (fun _ => t) A → sm_W ex d 0 0 215 42 [some (.ref 123), some (.int (nI to)), some (.int (nI t)), w3, w4] [] (n, y, I2, L1, R) Q := by
    intro q
    induction q with
    | zero =>
      intro t A I2 w3 w4 ht f2 hA hC
      obtain rfl : t = sMen s := by omega
      refine w_X11_layAway_42 hG ?_
      rw [(keepS I2 f2).1, if_pos (Int32.le_refl _)]
      refine k I2 L1 ⟨fun a j q1 q2 q3 => (f2 a j q3).trans (f1.1 a j q1 q2), f1.2⟩ (keepN I2 f2) (fun m hm => ?_)
      obtain ⟨h1, h2, h3⟩ := hA m hm
      rw [h1]
      congr 1
      cases hd : chD (chL F s) (sMen s) to m with
      | none =>
        show A m = 100000000
        by_cases e : A m < 100000000
        · have := h3 e
          rw [chD_none hto hm hd] at this
          cases this
        · omega
      | some x =>
        show A m = x
        have hx := chD_iff.mp hd
        have hle := hC m hm x hd (by have := hx.1; show x ≤ sMen s; omega)
        have h4 := h3 (by omega)
        by_cases e : A m < x
        · rw [hx.2.2 _ e] at h4
          cases h4
        · omega
    | succ q ih =>
      intro t A I2 w3 w4 ht f2 hA hC
      have rows : ∀ (p m : Nat) (A : Nat → Nat) (I3 : Nat → Nat → Int32) (w4 : Option Value), m + p = sMen s → (∀ a j, a ≠ 151 → I3 a j = I1 a j) → awI (chL F s) (sMen s) to A I3 → awC (chL F s) (sMen s) to (fun u => if u < m then t + 1 else t) A → sm_W ex d 0 0 215 54 [some (.ref 123), some (.int (nI to)), some (.int (nI t)), some (.int (nI m)), w4] [] (n, y, I3, L1, R) Q := by
        intro p
        induction p with
        | zero =>
          intro m A I3 w4 hm f3 hA hC
          obtain rfl : m = sMen s := by omega
          refine w_X11_layAway_54 hG ?_
          rw [(keepS I3 f3).1, if_pos (Int32.le_refl _), sm_n1]
          refine ih (t + 1) A I3 _ _ (by omega) f3 hA (fun u hu x hx hxt => hC u hu x hx ?_)
          show x ≤ if u < sMen s then t + 1 else t
          rw [if_pos hu]
          exact hxt
        | succ p ihp =>
          intro m A I3 w4 hm f3 hA hC
          have hmm : m < sMen s := by omega
          have cols : ∀ (r o : Nat) (A : Nat → Nat) (I4 : Nat → Nat → Int32), o + r = sMen s → (∀ a j, a ≠ 151 → I4 a j = I1 a j) → awI (chL F s) (sMen s) to A I4 → awC (chL F s) (sMen s) to (fun u => if u < m then t + 1 else t) A → (∀ u, u < o → chL F s m u = true → ∀ x, chD (chL F s) (sMen s) to u = some x → x ≤ t → A m ≤ x + 1) → sm_W ex d 0 0 215 67 [some (.ref 123), some (.int (nI to)), some (.int (nI t)), some (.int (nI m)), some (.int (nI o))] [] (n, y, I4, L1, R) Q := by
            intro r
            induction r with
            | zero =>
              intro o A I4 ho f4 hA hC hE
              obtain rfl : o = sMen s := by omega
              refine w_X11_layAway_67 (d1 := 1) hG (by omega) ?_
              rw [(keepS I4 f4).1, if_pos (Int32.le_refl _), sm_n1 m]
              refine ihp (m + 1) A I4 _ (by omega) f4 hA (fun u hu x hx hxt => ?_)
              have hxt2 : x ≤ if u < m + 1 then t + 1 else t := hxt
              by_cases e : u = m
              · subst e
                rw [if_pos (by omega)] at hxt2
                cases x with
                | zero => exact hC u hu 0 hx (by omega)
                | succ x =>
                  obtain ⟨o, o1, o2, o3⟩ := chD_step hto hx
                  exact hE o o1 o2 x o3 (by omega)
              · refine hC u hu x hx ?_
                show x ≤ if u < m then t + 1 else t
                by_cases e2 : u < m
                · rw [if_pos e2]; rw [if_pos (by omega)] at hxt2; exact hxt2
                · rw [if_neg e2]; rw [if_neg (by omega)] at hxt2; exact hxt2
            | succ r ihr =>
              intro o A I4 ho f4 hA hC hE
              have hom : o < sMen s := by omega
              refine w_X11_layAway_67 (d1 := 1) hG (by omega) ?_
              rw [(keepS I4 f4).1, if_neg (by rw [nI_leI (by omega) (by omega)]; omega)]
              refine c_X11_links hG (keepS I4 f4) hok (keepN I4 f4) hmm hom ?_
              refine w_X11_layAway_85 hG ?_
              obtain ⟨ho1, ho2, ho3⟩ := hA o hom
              obtain ⟨hm1, hm2, hm3⟩ := hA m hmm
              by_cases hl : chL F s m o = true
              · simp only [if_pos hl]
                rw [if_neg (show ¬ (1 : Int32) = 0 by decide), nI_clamp (by omega), nI_clamp (by omega), ho1, hm1, sm_n1 (A o), sm_n1 o]
                refine ⟨vp_in_nI (by omega) (by decide), vp_in_nI (by omega) (by decide), ?_⟩
                have hoC : ∀ x, chD (chL F s) (sMen s) to o = some x → x ≤ t → A o ≤ x := fun x hx hxt => hC o hom x hx (by
                  show x ≤ if o < m then t + 1 else t
                  split <;> omega)
                by_cases e : A m ≤ A o + 1
                · rw [if_pos (by rw [nI_leI (by omega) (by omega)]; exact e)]
                  refine ihr (o + 1) A I4 (by omega) f4 hA hC (fun u hu hlu x hx hxt => ?_)
                  by_cases e2 : u = o
                  · subst e2
                    have := hoC x hx hxt
                    omega
                  · exact hE u (by omega) hlu x hx hxt
                · rw [if_neg (by rw [nI_leI (by omega) (by omega)]; exact e)]
                  refine ihr (o + 1) (fun u => if u = m then A o + 1 else A u) _ (by omega) (fun a j q => by rw [sm_st_o _ _ q]; exact f4 a j q) (fun u hu => ?_) (fun u hu x hx hxt => ?_) (fun u hu hlu x hx hxt => ?_)
                  · dsimp only
                    by_cases e2 : u = m
                    · subst e2
                      rw [if_pos rfl, sm_st_s]
                      exact ⟨rfl, by omega, fun _ => chS_s.mpr (Or.inr ⟨o, hom, ho3 (by omega), hl⟩)⟩
                    · rw [if_neg e2, sm_st_j _ _ e2]
                      exact hA u hu
                  · dsimp only
                    have := hC u hu x hx hxt
                    by_cases e2 : u = m
                    · subst e2
                      rw [if_pos rfl]; omega
                    · rw [if_neg e2]; exact this
                  · rw [if_pos rfl]
                    by_cases e2 : u = o
                    · subst e2
                      have := hoC x hx hxt
                      omega
                    · have := hE u (by omega) hlu x hx hxt
                      omega
              · simp only [if_neg hl]
                rw [if_pos trivial, sm_n1 o]
                exact ihr (o + 1) A I4 (by omega) f4 hA hC (fun u hu hlu x hx hxt => by
                  by_cases e2 : u = o
                  · subst e2
                    exact absurd hlu hl
                  · exact hE u (by omega) hlu x hx hxt)
          refine w_X11_layAway_54 hG ?_
          rw [(keepS I3 f3).1, if_neg (by rw [nI_leI (by omega) (by omega)]; omega)]
          exact cols (sMen s) 0 A I3 (by omega) f3 hA hC (fun u hu => absurd hu (by omega))
      refine w_X11_layAway_42 hG ?_
      rw [(keepS I2 f2).1, if_neg (by rw [nI_leI (by omega) (by omega)]; omega)]
      exact rows (sMen s) 0 A I2 _ (by omega) f2 hA (fun u hu x hx hxt => hC u hu x hx (by
        have : x ≤ if u < 0 then t + 1 else t := hxt
        rw [if_neg (by omega)] at this
        exact this))
  -- the start
  have start : ∀ (q j : Nat) (I2 : Nat → Nat → Int32), j + q = sMen s → (∀ a j, a ≠ 151 → I2 a j = I1 a j) → (∀ o, o < j → I2 151 o = nI (if o = to then 0 else 100000000)) → sm_W ex d 0 0 215 6 [some (.ref 123), some (.int (nI to)), some (.int (nI j)), w3, w4] [] (n, y, I2, L1, R) Q := by
    intro q
    induction q with
    | zero =>
      intro j I2 hj f2 h2
      obtain rfl : j = sMen s := by omega
      refine w_X11_layAway_6 hG ?_
      rw [(keepS I2 f2).1, if_pos (Int32.le_refl _)]
      refine pass (sMen s) 0 (fun o => if o = to then 0 else 100000000) I2 _ _ (by omega) f2 (fun m hm => ⟨h2 m hm, ?_, fun hlt => ?_⟩) (fun m hm x hx hx0 => ?_)
      · dsimp only
        split <;> omega
      · dsimp only at hlt ⊢
        by_cases e : m = to
        · rw [if_pos e]
          exact decide_eq_true e
        · rw [if_neg e] at hlt
          omega
      · have hx0' : x ≤ 0 := hx0
        obtain rfl : x = 0 := by omega
        dsimp only
        rw [if_pos (chD_z hx)]
        omega
    | succ q ih =>
      intro j I2 hj f2 h2
      refine w_X11_layAway_6 hG ?_
      have fj : nI j = nI to ↔ j = to := nI_eq (by omega) (by omega)
      rw [(keepS I2 f2).1, if_neg (by rw [nI_leI (by omega) (by omega)]; omega), nI_clamp (by omega), sm_n1]
      simp only [fj]
      have nx : ∀ v, v = nI (if j = to then 0 else 100000000) → sm_W ex d 0 0 215 6 [some (.ref 123), some (.int (nI to)), some (.int (nI (j + 1))), w3, w4] [] (n, y, sm_st I2 151 j v, L1, R) Q := fun v hv => ih (j + 1) _ (by omega) (fun a u q => by rw [sm_st_o _ _ q]; exact f2 a u q) (fun o ho => by
        by_cases e : o = j
        · subst e
          rw [sm_st_s, hv]
        · rw [sm_st_j _ _ e]
          exact h2 o (by omega))
      by_cases e : j = to
      · rw [if_pos e]
        exact ⟨vp_in_nI (by omega) (by decide), nx 0 (by rw [if_pos e]; rfl)⟩
      · rw [if_neg e]
        exact ⟨vp_in_nI (by omega) (by decide), nx 100000000 (by rw [if_neg e]; rfl)⟩
  exact start (sMen s) 0 I1 (by omega) (fun _ _ _ => rfl) (fun o ho => absurd ho (by omega))
theorem awV_lt {lk : Nat → Nat → Bool} {men to m : Nat} (h7 : men ≤ 7) : awV (chD lk men to m) ≤ 100000000 := by
  cases hd : chD lk men to m with
  | none => exact Nat.le_refl _
  | some x =>
    have := (chD_iff.mp hd).1
    show x ≤ _
    omega
set_option maxHeartbeats 1000000 in
theorem M_chain {ex : sm_O} {d : Nat} {w4 w5 w6 : Option Value} {g : GG} {a b c : Int32} (hd : 8 ≤ d) (hw : Wf g) : MM ex d 216 [some (.ref 123), some (.int a), some (.int b), some (.int c), w4, w5, w6] g (f_chain g a b c) g := by
  intro n y I0 L0 R Q hG hm0 k
  have hok : sp_ok (gS g) := hw.1.1.1
  have h7 : sMen (gS g) ≤ 7 := hok.1
  have hm := MI_thr hm0
  have e0 : I0 125 0 = nI (sMen (gS g)) := hm.1.1
  unfold f_chain at k
  have k0 := k _ L0 hm (mKeep_thr I0)
  refine w_X11_chain_0 (d1 := 7) hG (by omega) (by omega) ?_
  rw [e0]
  by_cases q1 : 0 ≤ a ∧ a < nI (sMen (gS g))
  · rw [if_pos q1]
    by_cases q2 : 0 ≤ b ∧ b < nI (sMen (gS g))
    · rw [if_pos q2]
      by_cases q5 : -1 ≤ c
      · rw [if_pos q5]
        rw [if_pos ⟨q1, q2, q5⟩] at k
        obtain ⟨x, hx, rfl⟩ := nI_of (Int32.not_lt.mpr q1.1)
        obtain ⟨to, hto, rfl⟩ := nI_of (Int32.not_lt.mpr q2.1)
        have hxm := (nI_ltI hx (by omega)).mp q1.2
        have htm := (nI_ltI hto (by omega)).mp q2.2
        rw [nI_clamp hx, nI_clamp hto] at k
        have hm20 : (sm_st I0 123 0 0) 123 20 = 0 := hm.2.2.2.2.2.1.2.2.2.2.1
        refine c_X11_layAway (s := gS g) (F := bF (gB g)) (Nat.le_refl 7) hG hm.1 hok hm20 (hm.F hw) htm ?_
        intro I L f1 no1 aw1
        have hm1 : MI g I L := MI_scr hw (fun a j q => f1.1 a j (by unfold mscr at q; omega) (by unfold mscr at q; omega) (by unfold mscr at q; omega)) (fun a j q => f1.2 a j (by omega) (by omega) (by omega)) hm
        have k1 := k I L hm1 ((mKeep_thr I0).trans (fun a j q => f1.1 a j (by omega) (by omega) (by omega)))
        have hs := hm1.1
        refine w_X11_chain_33 hG ?_
        rw [nI_clamp hx, aw1 x hxm]
        refine ⟨vp_in_nI (by omega) (by decide), ?_⟩
        cases hd : chD (chL (bF (gB g)) (gS g)) (sMen (gS g)) to x with
        | none =>
          rw [hd] at k1
          dsimp only at k1
          rw [if_pos (show (100000000 : Int32) ≤ nI (awV none) by decide)]
          exact k1
        | some l =>
          rw [hd] at k1
          dsimp only at k1
          have hl := (chD_iff.mp hd).1
          show if (100000000 : Int32) ≤ nI l then _ else if c < nI l then _ else _
          rw [if_neg (by rw [sm_of 100000000, nI_leI (by omega) (by omega)]; omega)]
          rcases m1_cases q5 with e | e
          · rw [if_pos e] at k1 ⊢
            rw [if_pos (by rw [e]; exact Int32.lt_of_lt_of_le (show (-1 : Int32) < 0 by decide) (nI_pos' (by omega)))]
            exact k1
          · have hne : ¬ c = -1 := fun z => by rw [z] at e; exact absurd e (by decide)
            rw [if_neg hne] at k1 ⊢
            by_cases q6 : c < nI l
            · rw [if_pos q6] at k1 ⊢
              obtain ⟨i, hi, rfl⟩ := nI_of (Int32.not_lt.mpr e)
              have hil := (nI_ltI hi (by omega)).mp q6
              rw [nI_clamp hi] at k1
              have go : ∀ (q t m : Nat) (w6 : Option Value), t + q = i + 1 → m < sMen (gS g) → chD (chL (bF (gB g)) (gS g)) (sMen (gS g)) to m = some (l - t) → chW (chL (bF (gB g)) (gS g)) (sMen (gS g)) to (i + 1) x = chW (chL (bF (gB g)) (gS g)) (sMen (gS g)) to q m → sm_W ex d 0 0 216 75 [some (.ref 123), some (.int (nI x)), some (.int (nI to)), some (.int (nI i)), some (.int (nI m)), some (.int (nI t)), w6] [] (n, y, I, L, R) Q := by
                intro q
                induction q with
                | zero =>
                  intro t m w6 ht hmm hdm he
                  obtain rfl : t = i + 1 := by omega
                  refine w_X11_chain_75 ?_
                  rw [if_pos (by rw [nI_ltI (by omega) (by omega)]; omega)]
                  rw [he] at k1
                  exact k1
                | succ q ih =>
                  intro t m w6 ht hmm hdm he
                  obtain ⟨z, hz⟩ : ∃ z, l - t = z + 1 := ⟨l - t - 1, by omega⟩
                  rw [hz] at hdm
                  have hsp := chN_spec htm hdm
                  have scan : ∀ (p o : Nat), o + p = chN (chL (bF (gB g)) (gS g)) (sMen (gS g)) to m z → sm_W ex d 0 0 216 84 [some (.ref 123), some (.int (nI x)), some (.int (nI to)), some (.int (nI i)), some (.int (nI m)), some (.int (nI t)), some (.int (nI o))] [] (n, y, I, L, R) Q := by
                    intro p
                    induction p with
                    | zero =>
                      intro o ho
                      obtain rfl : o = chN (chL (bF (gB g)) (gS g)) (sMen (gS g)) to m z := by omega
                      generalize ho2 : chN (chL (bF (gB g)) (gS g)) (sMen (gS g)) to m z = o at hsp
                      refine w_X11_chain_84 (d1 := 1) hG (by omega) ?_
                      refine c_X11_links hG hs hok no1 hmm hsp.1 ?_
                      rw [if_pos hsp.2.2.1]
                      refine w_X11_chain_92 hG ?_
                      rw [if_neg (show ¬ (1 : Int32) = 0 by decide), nI_clamp (by omega), nI_clamp (by omega), aw1 o hsp.1, aw1 m hmm, hdm, hsp.2.1]
                      show vp_in _ _ ∧ vp_in _ _ ∧ if nI z = nI (z + 1) - 1 then _ else _
                      rw [nI_pred, if_pos rfl, sm_n1 t]
                      exact ⟨vp_in_nI (by omega) (by decide), vp_in_nI (by omega) (by decide), ih (t + 1) o _ (by omega) hsp.1 (by rw [hsp.2.1]; congr 1; omega) (by rw [he, chW_s hdm, ho2])⟩
                    | succ p ihp =>
                      intro o ho
                      have hom : o < sMen (gS g) := by omega
                      refine w_X11_chain_84 (d1 := 1) hG (by omega) ?_
                      refine c_X11_links hG hs hok no1 hmm hom ?_
                      refine w_X11_chain_92 hG ?_
                      by_cases hlk : chL (bF (gB g)) (gS g) m o = true
                      · simp only [if_pos hlk]
                        rw [if_neg (show ¬ (1 : Int32) = 0 by decide), nI_clamp (by omega), nI_clamp (by omega), aw1 o hom, aw1 m hmm, hdm]
                        show vp_in _ _ ∧ vp_in _ _ ∧ if _ = nI (z + 1) - 1 then _ else _
                        have hz7 := (chD_iff.mp hdm).1
                        have hne : ¬ nI (awV (chD (chL (bF (gB g)) (gS g)) (sMen (gS g)) to o)) = nI z := by
                          rw [nI_eq (by have := awV_lt (lk := chL (bF (gB g)) (gS g)) (to := to) (m := o) h7; omega) (by omega)]
                          intro w
                          cases hdo : chD (chL (bF (gB g)) (gS g)) (sMen (gS g)) to o with
                          | none =>
                            rw [hdo] at w
                            have : (100000000 : Nat) = z := w
                            omega
                          | some v =>
                            rw [hdo] at w
                            have : v = z := w
                            rw [this] at hdo
                            exact hsp.2.2.2 o (by omega) ⟨hdo, hlk⟩
                        rw [nI_pred, if_neg hne, sm_n1 o]
                        exact ⟨vp_in_nI (by omega) (by decide), vp_in_nI (by omega) (by decide), ihp (o + 1) (by omega)⟩
                      · simp only [if_neg hlk]
                        rw [if_pos trivial, sm_n1 o]
                        exact ihp (o + 1) (by omega)
                  refine w_X11_chain_75 ?_
                  rw [if_neg (by rw [nI_ltI (by omega) (by omega)]; omega)]
                  exact scan _ 0 (Nat.zero_add _)
              exact go (i + 1) 0 x _ (by omega) hxm hd rfl
            · rw [if_neg q6] at k1 ⊢
              exact k1
      · rw [if_neg q5]
        rw [if_neg (fun z => q5 z.2.2)] at k0
        exact k0
    · rw [if_neg q2]
      rw [if_neg (fun z => q2 z.2.1)] at k0
      exact k0
  · rw [if_neg q1]
    rw [if_neg (fun z => q1 z.1)] at k0
    exact k0

