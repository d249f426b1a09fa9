-- LATER, MOMENT
theorem nI_m1 {k : Nat} (h : k < 2 ^ 31) : ¬ nI k = -1 := fun q => by
  have := congrArg Int32.toInt q
  rw [nI_toInt h] at this
  have z : (-1 : Int32).toInt = -1 := rfl
  omega
theorem ite_of {Q : sm_Q} {p : Prop} [Decidable p] {u v : Int32} {μ : sm_Mem} (k : Q (some (.int (if p then u else v))) μ) : if p then Q (some (.int u)) μ else Q (some (.int v)) μ := by
  by_cases h : p
  · rw [if_pos h] at k ⊢; exact k
  · rw [if_neg h] at k ⊢; exact k
theorem sp_hour_same (F : Option (Nat × Law)) (s : St) : sp_same s (sp_hour F s).1 := by
  have h0 : sp_same s (sp_hour0 F s) := ⟨rfl, rfl, rfl, fun j hj => by show sm_up (sTerm s) 0 _ j = _; unfold sm_up; rw [if_neg (by omega)]⟩
  unfold sp_hour
  split
  · exact h0
  · split
    · exact h0
    · exact h0
theorem sp_same_rfl (s : St) : sp_same s s := ⟨rfl, rfl, rfl, fun _ _ => rfl⟩
theorem sp_same_trans {s t u : St} (h1 : sp_same s t) (h2 : sp_same t u) : sp_same s u := ⟨h2.1.trans h1.1, h2.2.1.trans h1.2.1, h2.2.2.1.trans h1.2.2.1, fun j hj => (h2.2.2.2 j hj).trans (h1.2.2.2 j hj)⟩
theorem sp_notice_le (F : Option (Nat × Law)) (s : St) (m : Nat) (o : Option Nat) : sp_notice F s m o ≤ 99 := by
  cases o with
  | none => exact Nat.zero_le _
  | some o => exact sp_clN_le 99 _
def sp_after (F : Option (Nat × Law)) : Nat → St → St
  | 0, s => s
  | q + 1, s => sp_after F q (sp_hour F s).1
theorem sp_after_same (F : Option (Nat × Law)) : ∀ q s, sp_same s (sp_after F q s)
  | 0, s => sp_same_rfl s
  | q + 1, s => sp_same_trans (sp_hour_same F s) (sp_after_same F q _)
theorem sp_after_ok (F : Option (Nat × Law)) : ∀ q s, sp_ok s → sTerm s 0 + q ≤ 2000 → sp_ok (sp_after F q s)
  | 0, s, h, _ => h
  | q + 1, s, h, ht => sp_after_ok F q _ (sp_hour_ok h (by omega)) (by rw [sp_hour_t0]; omega)
def f_later (g : GG) (a b : Int32) : Int32 := if (0 ≤ a ∧ a ≤ 60) ∧ 0 ≤ b ∧ b ≤ nI (sMen (gS g)) then (if b = 0 then sp_up (sUp (sp_after (bF (gB g)) a.toNatClampNeg (gS g))) else nI (sTired (sp_after (bF (gB g)) a.toNatClampNeg (gS g)) (b.toNatClampNeg - 1))) else -1
theorem C_later {ex : sm_O} {d : Nat} {w3 : Option Value} {g : GG} {a b : Int32} (hd : 4 ≤ d) (hw : Wf g) : CM ex d 94 [some (.ref 0), some (.int a), some (.int b), w3] g (f_later g a b) g := by
  intro n y I L R Q hc k
  have hs := hc.2.2.1
  have hG := hc.2.1
  have hok : sp_ok (gS g) := hw.1.1.1
  have h7 : sMen (gS g) ≤ 7 := hok.1
  have ht : sTerm (gS g) 0 ≤ 999 := hw.1.1.2.1
  have hF := hc.F hw
  unfold f_later at k
  refine w_X10_later_0 (d1 := 3) hG (by omega) ?_
  rw [hs.1]
  have k0 := k I L hc (cKeep.rfl' I L)
  by_cases q1 : a < 0
  · rw [if_pos q1]
    rw [if_neg (fun z => absurd q1 (Int32.not_lt.mpr z.1.1))] at k0
    exact k0
  rw [if_neg q1]
  by_cases q2 : 60 < a
  · rw [if_pos q2]
    rw [if_neg (fun z => absurd q2 (Int32.not_lt.mpr z.1.2))] at k0
    exact k0
  rw [if_neg q2]
  by_cases q3 : b < 0
  · rw [if_pos q3]
    rw [if_neg (fun z => absurd q3 (Int32.not_lt.mpr z.2.1))] at k0
    exact k0
  rw [if_neg q3]
  by_cases q4 : b ≤ nI (sMen (gS g))
  · rw [if_pos q4]
    have hall : (0 ≤ a ∧ a ≤ 60) ∧ 0 ≤ b ∧ b ≤ nI (sMen (gS g)) := ⟨⟨Int32.not_lt.mp q1, Int32.not_lt.mp q2⟩, Int32.not_lt.mp q3, q4⟩
    rw [if_pos hall] at k
    obtain ⟨N, rfl, -, hN⟩ := sm_nat (lo := 0) (hi := 60) (by decide) hall.1 (by decide)
    obtain ⟨w, rfl, -, hwm⟩ := sm_nat (lo := 0) (hi := sMen (gS g)) (by omega) hall.2 (by decide)
    rw [nI_clamp (by omega), nI_clamp (by omega)] at k
    have key : ∀ (q j : Nat) (s : St) (I1 : Nat → Nat → Int32), j + q = N → (∀ a j, ¬ (51 ≤ a ∧ a ≤ 53) → ¬ (107 ≤ a ∧ a ≤ 111) → I1 a j = I a j) → cS s 107 I1 → sp_ok s → sTerm s 0 + q ≤ 2000 → sp_after (bF (gB g)) q s = sp_after (bF (gB g)) N (gS g) → sm_W ex d 0 0 94 40 [some (.ref 0), some (.int (nI N)), some (.int (nI w)), some (.int (nI j))] [] (n, y, I1, L, R) Q := by
      intro q
      induction q with
      | zero =>
        intro j s I1 hj hf1 hs1 hok1 ht1 he
        obtain rfl : j = N := by omega
        refine w_X10_later_40 (d1 := 3) hG (by omega) ?_
        rw [if_pos (Int32.le_refl _)]
        have k1 := k I1 L (CI_107 hw hf1 hc) (cKeep_107 hf1)
        have he : s = sp_after (bF (gB g)) j (gS g) := he
        rw [← he] at k1
        have hm1 : sMen s = sMen (gS g) := by rw [he]; exact (sp_after_same _ _ _).1
        by_cases hw0 : nI w = 0
        · rw [if_pos hw0] at k1 ⊢
          rw [hs1.2.2.2.1]
          exact k1
        · rw [if_neg hw0] at k1 ⊢
          obtain ⟨v, rfl⟩ : ∃ v, w = v + 1 := ⟨w - 1, by
            have : w ≠ 0 := fun z => hw0 (by rw [z]; rfl)
            omega⟩
          rw [nI_pred, nI_clamp (by omega)]
          refine ⟨vp_in_nI (by omega) (by decide), ?_⟩
          rw [(hs1.2.1 v (by omega)).2.2]
          exact k1
      | succ q ih =>
        intro j s I1 hj hf1 hs1 hok1 ht1 he
        refine w_X10_later_40 (d1 := 3) hG (by omega) ?_
        rw [if_neg (by rw [nI_leI (by omega) (by omega)]; omega)]
        have hF1 : cForce I1 (bF (gB g)) := cForce_kept (fun a j _ _ => hf1 a j (by omega) (by omega)) hF
        refine c_X5_hour (by omega) hG (mk107 hG) (by omega) hs1 hok1 (by omega) hF1 ?_
        intro I3 hf3 hs3
        refine w_X10_later_56 ?_
        rw [sm_n1]
        exact ih (j + 1) (sp_hour (bF (gB g)) s).1 I3 (by omega) (fun a j h1 h2 => (hf3 a j h1 (by omega) (by omega) (by omega)).trans (hf1 a j h1 h2)) hs3 (sp_hour_ok hok1 (by omega)) (by rw [sp_hour_t0]; omega) he
    refine c_X9_copyFrom (by omega) (mk107 hG).1 (mk1 hG).1 (by unfold cApt; omega) h7 hs ?_
    intro I1 hf1 hs1 _
    refine w_X10_later_38 ?_
    exact key N 0 (gS g) I1 (by omega) (fun a j _ h => hf1 a j h) hs1 hok (by omega) rfl
  · rw [if_neg q4]
    rw [if_neg (fun z => absurd z.2.2 q4)] at k0
    exact k0
theorem M_later {ex : sm_O} {d : Nat} {w3 : Option Value} {g : GG} {a b : Int32} (hd : 8 ≤ d) (hw : Wf g) : MM ex d 203 [some (.ref 123), some (.int a), some (.int b), w3] g (f_later g a b) g := by
  intro n y I L R Q hG hm k
  have hok : sp_ok (gS g) := hw.1.1.1
  have h7 : sMen (gS g) ≤ 7 := hok.1
  have ht : sTerm (gS g) 0 ≤ 999 := hw.1.1.2.1
  unfold f_later at k
  refine w_X11_later_0 (d1 := 7) hG (by omega) (by omega) ?_
  have i1 : ((0 : Int64) ≤ a.toInt64 ∧ a.toInt64 ≤ (60 : Int64)) ↔ (0 ≤ a ∧ a ≤ 60) := sm_in64 (lo := 0) (hi := 60)
  have i2 : ((0 : Int64) ≤ b.toInt64 ∧ b.toInt64 ≤ (nI (sMen (gS g))).toInt64) ↔ (0 ≤ b ∧ b ≤ nI (sMen (gS g))) := sm_in64 (lo := 0)
  rw [hm.1.1]
  simp only [i1, i2]
  have k0 := k _ L (MI_thr hm) (mKeep_thr I)
  by_cases q1 : 0 ≤ a ∧ a ≤ 60
  · rw [if_pos q1]
    by_cases q2 : 0 ≤ b ∧ b ≤ nI (sMen (gS g))
    · rw [if_pos q2]
      rw [if_pos ⟨q1, q2⟩] at k
      obtain ⟨N, rfl, -, hN⟩ := sm_nat (lo := 0) (hi := 60) (by decide) q1 (by decide)
      obtain ⟨w, rfl, -, hwm⟩ := sm_nat (lo := 0) (hi := sMen (gS g)) (by omega) q2 (by decide)
      rw [nI_clamp (by omega), nI_clamp (by omega)] at k
      refine c_X11_keepAll (c := 16) hG (by decide) ?_
      obtain ⟨p1, p2, p3⟩ := MI_pap hw hm
      generalize hI1 : sm_cp (sm_st I 123 0 0) 125 4 128 (20 * 16) 20 = I1
      have hI1' : sm_cp (sm_st I 123 0 0) 125 4 128 320 20 = I1 := hI1
      rw [hI1'] at p1 p2 p3
      have key : ∀ (q j : Nat) (s : St) (I2 : Nat → Nat → Int32) (L2 : Nat → Nat → Int64), j + q = N → mFm I1 I2 L L2 → mS s (I2 125) → sp_ok s → sTerm s 0 + q ≤ 2000 → sp_after (bF (gB g)) q s = sp_after (bF (gB g)) N (gS g) → sm_W ex d 0 0 203 43 [some (.ref 123), some (.int (nI N)), some (.int (nI w)), some (.int (nI j))] [] (n, y, I2, L2, R) Q := by
        intro q
        induction q with
        | zero =>
          intro j s I2 L2 hj hf1 hs1 hok1 ht1 he
          obtain rfl : j = N := by omega
          refine w_X11_later_43 (d1 := 7) hG (by omega) ?_
          rw [if_pos (Int32.le_refl _)]
          have he : s = sp_after (bF (gB g)) j (gS g) := he
          rw [← he] at k
          have hm1 : sMen s = sMen (gS g) := by rw [he]; exact (sp_after_same _ _ _).1
          have hb := MI_back hw hm (by rw [hI1']; exact hf1)
          have k1 := k _ L2 hb.1 hb.2
          by_cases hw0 : nI w = 0
          · rw [if_pos hw0] at k1 ⊢
            rw [hs1.2.2.1]
            refine c_X11_putBack (c := 16) hG (by decide) ?_
            exact w_X11_later_91 k1
          · rw [if_neg hw0] at k1 ⊢
            obtain ⟨v, rfl⟩ : ∃ v, w = v + 1 := ⟨w - 1, by
              have : w ≠ 0 := fun z => hw0 (by rw [z]; rfl)
              omega⟩
            have e1 : (10 : Int32) + nI (v + 1) - 1 = nI (10 + v) := by
              rw [show (10 : Int32) = nI 10 from rfl, nI_add, show 10 + (v + 1) = (10 + v) + 1 from rfl, nI_pred]
            rw [e1, nI_clamp (by omega), (hs1.2.1 v (by omega)).2.2.1]
            refine ⟨vp_in_nI (by omega) (by decide), ?_⟩
            refine c_X11_putBack (c := 16) hG (by decide) ?_
            exact w_X11_later_91 k1
        | succ q ih =>
          intro j s I2 L2 hj hf1 hs1 hok1 ht1 he
          refine w_X11_later_43 (d1 := 7) hG (by omega) ?_
          rw [if_neg (by rw [nI_leI (by omega) (by omega)]; omega)]
          have h20 : I2 123 20 = 0 := (hf1.1 123 20 (by omega) (by omega) (by omega)).trans p3
          refine c_X11_passIt (s := s) (F := bF (gB g)) (by omega) hG hs1 hok1 (by omega) h20 (hf1.F p2) ?_
          intro I3 L3 hf3 hs3
          refine w_X11_later_52 ?_
          rw [sm_n1]
          exact ih (j + 1) (sp_hour (bF (gB g)) s).1 I3 L3 (by omega) (hf1.trans hf3) hs3 (sp_hour_ok hok1 (by omega)) (by rw [sp_hour_t0]; omega) he
      refine w_X11_later_41 ?_
      exact key N 0 (gS g) I1 L (by omega) (mFm.rfl' I1 L) p1 hok (by omega) rfl
    · rw [if_neg q2]
      rw [if_neg (fun z => q2 z.2)] at k0
      exact k0
  · rw [if_neg q1]
    rw [if_neg (fun z => q1 z.1)] at k0
    exact k0
-- moment
abbrev Mo : Type := Option (Nat × Nat)
def moA (b : Mo) : Int32 := match b with
  | none => -1
  | some x => nI x.1
def moC (b : Mo) : Int32 := match b with
  | none => -1
  | some x => nI x.2
def moM (b : Mo) : Int32 := match b with
  | none => 100000000
  | some x => nI x.2
def moN (b : Mo) (j e : Nat) : Mo := match b with
  | none => some (j, e)
  | some x => if e < x.2 then some (j, e) else some x
def moOk (b : Mo) : Prop := ∀ x, b = some x → x.1 ≤ 12 ∧ x.2 ≤ 99
theorem moN_ok {b : Mo} {j e : Nat} (h : moOk b) (hj : j ≤ 12) (he : e ≤ 99) : moOk (moN b j e) := by
  intro x hx
  cases b with
  | none => cases hx; exact ⟨hj, he⟩
  | some u =>
    unfold moN at hx
    dsimp only at hx
    split at hx
    · cases hx; exact ⟨hj, he⟩
    · cases hx; exact h _ rfl
def sp_mom (F : Option (Nat × Law)) (m : Nat) : Nat → Nat → St → Mo → Mo
  | 0, _, _, b => b
  | q + 1, j, s, b => sp_mom F m q (j + 1) (sp_hour F s).1 (if sp_canb F s m = true then moN b j (sp_notice F s m (sUp s)) else b)
def f_moment (g : GG) (a w : Int32) : Int32 := if (0 ≤ a ∧ a < nI (sMen (gS g))) ∧ 0 ≤ w ∧ w ≤ 1 then (if w = 0 then moA (sp_mom (bF (gB g)) a.toNatClampNeg 13 0 (gS g) none) else moC (sp_mom (bF (gB g)) a.toNatClampNeg 13 0 (gS g) none)) else -1
theorem C_moment {ex : sm_O} {d : Nat} {w3 w4 w5 w6 : Option Value} {g : GG} {a w : Int32} (hd : 4 ≤ d) (hw : Wf g) : CM ex d 95 [some (.ref 0), some (.int a), some (.int w), w3, w4, w5, w6] g (f_moment g a w) g := by
  intro n y I L R Q hc k
  have hs := hc.2.2.1
  have hG := hc.2.1
  have hok : sp_ok (gS g) := hw.1.1.1
  have h7 : sMen (gS g) ≤ 7 := hok.1
  have ht : sTerm (gS g) 0 ≤ 999 := hw.1.1.2.1
  have hF := hc.F hw
  unfold f_moment at k
  refine w_X10_moment_0 (d1 := 3) hG (by omega) (by omega) ?_
  rw [hs.1]
  have k0 := k I L hc (cKeep.rfl' I L)
  by_cases q1 : a < 0
  · rw [if_pos q1]
    rw [if_neg (fun z => absurd q1 (Int32.not_lt.mpr z.1.1))] at k0
    exact k0
  rw [if_neg q1]
  by_cases q2 : nI (sMen (gS g)) ≤ a
  · rw [if_pos q2]
    rw [if_neg (fun z => absurd z.1.2 (Int32.not_lt.mpr q2))] at k0
    exact k0
  rw [if_neg q2]
  by_cases q3 : w < 0
  · rw [if_pos q3]
    rw [if_neg (fun z => absurd q3 (Int32.not_lt.mpr z.2.1))] at k0
    exact k0
  rw [if_neg q3]
  by_cases q4 : w ≤ 1
  · rw [if_pos q4]
    have hall : 0 ≤ a ∧ a < nI (sMen (gS g)) := ⟨Int32.not_lt.mp q1, Int32.not_le.mp q2⟩
    rw [if_pos ⟨hall, Int32.not_lt.mp q3, q4⟩] at k
    obtain ⟨m, rfl, hm⟩ := nat_man h7 hall
    rw [nI_clamp (by omega)] at k
    have key : ∀ (q j : Nat) (s : St) (b : Mo) (I1 : Nat → Nat → Int32) (u6 : Option Value), j + q = 13 → (∀ a j, ¬ (51 ≤ a ∧ a ≤ 53) → ¬ (107 ≤ a ∧ a ≤ 111) → I1 a j = I a j) → cS s 107 I1 → sp_ok s → sMen s = sMen (gS g) → sTerm s 0 + q ≤ 2000 → moOk b → sp_mom (bF (gB g)) m q j s b = sp_mom (bF (gB g)) m 13 0 (gS g) none → sm_W ex d 0 0 95 41 [some (.ref 0), some (.int (nI m)), some (.int w), some (.int (moA b)), some (.int (moC b)), some (.int (nI j)), u6] [] (n, y, I1, L, R) Q := by
      intro q
      induction q with
      | zero =>
        intro j s b I1 u6 hj hf1 hs1 hok1 hm1 ht1 hb he
        obtain rfl : j = 13 := by omega
        refine w_X10_moment_41 (d1 := 3) hG (by omega) ?_
        rw [if_pos (by decide)]
        have k1 := k I1 L (CI_107 hw hf1 hc) (cKeep_107 hf1)
        have he : b = sp_mom (bF (gB g)) m 13 0 (gS g) none := he
        rw [← he] at k1
        by_cases hw0 : w = 0
        · rw [if_pos hw0] at k1 ⊢
          exact k1
        · rw [if_neg hw0] at k1 ⊢
          exact k1
      | succ q ih =>
        intro j s b I1 u6 hj hf1 hs1 hok1 hm1 ht1 hb he
        refine w_X10_moment_41 (d1 := 3) hG (by omega) ?_
        rw [if_neg (by rw [sm_of 12, nI_ltI (by decide) (by omega)]; omega)]
        have hF1 : cForce I1 (bF (gB g)) := cForce_kept (fun a j _ _ => hf1 a j (by omega) (by omega)) hF
        -- the hour
        have hour : ∀ (I2 : Nat → Nat → Int32) (b' : Mo) (u6 : Option Value), cFt I1 I2 → moOk b' → b' = (if sp_canb (bF (gB g)) s m = true then moN b j (sp_notice (bF (gB g)) s m (sUp s)) else b) → sm_W ex 3 0 0 32 0 [some (.ref 50), some (.ref 107), none, none, none, none] [] (n, y, I2, L, R) (fun r μ1 => sm_W ex d 0 0 95 123 [some (.ref 0), some (.int (nI m)), some (.int w), some (.int (moA b')), some (.int (moC b')), some (.int (nI j)), u6] (r.toList ++ []) μ1 Q) := by
          intro I2 b' u6 hf2 hb' hb2
          have hs2 := hf2.S (mk107 hG) hs1
          have hf12 : ∀ a j, ¬ (51 ≤ a ∧ a ≤ 53) → ¬ (107 ≤ a ∧ a ≤ 111) → I2 a j = I a j := fun a j h1 h2 => (hf2 a j h1).trans (hf1 a j h1 h2)
          have hF2 : cForce I2 (bF (gB g)) := cForce_kept (fun a j _ _ => hf12 a j (by omega) (by omega)) hF
          refine c_X5_hour (Nat.le_refl 3) hG (mk107 hG) (by omega) hs2 hok1 (by omega) hF2 ?_
          intro I3 hf3 hs3
          refine w_X10_moment_123 ?_
          rw [sm_n1]
          refine ih (j + 1) (sp_hour (bF (gB g)) s).1 b' I3 u6 (by omega) (fun a j h1 h2 => (hf3 a j h1 (by omega) (by omega) (by omega)).trans (hf12 a j h1 h2)) hs3 (sp_hour_ok hok1 (by omega)) ((sp_hour_same _ _).1.trans hm1) (by rw [sp_hour_t0]; omega) hb' ?_
          rw [hb2]
          exact he
        refine c_X5_can0 (by omega) hG (mk107 hG) hs1 hok1 (by omega) hF1 ?_
        intro I2 x hf2 hx
        have hx := sp_canx hx
        have hs2 := hf2.S (mk107 hG) hs1
        refine w_X10_moment_61 (d1 := 3) hG (by omega) ?_
        by_cases hcan : sp_canb (bF (gB g)) s m = true
        · rw [if_pos hcan] at hx
          rw [hx, if_neg (by decide)]
          have hF2 : cForce I2 (bF (gB g)) := cForce_kept (fun a j _ _ => hf2 a j (by omega)) hF1
          refine c_X0_inForce (F := bF (gB g)) (by omega) hG hF2 ?_
          refine w_X10_moment_75 (d1 := 3) hG (by omega) ?_
          rw [hs2.2.2.2.1]
          refine c_told (kd := 2) (by omega) hG (mk107 hG) hs2 hok1 (by omega) hok1.2.2.1 hF2 (by decide) ?_
          intro I3 hf3
          rw [sp_asked_n]
          have hn9 := sp_notice_le (bF (gB g)) s m (sUp s)
          refine w_X10_moment_91 (d1 := 3) hG (by omega) ?_
          have hbn : moN b j (sp_notice (bF (gB g)) s m (sUp s)) = (if sp_canb (bF (gB g)) s m = true then moN b j (sp_notice (bF (gB g)) s m (sUp s)) else b) := by rw [if_pos hcan]
          have hbo := moN_ok (j := j) hb (by omega) hn9
          cases hbc : b with
          | none =>
            rw [if_pos (show moA none = -1 from rfl)]
            rw [hbc] at hbn hbo
            have := hour I3 _ (some (.int (nI (sp_notice (bF (gB g)) s m (sUp s))))) (hf2.trans hf3) hbo (by rw [hbc]; exact hbn)
            exact this
          | some u =>
            have hu := hb u hbc
            rw [if_neg (show ¬ moA (some u) = -1 from nI_m1 (by omega))]
            rw [hbc] at hbn hbo
            by_cases hlt : sp_notice (bF (gB g)) s m (sUp s) < u.2
            · rw [if_neg (by show ¬ nI u.2 ≤ _; rw [nI_leI (by omega) (by omega)]; omega)]
              have e : moN (some u) j (sp_notice (bF (gB g)) s m (sUp s)) = some (j, sp_notice (bF (gB g)) s m (sUp s)) := by unfold moN; dsimp only; rw [if_pos hlt]
              have := hour I3 (some (j, sp_notice (bF (gB g)) s m (sUp s))) (some (.int (nI (sp_notice (bF (gB g)) s m (sUp s))))) (hf2.trans hf3) (by rw [← e]; exact hbo) (by rw [hbc]; exact e.symm.trans hbn)
              exact this
            · rw [if_pos (by show nI u.2 ≤ _; rw [nI_leI (by omega) (by omega)]; omega)]
              have e : moN (some u) j (sp_notice (bF (gB g)) s m (sUp s)) = some u := by unfold moN; dsimp only; rw [if_neg hlt]
              have := hour I3 (some u) (some (.int (nI (sp_notice (bF (gB g)) s m (sUp s))))) (hf2.trans hf3) (by rw [← e]; exact hbo) (by rw [hbc]; exact e.symm.trans hbn)
              exact this
        · rw [if_neg hcan] at hx
          rw [hx, if_pos rfl]
          exact hour I2 b _ hf2 hb (by rw [if_neg hcan])
    refine c_X9_copyFrom (by omega) (mk107 hG).1 (mk1 hG).1 (by unfold cApt; omega) h7 hs ?_
    intro I1 hf1 hs1 _
    refine w_X10_moment_38 ?_
    exact key 13 0 (gS g) none I1 _ rfl (fun a j _ h => hf1 a j h) hs1 hok rfl (by omega) (fun x hx => by cases hx) rfl
  · rw [if_neg q4]
    rw [if_neg (fun z => absurd z.2.2 q4)] at k0
    exact k0
theorem M_moment {ex : sm_O} {d : Nat} {w3 w4 w5 w6 : Option Value} {g : GG} {a w : Int32} (hd : 8 ≤ d) (hw : Wf g) : MM ex d 204 [some (.ref 123), some (.int a), some (.int w), w3, w4, w5, w6] g (f_moment g a w) g := by
  intro n y I L R Q hG hm k
  have hok : sp_ok (gS g) := hw.1.1.1
  have h7 : sMen (gS g) ≤ 7 := hok.1
  have ht : sTerm (gS g) 0 ≤ 999 := hw.1.1.2.1
  unfold f_moment at k
  refine w_X11_moment_0 (d1 := 7) hG (by omega) (by omega) ?_
  have i2 : ((0 : Int64) ≤ w.toInt64 ∧ w.toInt64 ≤ (1 : Int64)) ↔ (0 ≤ w ∧ w ≤ 1) := sm_in64 (lo := 0) (hi := 1)
  rw [hm.1.1]
  simp only [i2]
  have k0 := k _ L (MI_thr hm) (mKeep_thr I)
  by_cases q1 : 0 ≤ a ∧ a < nI (sMen (gS g))
  · rw [if_pos q1]
    by_cases q2 : 0 ≤ w ∧ w ≤ 1
    · rw [if_pos q2]
      rw [if_pos ⟨q1, q2⟩] at k
      obtain ⟨m, rfl, hmm⟩ := nat_man h7 q1
      rw [nI_clamp (by omega)] at k
      refine c_X11_keepAll (c := 16) hG (by decide) ?_
      obtain ⟨p1, p2, p3⟩ := MI_pap hw hm
      generalize hI1 : sm_cp (sm_st I 123 0 0) 125 4 128 (20 * 16) 20 = I1
      have hI1' : sm_cp (sm_st I 123 0 0) 125 4 128 320 20 = I1 := hI1
      rw [hI1'] at p1 p2 p3
      have key : ∀ (q j : Nat) (s : St) (b : Mo) (I2 : Nat → Nat → Int32) (L2 : Nat → Nat → Int64) (u6 : Option Value), j + q = 13 → mFm I1 I2 L L2 → mS s (I2 125) → sp_ok s → sMen s = sMen (gS g) → sTerm s 0 + q ≤ 2000 → moOk b → sp_mom (bF (gB g)) m q j s b = sp_mom (bF (gB g)) m 13 0 (gS g) none → sm_W ex d 0 0 204 41 [some (.ref 123), some (.int (nI m)), some (.int w), some (.int (moM b)), some (.int (moA b)), some (.int (nI j)), u6] [] (n, y, I2, L2, R) Q := by
        intro q
        induction q with
        | zero =>
          intro j s b I2 L2 u6 hj hf1 hs1 hok1 hm1 ht1 hb he
          obtain rfl : j = 13 := by omega
          refine w_X11_moment_41 (d1 := 7) hG (by omega) ?_
          rw [if_pos (by decide)]
          have he : b = sp_mom (bF (gB g)) m 13 0 (gS g) none := he
          rw [← he] at k
          have hbk := MI_back hw hm (by rw [hI1']; exact hf1)
          have k1 := k _ L2 hbk.1 hbk.2
          refine c_X11_putBack (c := 16) hG (by decide) ?_
          refine w_X11_moment_121 ?_
          cases hbc : b with
          | none =>
            rw [if_pos (show moA none = -1 from rfl)]
            rw [hbc] at k1
            split at k1 <;> exact k1
          | some u =>
            have hu := hb u hbc
            rw [if_neg (show ¬ moA (some u) = -1 from nI_m1 (by omega))]
            rw [hbc] at k1
            exact ite_of k1
        | succ q ih =>
          intro j s b I2 L2 u6 hj hf1 hs1 hok1 hm1 ht1 hb he
          refine w_X11_moment_41 (d1 := 7) hG (by omega) ?_
          rw [if_neg (by rw [sm_of 13, nI_leI (by decide) (by omega)]; omega)]
          have h20 : I2 123 20 = 0 := (hf1.1 123 20 (by omega) (by omega) (by omega)).trans p3
          have hour : ∀ (I3 : Nat → Nat → Int32) (L3 : Nat → Nat → Int64) (b' : Mo) (u6 : Option Value), mFt I2 I3 L2 L3 → moOk b' → b' = (if sp_canb (bF (gB g)) s m = true then moN b j (sp_notice (bF (gB g)) s m (sUp s)) else b) → sm_W ex 7 0 0 199 0 [some (.ref 123), none, none] [] (n, y, I3, L3, R) (fun r μ1 => sm_W ex d 0 0 204 108 [some (.ref 123), some (.int (nI m)), some (.int w), some (.int (moM b')), some (.int (moA b')), some (.int (nI j)), u6] (r.toList ++ []) μ1 Q) := by
            intro I3 L3 b' u6 hf2 hb' hb2
            refine c_X11_passIt (s := s) (F := bF (gB g)) (by omega) hG (hf2.S hs1) hok1 (by omega) ((hf2.1 123 20 (by omega)).trans h20) ((hf1.trans hf2.m).F p2) ?_
            intro I4 L4 hf4 hs4
            refine w_X11_moment_108 ?_
            rw [sm_n1]
            refine ih (j + 1) (sp_hour (bF (gB g)) s).1 b' I4 L4 u6 (by omega) ((hf1.trans hf2.m).trans hf4) hs4 (sp_hour_ok hok1 (by omega)) ((sp_hour_same _ _).1.trans hm1) (by rw [sp_hour_t0]; omega) hb' ?_
            rw [hb2]
            exact he
          refine c_X11_canRelieve (s := s) (F := bF (gB g)) (by omega) hG hs1 hok1 (by omega) h20 (hf1.F p2) ?_
          intro I3 L3 x hf2 hx
          have hx := sp_canx hx
          refine w_X11_moment_53 (d1 := 7) hG (by omega) ?_
          have hmb : moM b ≤ 100000000 := by
            cases hbc : b with
            | none => exact Int32.le_refl _
            | some u =>
              have hu := hb u hbc
              show nI u.2 ≤ nI 100000000
              rw [nI_leI (by omega) (by omega)]
              omega
          by_cases hcan : sp_canb (bF (gB g)) s m = true
          · rw [if_pos hcan] at hx
            rw [hx, if_neg (by decide), (hf2.S hs1).2.2.1]
            refine c_X11_noticed (s := s) (F := bF (gB g)) (by omega) hG (hf2.S hs1) hok1 (by omega) hok1.2.2.1 ((hf2.1 123 20 (by omega)).trans h20) ((hf1.trans hf2.m).F p2) ?_
            intro I4 L4 hf4
            have hn9 := sp_notice_le (bF (gB g)) s m (sUp s)
            refine w_X11_moment_68 (d1 := 7) hG (by omega) ?_
            have hbn : moN b j (sp_notice (bF (gB g)) s m (sUp s)) = (if sp_canb (bF (gB g)) s m = true then moN b j (sp_notice (bF (gB g)) s m (sUp s)) else b) := by rw [if_pos hcan]
            have hbo := moN_ok (j := j) hb (by omega) hn9
            cases hbc : b with
            | none =>
              rw [if_neg (by show ¬ nI 100000000 ≤ _; rw [nI_leI (by omega) (by omega)]; omega)]
              rw [hbc] at hbn hbo
              have := hour I4 L4 _ (some (.int (nI (sp_notice (bF (gB g)) s m (sUp s))))) (hf2.trans hf4) hbo (by rw [hbc]; exact hbn)
              exact this
            | some u =>
              have hu := hb u hbc
              rw [hbc] at hbn hbo
              by_cases hlt : sp_notice (bF (gB g)) s m (sUp s) < u.2
              · rw [if_neg (by show ¬ nI u.2 ≤ _; rw [nI_leI (by omega) (by omega)]; omega)]
                have e : moN (some u) j (sp_notice (bF (gB g)) s m (sUp s)) = some (j, sp_notice (bF (gB g)) s m (sUp s)) := by unfold moN; dsimp only; rw [if_pos hlt]
                have := hour I4 L4 (some (j, sp_notice (bF (gB g)) s m (sUp s))) (some (.int (nI (sp_notice (bF (gB g)) s m (sUp s))))) (hf2.trans hf4) (by rw [← e]; exact hbo) (by rw [hbc]; exact e.symm.trans hbn)
                exact this
              · rw [if_pos (by show nI u.2 ≤ _; rw [nI_leI (by omega) (by omega)]; omega)]
                have e : moN (some u) j (sp_notice (bF (gB g)) s m (sUp s)) = some u := by unfold moN; dsimp only; rw [if_neg hlt]
                have := hour I4 L4 (some u) (some (.int (nI (sp_notice (bF (gB g)) s m (sUp s))))) (hf2.trans hf4) (by rw [← e]; exact hbo) (by rw [hbc]; exact e.symm.trans hbn)
                exact this
          · rw [if_neg hcan] at hx
            rw [hx, if_pos rfl, if_pos hmb]
            exact hour I3 L3 b _ hf2 hb (by rw [if_neg hcan])
      refine w_X11_moment_31 ?_
      exact key 13 0 (gS g) none I1 L _ rfl (mFm.rfl' I1 L) p1 hok rfl (by omega) (fun x hx => by cases hx) rfl
    · rw [if_neg q2]
      rw [if_neg (fun z => q2 z.2)] at k0
      exact k0
  · rw [if_neg q1]
    rw [if_neg (fun z => q1 z.1)] at k0
    exact k0

