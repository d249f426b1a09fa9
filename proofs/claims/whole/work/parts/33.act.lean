-- ACT; RELIEVE, SNEEZE, PARDON, PASS, UNDO
def sp_act (F : Option (Nat × Law)) (s : St) (u : List (Nat × St)) (k : Nat) (a : Int32) : Int32 × St × List (Nat × St) :=
  if k = 3 then (if sTerm s 0 < 999 then (nI (sp_hour F s).2, (sp_hour F s).1, sp_keep u (3, s)) else (-3, s, u))
  else if 0 ≤ a ∧ a < nI (sMen s) then
    (if k = 0 then (if sp_canb F s a.toNatClampNeg = true then (nI (sp_notice F s a.toNatClampNeg (sUp s)), sp_relieve s a.toNatClampNeg, sp_keep u (0, s)) else (-3, s, u))
    else if k = 1 then (if sCash s a.toNatClampNeg = false then (nI (sp_fit (sp_cashier s a.toNatClampNeg)), sp_cashier s a.toNatClampNeg, sp_keep u (1, s)) else (-3, s, u))
    else (if sCash s a.toNatClampNeg = true then (nI (sp_fit (sp_pardon s a.toNatClampNeg)), sp_pardon s a.toNatClampNeg, sp_keep u (2, s)) else (-3, s, u)))
  else (-2, s, u)
theorem sp_same_symm {s t : St} (h : sp_same s t) : sp_same t s := ⟨h.1.symm, h.2.1.symm, h.2.2.1.symm, fun j hj => (h.2.2.2 j hj).symm⟩
theorem wU_keep {s s' : St} {u : List (Nat × St)} {k : Nat} (hu : wU s u) (hs : wS s) (hk : k ≤ 3) (h : sp_same s s') : wU s' (sp_keep u (k, s)) := by
  have h' := sp_same_symm h
  unfold sp_keep
  refine ⟨?_, fun x hx => ?_⟩
  · rw [List.length_append]
    split
    · show u.length + 1 ≤ 16
      omega
    · rw [List.length_drop]
      show u.length - 1 + 1 ≤ 16
      have := hu.1
      omega
  · rcases List.mem_append.mp hx with q | q
    · have hx : x ∈ u := by
        split at q
        · exact q
        · exact List.mem_of_mem_drop q
      have := hu.2 x hx
      exact ⟨this.1, this.2.1, sp_same_trans h' this.2.2⟩
    · rcases List.mem_singleton.mp q with rfl
      exact ⟨hk, hs, h'⟩
theorem wU_same {s s' : St} {u : List (Nat × St)} (hu : wU s u) (h : sp_same s s') : wU s' u := ⟨hu.1, fun x hx => ⟨(hu.2 x hx).1, (hu.2 x hx).2.1, sp_same_trans (sp_same_symm h) (hu.2 x hx).2.2⟩⟩
theorem sp_cashier_uf {s : St} {m : Nat} (h : sp_uf s) : sp_uf (sp_cashier s m) := by
  intro u hu
  have hu : (if sUp s = some m then none else sUp s) = some u := hu
  split at hu
  · cases hu
  · rename_i hne
    show sm_up (sCash s) m true u = false
    unfold sm_up
    rw [if_neg (fun e => hne (by rw [hu, e]))]
    exact h u hu
theorem sp_hour_uf {F : Option (Nat × Law)} {s : St} (h : sp_uf s) : sp_uf (sp_hour F s).1 := by
  have h0 : sp_uf (sp_hour0 F s) := h
  unfold sp_hour
  split
  · exact h0
  · split
    · exact h0
    · exact sp_cashier_uf h0
theorem sp_canb_cash {F : Option (Nat × Law)} {s : St} {m : Nat} (h : sp_canb F s m = true) : sCash s m = false := ((sp_canb_iff F s m).mp h).2.1
theorem wS_relieve {F : Option (Nat × Law)} {s : St} {m : Nat} (h : wS s) (hm : m < sMen s) (hc : sp_canb F s m = true) : wS (sp_relieve s m) := ⟨sp_relieve_ok h.1 hm, h.2.1, fun u hu => by
  cases hu
  show sCash s m = false
  exact sp_canb_cash hc⟩
theorem wS_cashier {s : St} {m : Nat} (h : wS s) : wS (sp_cashier s m) := ⟨sp_cashier_ok h.1, h.2.1, sp_cashier_uf h.2.2⟩
theorem wS_pardon {s : St} {m : Nat} (h : wS s) : wS (sp_pardon s m) := ⟨sp_pardon_ok h.1, h.2.1, fun u hu => by
  show sm_up (sCash s) m false u = false
  unfold sm_up
  split
  · rfl
  · exact h.2.2 u hu⟩
theorem wS_hour {F : Option (Nat × Law)} {s : St} (h : wS s) (ht : sTerm s 0 < 999) : wS (sp_hour F s).1 := ⟨sp_hour_ok h.1 (by omega), by rw [sp_hour_t0]; omega, sp_hour_uf h.2.2⟩
theorem sp_same_relieve (s : St) (m : Nat) : sp_same s (sp_relieve s m) := ⟨rfl, rfl, rfl, fun _ _ => rfl⟩
theorem sp_same_cashier (s : St) (m : Nat) : sp_same s (sp_cashier s m) := ⟨rfl, rfl, rfl, fun _ _ => rfl⟩
theorem sp_same_pardon (s : St) (m : Nat) : sp_same s (sp_pardon s m) := ⟨rfl, rfl, rfl, fun _ _ => rfl⟩
theorem sp_act_w {F : Option (Nat × Law)} {s : St} {u : List (Nat × St)} (k : Nat) (a : Int32) (hs : wS s) (hu : wU s u) : wS (sp_act F s u k a).2.1 ∧ wU (sp_act F s u k a).2.1 (sp_act F s u k a).2.2 ∧ sp_same s (sp_act F s u k a).2.1 := by
  have h7 : sMen s ≤ 7 := hs.1.1
  have no : ∀ r : Int32, wS ((r, s, u) : Int32 × St × List (Nat × St)).2.1 ∧ wU s u ∧ sp_same s s := fun _ => ⟨hs, hu, sp_same_rfl s⟩
  unfold sp_act
  split
  · split
    · rename_i ht
      exact ⟨wS_hour hs ht, wU_keep hu hs (by decide) (sp_hour_same F s), sp_hour_same F s⟩
    · exact no _
  · split
    · rename_i hm
      obtain ⟨m, rfl, hm'⟩ := nat_man h7 hm
      rw [nI_clamp (by omega)]
      split
      · split
        · rename_i hc
          exact ⟨wS_relieve hs hm' hc, wU_keep hu hs (by decide) (sp_same_relieve s m), sp_same_relieve s m⟩
        · exact no _
      · split
        · split
          · exact ⟨wS_cashier hs, wU_keep hu hs (by decide) (sp_same_cashier s m), sp_same_cashier s m⟩
          · exact no _
        · split
          · exact ⟨wS_pardon hs, wU_keep hu hs (by decide) (sp_same_pardon s m), sp_same_pardon s m⟩
          · exact no _
    · exact no _
theorem sp_fit_le (s : St) : sp_fit s ≤ sMen s := sp_pop_le _ _
theorem sp_act_r {F : Option (Nat × Law)} {s : St} {u : List (Nat × St)} (k : Nat) (a : Int32) (h7 : sMen s ≤ 7) : (sp_act F s u k a = (-2, s, u) ∨ sp_act F s u k a = (-3, s, u)) ∨ ∃ r : Nat, r ≤ 99 ∧ (sp_act F s u k a).1 = nI r := by
  unfold sp_act
  split
  · split
    · refine Or.inr ⟨(sp_hour F s).2, ?_, rfl⟩
      rcases sp_hour_01 F s with h | h <;> omega
    · exact Or.inl (Or.inr rfl)
  · split
    · split
      · split
        · exact Or.inr ⟨_, sp_notice_le F s _ _, rfl⟩
        · exact Or.inl (Or.inr rfl)
      · split
        · split
          · exact Or.inr ⟨sp_fit (sp_cashier s a.toNatClampNeg), Nat.le_trans (sp_fit_le (sp_cashier s a.toNatClampNeg)) (show sMen s ≤ 99 by omega), rfl⟩
          · exact Or.inl (Or.inr rfl)
        · split
          · exact Or.inr ⟨sp_fit (sp_pardon s a.toNatClampNeg), Nat.le_trans (sp_fit_le (sp_pardon s a.toNatClampNeg)) (show sMen s ≤ 99 by omega), rfl⟩
          · exact Or.inl (Or.inr rfl)
    · exact Or.inl (Or.inl rfl)
def cAf (I I' : Nat → Nat → Int32) : Prop := ∀ a j, ¬ (51 ≤ a ∧ a ≤ 53) → ¬ (a = 1 ∧ 5 ≤ j ∧ j ≤ 7) → a ≠ 4 → ¬ (a = 5 ∧ j = 0) → ¬ (a = 65 ∧ j = 1) → a ≠ 66 → I' a j = I a j
theorem cAf.rfl' (I : Nat → Nat → Int32) : cAf I I := fun _ _ _ _ _ _ _ _ => rfl
theorem cAf.trans {I I' I2 : Nat → Nat → Int32} (h1 : cAf I I') (h2 : cAf I' I2) : cAf I I2 := fun a j q1 q2 q3 q4 q5 q6 => (h2 a j q1 q2 q3 q4 q5 q6).trans (h1 a j q1 q2 q3 q4 q5 q6)
theorem cFt.af {I I' : Nat → Nat → Int32} (h : cFt I I') : cAf I I' := fun a j q _ _ _ _ _ => h a j q
theorem cFm.af {I I' : Nat → Nat → Int32} (h : cFm 1 I I') : cAf I I' := fun a j q1 q2 q3 q4 _ _ => h a j q1 q2 q3 q4
theorem cAf.F {I I' : Nat → Nat → Int32} {F : Option (Nat × Law)} (h : cAf I I') (hF : cForce I F) : cForce I' F := cForce_kept (fun a j h1 h2 => h a j (by omega) (by omega) (by omega) (by omega) (by omega) (by omega)) hF
set_option maxHeartbeats 1000000 in
theorem c_X1_act {ex : sm_O} {n : Nat} {y : sm_Y} {I : Nat → Nat → Int32} {L : Nat → Nat → Int64} {R : Nat → Nat → Option Nat} {Q : sm_Q} {d k : Nat} {a : Int32} {s : St} {u : List (Nat × St)} {F : Option (Nat × Law)} (hd : 4 ≤ d) (hE : exOK ex) (hG : sm_G y R) (hs : cS s 1 I) (hw : wS s) (hu : cU u 65 I) (hwu : wU s u) (hF : cForce I F) (hk : k ≤ 3)
    (kk : ∀ (I' : Nat → Nat → Int32), cAf I I' → cS (sp_act F s u k a).2.1 1 I' → cU (sp_act F s u k a).2.2 65 I' → Q (some (.int (sp_act F s u k a).1)) (n, y, I', L, R)) : sm_W ex d 0 0 6 0 [some (.ref 54), some (.int (nI k)), some (.int a)] [] (n, y, I, L, R) Q := by
  have hok := hw.1
  have h7 : sMen s ≤ 7 := hok.1
  have h999 : sTerm s 0 ≤ 999 := hw.2.1
  have hus : ∀ x ∈ u, sMen x.2 ≤ 7 := fun x hx => (hwu.2 x hx).2.1.1.1
  -- a refusal, whatever was asked
  have no : ∀ (r : Int32) (I1 : Nat → Nat → Int32), sp_act F s u k a = (r, s, u) → cFt I I1 → Q (some (.int r)) (n, y, I1, L, R) := by
    intro r I1 he hf
    rw [he] at kk
    exact kk I1 hf.af (hf.S (mk1 hG) hs) (cU_kept (fun a j q => hf a j (by omega)) hu)
  -- what was kept, then what is done
  have keep : ∀ (I1 : Nat → Nat → Int32) (Q1 : sm_Q), cFt I I1 → (∀ I2, cAf I I2 → cS s 1 I2 → cU (sp_keep u (k, s)) 65 I2 → Q1 none (n, y, I2, L, R)) → sm_W ex 3 0 0 23 0 [some (.ref 65), some (.int (nI k)), some (.ref 1), none] [] (n, y, I1, L, R) Q1 := by
    intro I1 Q1 hf kq
    have hs1 := hf.S (mk1 hG) hs
    refine c_X4_keep (by omega) hG hs1 (cU_kept (fun a j q => hf a j (by omega)) hu) hwu.1 h7 hus ?_
    intro I2 f2 u2
    exact kq I2 (fun a j q1 q2 q3 q4 q5 q6 => (f2 a j q5 q6).trans (hf a j q1)) (cS_kept2 (fun a j q => f2 a j (by omega) (by omega)) hs1) u2
  refine w_X1_act_0 (d1 := 3) hG (by omega) (by omega) ?_
  by_cases hk3 : k = 3
  · subst hk3
    rw [if_pos (by decide)]
    refine c_X5_can3 (by omega) hE (mk1 hG).1 hs hok ?_
    refine w_X1_act_32 (d1 := 3) hG (by omega) ?_
    by_cases ht : sTerm s 0 < 999
    · rw [sm_b_t ht, if_neg (by decide)]
      have e : sp_act F s u 3 a = (nI (sp_hour F s).2, (sp_hour F s).1, sp_keep u (3, s)) := by unfold sp_act; rw [if_pos rfl, if_pos ht]
      rw [e] at kk
      refine keep I _ (cFt.rfl' I) ?_
      intro I2 f2 s2 u2
      refine w_X1_act_50 (d1 := 3) hG (by omega) ?_
      rw [if_pos (by decide)]
      refine c_X5_hour (by omega) hG (mk1 hG) (by omega) s2 hok (by omega) (f2.F hF) ?_
      intro I3 f3 s3
      refine w_X1_act_66 (w_X1_act_82 ?_)
      exact kk I3 (f2.trans f3.af) s3 (cU_kept (fun a j q => f3 a j (by omega) (by omega) (by omega) (by omega)) u2)
    · rw [sm_b_f ht, if_pos rfl]
      exact no (-3) I (by unfold sp_act; rw [if_pos rfl, if_neg ht]) (cFt.rfl' I)
  · rw [if_neg (by rw [sm_of 3, nI_eq (by omega) (by decide)]; exact hk3), hs.1]
    by_cases q1 : a < 0
    · rw [if_pos q1]
      exact no (-2) I (by unfold sp_act; rw [if_neg hk3, if_neg (fun z => absurd q1 (Int32.not_lt.mpr z.1))]) (cFt.rfl' I)
    rw [if_neg q1]
    by_cases q2 : nI (sMen s) ≤ a
    · rw [if_pos q2]
      exact no (-2) I (by unfold sp_act; rw [if_neg hk3, if_neg (fun z => absurd z.2 (Int32.not_lt.mpr q2))]) (cFt.rfl' I)
    rw [if_neg q2]
    have hall : 0 ≤ a ∧ a < nI (sMen s) := ⟨Int32.not_lt.mp q1, Int32.not_le.mp q2⟩
    obtain ⟨m, rfl, hm⟩ := nat_man h7 hall
    have hmc : (nI m).toNatClampNeg = m := nI_clamp (by omega)
    by_cases hk0 : k = 0
    · subst hk0
      refine c_X5_can0 (by omega) hG (mk1 hG) hs hok hm hF ?_
      intro I1 x f1 hx
      have hx := sp_canx hx
      refine w_X1_act_32 (d1 := 3) hG (by omega) ?_
      by_cases hc : sp_canb F s m = true
      · rw [if_pos hc] at hx
        rw [hx, if_neg (by decide)]
        have e : sp_act F s u 0 (nI m) = (nI (sp_notice F s m (sUp s)), sp_relieve s m, sp_keep u (0, s)) := by unfold sp_act; rw [if_neg hk3, if_pos hall, if_pos rfl, hmc, if_pos hc]
        rw [e] at kk
        refine keep I1 _ f1 ?_
        intro I2 f2 s2 u2
        refine w_X1_act_50 (d1 := 3) hG (by omega) ?_
        rw [if_neg (by decide)]
        refine c_X5_move0 (by omega) hG (mk1 hG) s2 hok hm (f2.F hF) ?_
        intro I3 f3 s3
        refine w_X1_act_82 ?_
        exact kk I3 (f2.trans f3.af) s3 (cU_kept (fun a j q => f3 a j (by omega) (by omega) (by omega) (by omega)) u2)
      · rw [if_neg hc] at hx
        rw [hx, if_pos rfl]
        exact no (-3) I1 (by unfold sp_act; rw [if_neg hk3, if_pos hall, if_pos rfl, hmc, if_neg hc]) f1
    by_cases hk1 : k = 1
    · subst hk1
      refine c_X5_can12 (dd := 1) (by omega) (Or.inl rfl) (mk1 hG).1 hs h7 hm ?_
      refine w_X1_act_32 (d1 := 3) hG (by omega) ?_
      by_cases hc : sCash s m = false
      · rw [sm_b_t (by rw [hc]; rfl), if_neg (by decide)]
        have e : sp_act F s u 1 (nI m) = (nI (sp_fit (sp_cashier s m)), sp_cashier s m, sp_keep u (1, s)) := by unfold sp_act; rw [if_neg hk3, if_pos hall, if_neg hk0, if_pos rfl, hmc, if_pos hc]
        rw [e] at kk
        refine keep I _ (cFt.rfl' I) ?_
        intro I2 f2 s2 u2
        refine w_X1_act_50 (d1 := 3) hG (by omega) ?_
        rw [if_neg (by decide)]
        refine c_X5_move1 (by omega) hG (mk1 hG) s2 hok hm ?_
        intro I3 f3 s3
        refine w_X1_act_82 ?_
        exact kk I3 (f2.trans f3.af) s3 (cU_kept (fun a j q => f3 a j (by omega) (by omega) (by omega) (by omega)) u2)
      · rw [sm_b_f (show ¬ (sCash s m = decide (1 = 2)) from fun z => hc z), if_pos rfl]
        exact no (-3) I (by unfold sp_act; rw [if_neg hk3, if_pos hall, if_neg hk0, if_pos rfl, hmc, if_neg hc]) (cFt.rfl' I)
    · obtain rfl : k = 2 := by omega
      refine c_X5_can12 (dd := 2) (by omega) (Or.inr rfl) (mk1 hG).1 hs h7 hm ?_
      refine w_X1_act_32 (d1 := 3) hG (by omega) ?_
      by_cases hc : sCash s m = true
      · rw [sm_b_t (by rw [hc]; rfl), if_neg (by decide)]
        have e : sp_act F s u 2 (nI m) = (nI (sp_fit (sp_pardon s m)), sp_pardon s m, sp_keep u (2, s)) := by unfold sp_act; rw [if_neg hk3, if_pos hall, if_neg hk0, if_neg hk1, hmc, if_pos hc]
        rw [e] at kk
        refine keep I _ (cFt.rfl' I) ?_
        intro I2 f2 s2 u2
        refine w_X1_act_50 (d1 := 3) hG (by omega) ?_
        rw [if_neg (by decide)]
        refine c_X5_move2 (by omega) hG (mk1 hG) s2 hok hm ?_
        intro I3 f3 s3
        refine w_X1_act_82 ?_
        exact kk I3 (f2.trans f3.af) s3 (cU_kept (fun a j q => f3 a j (by omega) (by omega) (by omega) (by omega)) u2)
      · rw [sm_b_f (show ¬ (sCash s m = decide (2 = 2)) from fun z => hc z), if_pos rfl]
        exact no (-3) I (by unfold sp_act; rw [if_neg hk3, if_pos hall, if_neg hk0, if_neg hk1, hmc, if_neg hc]) (cFt.rfl' I)
-- the model
def mAf (I I' : Nat → Nat → Int32) (L L' : Nat → Nat → Int64) : Prop := (∀ a j, ¬ (a = 123 ∧ (j = 38 ∨ j = 34 ∨ j = 8)) → a ≠ 144 → ¬ (a = 125 ∧ 4 ≤ j ∧ j < 24) → a ≠ 129 → ¬ (a = 128 ∧ j < 320) → I' a j = I a j) ∧ ∀ a j, a ≠ 143 → a ≠ 141 → ¬ (a = 123 ∧ (j = 39 ∨ j = 40)) → L' a j = L a j
theorem mAf.rfl' (I : Nat → Nat → Int32) (L : Nat → Nat → Int64) : mAf I I L L := ⟨fun _ _ _ _ _ _ _ => rfl, fun _ _ _ _ _ => rfl⟩
theorem mAf.trans {I I' I2 : Nat → Nat → Int32} {L L' L2 : Nat → Nat → Int64} (h1 : mAf I I' L L') (h2 : mAf I' I2 L' L2) : mAf I I2 L L2 := ⟨fun a j q1 q2 q3 q4 q5 => (h2.1 a j q1 q2 q3 q4 q5).trans (h1.1 a j q1 q2 q3 q4 q5), fun a j q1 q2 q3 => (h2.2 a j q1 q2 q3).trans (h1.2 a j q1 q2 q3)⟩
theorem mFm.af {I I' : Nat → Nat → Int32} {L L' : Nat → Nat → Int64} (h : mFm I I' L L') : mAf I I' L L' := ⟨fun a j q1 q2 q3 _ _ => h.1 a j (by omega) q2 q3, h.2⟩
theorem mAf.F {I I' : Nat → Nat → Int32} {L L' : Nat → Nat → Int64} {F : Option (Nat × Law)} (h : mAf I I' L L') (hF : mForce I F) : mForce I' F := mForce_r (fun j hj => h.1 125 j (by simp) (by simp) (fun z => hj z.2) (by simp) (by simp)) hF
theorem mAf.rem {I I' : Nat → Nat → Int32} {L : Nat → Nat → Int64} (h : ∀ a j, ¬ (a = 123 ∧ j = 8) → a ≠ 129 → ¬ (a = 128 ∧ j < 320) → I' a j = I a j) : mAf I I' L L := ⟨fun a j q1 q2 q3 q4 q5 => h a j (by omega) q4 q5, fun _ _ _ _ _ => rfl⟩
theorem mU_ext2 {u : List (Nat × St)} {I I' : Nat → Nat → Int32} (h16 : u.length ≤ 16) (h7 : ∀ x ∈ u, sMen x.2 ≤ 7) (h : ∀ a j, (a = 123 ∧ j = 8) ∨ a = 129 ∨ (a = 128 ∧ j < 320) → I' a j = I a j) (hs : mU u I) : mU u I' := by
  refine ⟨by rw [h 123 8 (by omega)]; exact hs.1, fun i x hi => ?_⟩
  have hl : i < u.length := (List.getElem?_eq_some_iff.mp hi).1
  have hx7 := h7 x (List.mem_of_getElem? hi)
  obtain ⟨a1, a2, a3, a4, a5⟩ := hs.2 i x hi
  refine ⟨by rw [h 129 i (by omega)]; exact a1, fun j hj => ?_, ?_, ?_, fun j hj => ?_⟩
  · show I' 128 _ = _; rw [h 128 _ (by omega)]; exact a2 j hj
  · show I' 128 _ = _; rw [h 128 _ (by omega)]; exact a3
  · show I' 128 _ = _; rw [h 128 _ (by omega)]; exact a4
  · show I' 128 _ = _ ∧ I' 128 _ = _; rw [h 128 _ (by omega), h 128 _ (by omega)]; exact a5 j hj
/-- what a contract of an act of the model says -/
def mAct (n : Nat) (y : sm_Y) (I : Nat → Nat → Int32) (L : Nat → Nat → Int64) (R : Nat → Nat → Option Nat) (F : Option (Nat × Law)) (s : St) (u : List (Nat × St)) (k : Nat) (a : Int32) (Q : sm_Q) : Prop := ∀ (I' : Nat → Nat → Int32) (L' : Nat → Nat → Int64), mAf I I' L L' → mS (sp_act F s u k a).2.1 (I' 125) → mU (sp_act F s u k a).2.2 I' → Q (some (.int (sp_act F s u k a).1)) (n, y, I', L', R)
theorem m_no {n k : Nat} {y : sm_Y} {I I1 : Nat → Nat → Int32} {L L1 : Nat → Nat → Int64} {R : Nat → Nat → Option Nat} {F : Option (Nat × Law)} {s : St} {u : List (Nat × St)} {a r : Int32} {Q : sm_Q} (hs : mS s (I 125)) (hu : mU u I) (hwu : wU s u) (kk : mAct n y I L R F s u k a Q) (he : sp_act F s u k a = (r, s, u)) (hf : mFt I I1 L L1) : Q (some (.int r)) (n, y, I1, L1, R) := by
  have := kk I1 L1 hf.m.af (by rw [he]; exact hf.S hs) (by rw [he]; exact mU_ext hwu (fun a j q => hf.1 a j (by omega)) hu)
  rw [he] at this
  exact this
theorem m_keep {ex : sm_O} {n k : Nat} {y : sm_Y} {I I1 : Nat → Nat → Int32} {L L1 : Nat → Nat → Int64} {R : Nat → Nat → Option Nat} {s : St} {u : List (Nat × St)} {d : Nat} {Q1 : sm_Q} (hd : 1 ≤ d) (hG : sm_G y R) (hw : wS s) (hs : mS s (I 125)) (hu : mU u I) (hwu : wU s u) (hf : mFt I I1 L L1) (kq : ∀ I2, mAf I I2 L L1 → mS s (I2 125) → mU (sp_keep u (k, s)) I2 → I2 123 20 = I 123 20 → Q1 none (n, y, I2, L1, R)) : sm_W ex d 0 0 133 0 [some (.ref 123), some (.int (nI k)), none] [] (n, y, I1, L1, R) Q1 := by
  refine c_X11_remember hd hG (hf.S hs) (mU_ext hwu (fun a j q => hf.1 a j (by omega)) hu) hwu.1 hw.1.1 (fun x hx => (hwu.2 x hx).2.1.1.1) ?_
  intro I2 f2 u2
  exact kq I2 (hf.m.af.trans (mAf.rem f2)) (mS_ext (fun j q => f2 125 j (by omega) (by omega) (by omega)) hw.1.1 (hf.S hs)) u2 ((f2 123 20 (by omega) (by omega) (by omega)).trans (hf.1 123 20 (by omega)))
theorem sp_keep_w {s : St} {u : List (Nat × St)} {k : Nat} (hs : wS s) (hu : wU s u) : (sp_keep u (k, s)).length ≤ 16 ∧ ∀ x ∈ sp_keep u (k, s), sMen x.2 ≤ 7 := by
  unfold sp_keep
  refine ⟨?_, fun x hx => ?_⟩
  · rw [List.length_append]
    split
    · show u.length + 1 ≤ 16
      omega
    · rw [List.length_drop]
      show u.length - 1 + 1 ≤ 16
      have := hu.1
      omega
  · rcases List.mem_append.mp hx with q | q
    · have hx : x ∈ u := by
        split at q
        · exact q
        · exact List.mem_of_mem_drop q
      exact (hu.2 x hx).2.1.1.1
    · rcases List.mem_singleton.mp q with rfl
      exact hs.1.1
set_option maxHeartbeats 1000000 in
theorem c_X11_relieveNow {ex : sm_O} {n : Nat} {y : sm_Y} {I : Nat → Nat → Int32} {L : Nat → Nat → Int64} {R : Nat → Nat → Option Nat} {Q : sm_Q} {d : Nat} {a : Int32} {s : St} {u : List (Nat × St)} {F : Option (Nat × Law)} (hd : 8 ≤ d) (hG : sm_G y R) (hs : mS s (I 125)) (hw : wS s) (hu : mU u I) (hwu : wU s u) (h20 : I 123 20 = 0) (hF : mForce I F) (kk : mAct n y I L R F s u 0 a Q) : sm_W ex d 0 0 191 0 [some (.ref 123), some (.int a)] [] (n, y, I, L, R) Q := by
  have hok := hw.1
  have h7 : sMen s ≤ 7 := hok.1
  refine w_X11_relieveNow_0 (d1 := 7) hG (by omega) (by omega) ?_
  rw [hs.1]
  by_cases hall : 0 ≤ a ∧ a < nI (sMen s)
  · rw [if_pos hall]
    obtain ⟨m, rfl, hm⟩ := nat_man h7 hall
    have hmc : (nI m).toNatClampNeg = m := nI_clamp (by omega)
    refine c_X11_canRelieve (s := s) (F := F) (by omega) hG hs hok hm h20 hF ?_
    intro I1 L1 x f1 hx
    have hx := sp_canx hx
    refine w_X11_relieveNow_16 (d1 := 7) hG (by omega) ?_
    by_cases hc : sp_canb F s m = true
    · rw [if_pos hc] at hx
      rw [hx, if_neg (by decide)]
      have e : sp_act F s u 0 (nI m) = (nI (sp_notice F s m (sUp s)), sp_relieve s m, sp_keep u (0, s)) := by unfold sp_act; rw [if_neg (by decide), if_pos hall, if_pos rfl, hmc, if_pos hc]
      refine m_keep (k := 0) (by omega) hG hw hs hu hwu f1 ?_
      intro I2 f2 s2 u2 e20
      refine w_X11_relieveNow_27 (d1 := 7) hG (by omega) ?_
      refine c_X11_relieveIt (s := s) (F := F) (by omega) hG s2 hok hm (e20.trans h20) (f2.F hF) ?_
      intro I3 L3 f3 s3
      refine w_X11_relieveNow_32 ?_
      have kw := sp_keep_w (k := 0) hw hwu
      have := kk I3 L3 (f2.trans f3.af) (by rw [e]; exact s3) (by rw [e]; exact mU_ext2 kw.1 kw.2 (fun a j q => f3.1 a j (by omega) (by omega) (by omega)) u2)
      rw [e] at this
      exact this
    · rw [if_neg hc] at hx
      rw [hx, if_pos rfl]
      exact m_no hs hu hwu kk (by unfold sp_act; rw [if_neg (by decide), if_pos hall, if_pos rfl, hmc, if_neg hc]) f1
  · rw [if_neg hall]
    exact m_no hs hu hwu kk (by unfold sp_act; rw [if_neg (by decide), if_neg hall]) (mFt.rfl' I L)
theorem c_fitNow {ex : sm_O} {n : Nat} {y : sm_Y} {I : Nat → Nat → Int32} {L : Nat → Nat → Int64} {R : Nat → Nat → Option Nat} {Q : sm_Q} {d d1 : Nat} {s : St} (hd : 1 ≤ d1) (hG : sm_G y R) (hs : mS s (I 125)) (h7 : sMen s ≤ 7) (Q2 : sm_Q) (kk : Q2 (some (.int (nI (sp_bits (fun i => !sCash s i) (sMen s))))) (n, y, I, L, R)) : sm_W ex d1 0 0 139 0 [some (.ref 123), none, none] [] (n, y, I, L, R) Q2 := c_X11_fitBits hd hG hs h7 kk
set_option maxHeartbeats 1000000 in
theorem c_X11_sneezeNow {ex : sm_O} {n : Nat} {y : sm_Y} {I : Nat → Nat → Int32} {L : Nat → Nat → Int64} {R : Nat → Nat → Option Nat} {Q : sm_Q} {d : Nat} {a : Int32} {s : St} {u : List (Nat × St)} {F : Option (Nat × Law)} (hd : 8 ≤ d) (hG : sm_G y R) (hs : mS s (I 125)) (hw : wS s) (hu : mU u I) (hwu : wU s u) (kk : mAct n y I L R F s u 1 a Q) : sm_W ex d 0 0 194 0 [some (.ref 123), some (.int a)] [] (n, y, I, L, R) Q := by
  have hok := hw.1
  have h7 : sMen s ≤ 7 := hok.1
  refine w_X11_sneezeNow_0 (d1 := 7) hG (by omega) (by omega) ?_
  rw [hs.1]
  by_cases hall : 0 ≤ a ∧ a < nI (sMen s)
  · rw [if_pos hall]
    obtain ⟨m, rfl, hm⟩ := nat_man h7 hall
    have hmc : (nI m).toNatClampNeg = m := nI_clamp (by omega)
    refine ⟨sm_ci17 (by omega) (by decide), ?_⟩
    rw [sm_cx17 (by omega), (hs.2.1 m hm).2.2.2]
    cases hc : sCash s m with
    | false =>
      rw [if_pos (by decide)]
      have e : sp_act F s u 1 (nI m) = (nI (sp_fit (sp_cashier s m)), sp_cashier s m, sp_keep u (1, s)) := by unfold sp_act; rw [if_neg (by decide), if_pos hall, if_neg (by decide), if_pos rfl, hmc, if_pos hc]
      refine m_keep (k := 1) (by omega) hG hw hs hu hwu (mFt.rfl' I L) ?_
      intro I2 f2 s2 u2 e20
      refine w_X11_sneezeNow_27 (d1 := 7) hG (by omega) ?_
      refine c_X11_cashier (s := s) hG s2 hok hm ?_
      intro I3 f3 s3
      refine w_X11_sneezeNow_32 (d1 := 7) hG (by omega) ?_
      refine c_X11_fitBits (s := sp_cashier s m) (by omega) hG s3 h7 ?_
      refine w_X11_sneezeNow_36 (d1 := 7) (by omega) ?_
      refine c_X11_many h7 ?_
      refine w_X11_sneezeNow_39 ?_
      have kw := sp_keep_w (k := 1) hw hwu
      have := kk I3 L (f2.trans f3.af) (by rw [e]; exact s3) (by rw [e]; exact mU_ext2 kw.1 kw.2 (fun a j q => f3.1 a j (by omega) (by omega) (by omega)) u2)
      rw [e] at this
      exact this
    | true =>
      rw [if_neg (by decide)]
      exact m_no hs hu hwu kk (by unfold sp_act; rw [if_neg (by decide), if_pos hall, if_neg (by decide), if_pos rfl, hmc, if_neg (by rw [hc]; decide)]) (mFt.rfl' I L)
  · rw [if_neg hall]
    exact m_no hs hu hwu kk (by unfold sp_act; rw [if_neg (by decide), if_neg hall]) (mFt.rfl' I L)
set_option maxHeartbeats 1000000 in
theorem c_X11_pardonNow {ex : sm_O} {n : Nat} {y : sm_Y} {I : Nat → Nat → Int32} {L : Nat → Nat → Int64} {R : Nat → Nat → Option Nat} {Q : sm_Q} {d : Nat} {a : Int32} {s : St} {u : List (Nat × St)} {F : Option (Nat × Law)} (hd : 8 ≤ d) (hG : sm_G y R) (hs : mS s (I 125)) (hw : wS s) (hu : mU u I) (hwu : wU s u) (kk : mAct n y I L R F s u 2 a Q) : sm_W ex d 0 0 197 0 [some (.ref 123), some (.int a)] [] (n, y, I, L, R) Q := by
  have hok := hw.1
  have h7 : sMen s ≤ 7 := hok.1
  refine w_X11_pardonNow_0 (d1 := 7) hG (by omega) (by omega) ?_
  rw [hs.1]
  by_cases hall : 0 ≤ a ∧ a < nI (sMen s)
  · rw [if_pos hall]
    obtain ⟨m, rfl, hm⟩ := nat_man h7 hall
    have hmc : (nI m).toNatClampNeg = m := nI_clamp (by omega)
    refine ⟨sm_ci17 (by omega) (by decide), ?_⟩
    rw [sm_cx17 (by omega), (hs.2.1 m hm).2.2.2]
    cases hc : sCash s m with
    | true =>
      rw [if_neg (by decide)]
      have e : sp_act F s u 2 (nI m) = (nI (sp_fit (sp_pardon s m)), sp_pardon s m, sp_keep u (2, s)) := by unfold sp_act; rw [if_neg (by decide), if_pos hall, if_neg (by decide), if_neg (by decide), hmc, if_pos hc]
      refine m_keep (k := 2) (by omega) hG hw hs hu hwu (mFt.rfl' I L) ?_
      intro I2 f2 s2 u2 e20
      refine w_X11_pardonNow_27 (d1 := 7) hG (by omega) ?_
      refine c_X11_pardonIt (s := s) hG s2 hok hm ?_
      intro I3 f3 s3
      refine w_X11_pardonNow_32 (d1 := 7) hG (by omega) ?_
      refine c_X11_fitBits (s := sp_pardon s m) (by omega) hG s3 h7 ?_
      refine w_X11_pardonNow_36 (d1 := 7) (by omega) ?_
      refine c_X11_many h7 ?_
      refine w_X11_pardonNow_39 ?_
      have kw := sp_keep_w (k := 2) hw hwu
      have := kk I3 L (f2.trans f3.af) (by rw [e]; exact s3) (by rw [e]; exact mU_ext2 kw.1 kw.2 (fun a j q => f3.1 a j (by omega) (by omega) (by omega)) u2)
      rw [e] at this
      exact this
    | false =>
      rw [if_pos (by decide)]
      exact m_no hs hu hwu kk (by unfold sp_act; rw [if_neg (by decide), if_pos hall, if_neg (by decide), if_neg (by decide), hmc, if_neg (by rw [hc]; decide)]) (mFt.rfl' I L)
  · rw [if_neg hall]
    exact m_no hs hu hwu kk (by unfold sp_act; rw [if_neg (by decide), if_neg hall]) (mFt.rfl' I L)
set_option maxHeartbeats 1000000 in
theorem c_X11_passNow {ex : sm_O} {n : Nat} {y : sm_Y} {I : Nat → Nat → Int32} {L : Nat → Nat → Int64} {R : Nat → Nat → Option Nat} {Q : sm_Q} {d : Nat} {a : Int32} {s : St} {u : List (Nat × St)} {F : Option (Nat × Law)} (hd : 8 ≤ d) (hG : sm_G y R) (hs : mS s (I 125)) (hw : wS s) (hu : mU u I) (hwu : wU s u) (h20 : I 123 20 = 0) (hF : mForce I F) (kk : mAct n y I L R F s u 3 a Q) : sm_W ex d 0 0 200 0 [some (.ref 123)] [] (n, y, I, L, R) Q := by
  have hok := hw.1
  have h999 : sTerm s 0 ≤ 999 := hw.2.1
  refine w_X11_passNow_0 (d1 := 7) hG (by omega) ?_
  have e4 : I 125 4 = nI (sTerm s 0) := hs.2.2.2.2 0 (by decide)
  rw [e4]
  by_cases ht : sTerm s 0 < 999
  · rw [if_neg (by rw [sm_of 999, nI_eq (by omega) (by decide)]; omega)]
    have e : sp_act F s u 3 a = (nI (sp_hour F s).2, (sp_hour F s).1, sp_keep u (3, s)) := by unfold sp_act; rw [if_pos rfl, if_pos ht]
    refine m_keep (k := 3) (by omega) hG hw hs hu hwu (mFt.rfl' I L) ?_
    intro I2 f2 s2 u2 e20
    refine w_X11_passNow_20 (d1 := 7) hG (by omega) ?_
    refine c_X11_passIt (s := s) (F := F) (by omega) hG s2 hok (by omega) (e20.trans h20) (f2.F hF) ?_
    intro I3 L3 f3 s3
    refine w_X11_passNow_24 ?_
    have kw := sp_keep_w (k := 3) hw hwu
    have := kk I3 L3 (f2.trans f3.af) (by rw [e]; exact s3) (by rw [e]; exact mU_ext2 kw.1 kw.2 (fun a j q => f3.1 a j (by omega) (by omega) (by omega)) u2)
    rw [e] at this
    exact this
  · rw [if_pos (by rw [sm_of 999, nI_eq (by omega) (by decide)]; omega)]
    exact m_no hs hu hwu kk (by unfold sp_act; rw [if_pos rfl, if_neg ht]) (mFt.rfl' I L)
-- the public ones
def gAc (g : GG) (s : St) (u : List (Nat × St)) : GG := gUn (gKe g (s, gP g, gB g)) u
def f_act (g : GG) (k : Nat) (a : Int32) : Int32 × GG := if (sp_act (bF (gB g)) (gS g) (gU g) k a).1 < 0 then ((sp_act (bF (gB g)) (gS g) (gU g) k a).1, gRe g (-(sp_act (bF (gB g)) (gS g) (gU g) k a).1).toNatClampNeg) else ((sp_act (bF (gB g)) (gS g) (gU g) k a).1, gSt (gAc g (sp_act (bF (gB g)) (gS g) (gU g) k a).2.1 (sp_act (bF (gB g)) (gS g) (gU g) k a).2.2) 0)
theorem Wf_gac {g : GG} (hw : Wf g) {s : St} {u : List (Nat × St)} (hs : wS s) (hu : wU s u) : Wf (gAc g s u) := ⟨⟨hs, hw.1.2⟩, hu, hw.2.2⟩
theorem Wf_act {g : GG} (hw : Wf g) (k : Nat) (a : Int32) : Wf (f_act g k a).2 := by
  unfold f_act
  have := sp_act_w (F := bF (gB g)) k a hw.1.1 hw.2.1
  split
  · exact Wf_re hw _
  · exact Wf_st (Wf_gac hw this.1 this.2.1) 0
theorem CI_af {g : GG} {n : Nat} {y : sm_Y} {I I' : Nat → Nat → Int32} {R : Nat → Nat → Option Nat} {s : St} {u : List (Nat × St)} (hw : Wf g) (hc : CI g n y I R) (hf : cAf I I') (hs : cS s 1 I') (hu : cU u 65 I') : CIb (gAc g s u) n y I' R :=
  ⟨hc.1, hc.2.1, hs, cP_kept (fun a j q => hf a j (by omega) (by omega) (by omega) (by omega) (by omega) (by omega)) hc.2.2.2.1, cB_kept hw.1.2.2.1 (fun a j q => hf a j (by omega) (by omega) (by omega) (by omega) (by omega) (by omega)) hc.2.2.2.2.1, hu, cT_kept (fun a j q => hf a j (by omega) (by omega) (by omega) (by omega) (by omega) (by omega)) hc.2.2.2.2.2.2.1, cN_kept (fun a j q => hf a j (by omega) (by omega) (by omega) (by omega) (by omega) (by omega)) hc.2.2.2.2.2.2.2.1, cDr_kept (fun a j q => hf a j (by omega) (by omega) (by omega) (by omega) (by omega) (by omega)) hc.2.2.2.2.2.2.2.2.1, cIm_kept hw.2.2.2.1 (fun a j q => hf a j (by omega) (by omega) (by omega) (by omega) (by omega) (by omega)) hc.2.2.2.2.2.2.2.2.2.1⟩
theorem CI_af0 {g : GG} {n : Nat} {y : sm_Y} {I I' : Nat → Nat → Int32} {R : Nat → Nat → Option Nat} (hw : Wf g) (hc : CI g n y I R) (hf : cAf I I') (hs : cS (gS g) 1 I') (hu : cU (gU g) 65 I') : CI g n y I' R := by
  obtain ⟨a1, a2, a3, a4, a5, a6, a7, a8, a9, a10⟩ := CI_af (s := gS g) (u := gU g) hw hc hf hs hu
  exact ⟨a1, a2, a3, a4, a5, a6, a7, a8, a9, a10, cCa_kept (fun a j q => hf a j (by omega) (by omega) (by omega) (by omega) (by omega) (by omega)) hc.2.2.2.2.2.2.2.2.2.2⟩
theorem cKeep_af {I I' : Nat → Nat → Int32} {L : Nat → Nat → Int64} (h : cAf I I') : cKeep I I' L L := cKeep_c (fun a j q => h a j (by omega) (by omega) (by omega) (by omega) (by omega) (by omega))
theorem c_X10_settledN {ex : sm_O} {n : Nat} {y : sm_Y} {I : Nat → Nat → Int32} {L : Nat → Nat → Int64} {R : Nat → Nat → Option Nat} {Q : sm_Q} {d j : Nat} {a : Int32} (hd : 1 ≤ d) (hG : sm_G y R) (hj : 1 ≤ j ∧ j < 7) (ha : a = -(nI j)) (k : Q (some (.int a)) (n, y, refI j I, L, R)) : sm_W ex d 0 0 120 0 [some (.ref 0), some (.int a)] [] (n, y, I, L, R) Q := by
  refine w_X10_settled_0 (d1 := 0) hG (by omega) ?_
  rw [if_neg (by rw [ha]; exact neg_nI_lt hj)]
  refine c_X10_refused hG hj ha ?_
  exact w_X10_settled_9 (w_X10_settled_17 k)
theorem c_X10_settledP {ex : sm_O} {n : Nat} {y : sm_Y} {I : Nat → Nat → Int32} {L : Nat → Nat → Int64} {R : Nat → Nat → Option Nat} {Q : sm_Q} {d : Nat} {a : Int32} (hd : 1 ≤ d) (hG : sm_G y R) (ha : 0 ≤ a) (k : Q (some (.int a)) (n, y, accI I, L, R)) : sm_W ex d 0 0 120 0 [some (.ref 0), some (.int a)] [] (n, y, I, L, R) Q := by
  refine w_X10_settled_0 (d1 := 0) hG (by omega) ?_
  rw [if_pos ha]
  refine c_X10_accepted hG ?_
  exact w_X10_settled_17 k
theorem CI_settled {ex : sm_O} {d k : Nat} {g : GG} {n : Nat} {y : sm_Y} {I I1 : Nat → Nat → Int32} {L : Nat → Nat → Int64} {R : Nat → Nat → Option Nat} {Q : sm_Q} {a : Int32} (hd : 1 ≤ d) (hw : Wf g) (hc : CI g n y I R) (f1 : cAf I I1) (s1 : cS (sp_act (bF (gB g)) (gS g) (gU g) k a).2.1 1 I1) (u1 : cU (sp_act (bF (gB g)) (gS g) (gU g) k a).2.2 65 I1) (kk : ∀ (I' : Nat → Nat → Int32) (L' : Nat → Nat → Int64), CI (f_act g k a).2 n y I' R → cKeep I I' L L' → Q (some (.int (f_act g k a).1)) (n, y, I', L', R)) : sm_W ex d 0 0 120 0 [some (.ref 0), some (.int (sp_act (bF (gB g)) (gS g) (gU g) k a).1)] [] (n, y, I1, L, R) Q := by
  have h7 : sMen (gS g) ≤ 7 := hw.1.1.1.1
  have hwa := sp_act_w (F := bF (gB g)) k a hw.1.1 hw.2.1
  unfold f_act at kk
  rcases sp_act_r (F := bF (gB g)) (s := gS g) (u := gU g) k a h7 with (e | e) | ⟨r, hr, e⟩
  · rw [e] at s1 u1 ⊢
    rw [e] at kk
    dsimp only at kk s1 u1 ⊢
    rw [if_pos (by decide), show (-(-2 : Int32)).toNatClampNeg = 2 by decide] at kk
    refine c_X10_settledN (j := 2) hd hc.2.1 (by omega) (by decide) ?_
    exact kk _ L (CI_ref hw (CI_af0 hw hc f1 s1 u1) (by omega)) ((cKeep_af f1).trans (cKeep_ref 2 I1 L))
  · rw [e] at s1 u1 ⊢
    rw [e] at kk
    dsimp only at kk s1 u1 ⊢
    rw [if_pos (by decide), show (-(-3 : Int32)).toNatClampNeg = 3 by decide] at kk
    refine c_X10_settledN (j := 3) hd hc.2.1 (by omega) (by decide) ?_
    exact kk _ L (CI_ref hw (CI_af0 hw hc f1 s1 u1) (by omega)) ((cKeep_af f1).trans (cKeep_ref 3 I1 L))
  · rw [if_neg (by rw [e]; exact nI_pos (by omega))] at kk
    refine c_X10_settledP hd hc.2.1 (by rw [e]; exact nI_pos' (by omega)) ?_
    exact kk _ L (CI_acc (Wf_gac hw hwa.1 hwa.2.1) (CI_af hw hc f1 s1 u1)) ((cKeep_af f1).trans (cKeep_acc I1 L))
theorem C_relieve {ex : sm_O} {d : Nat} {g : GG} {a : Int32} (hd : 5 ≤ d) (hE : exOK ex) (hw : Wf g) : CM ex d 88 [some (.ref 0), some (.int a)] g (f_act g 0 a).1 (f_act g 0 a).2 := by
  intro n y I L R Q hc k
  refine w_X10_relieve_0 (d1 := 4) hc.2.1 (by omega) ?_
  refine c_X1_act (k := 0) (s := gS g) (u := gU g) (F := bF (gB g)) (Nat.le_refl 4) hE hc.2.1 hc.2.2.1 hw.1.1 hc.2.2.2.2.2.1 hw.2.1 (hc.F hw) (by decide) ?_
  intro I1 f1 s1 u1
  refine w_X10_relieve_10 (d1 := 4) hc.2.1 (by omega) ?_
  refine CI_settled (by omega) hw hc f1 s1 u1 ?_
  intro I' L' c' p'
  exact w_X10_relieve_13 (k I' L' c' p')
theorem C_sneeze {ex : sm_O} {d : Nat} {g : GG} {a : Int32} (hd : 5 ≤ d) (hE : exOK ex) (hw : Wf g) : CM ex d 89 [some (.ref 0), some (.int a)] g (f_act g 1 a).1 (f_act g 1 a).2 := by
  intro n y I L R Q hc k
  refine w_X10_sneeze_0 (d1 := 4) hc.2.1 (by omega) ?_
  refine c_X1_act (k := 1) (s := gS g) (u := gU g) (F := bF (gB g)) (Nat.le_refl 4) hE hc.2.1 hc.2.2.1 hw.1.1 hc.2.2.2.2.2.1 hw.2.1 (hc.F hw) (by decide) ?_
  intro I1 f1 s1 u1
  refine w_X10_sneeze_10 (d1 := 4) hc.2.1 (by omega) ?_
  refine CI_settled (by omega) hw hc f1 s1 u1 ?_
  intro I' L' c' p'
  exact w_X10_sneeze_13 (k I' L' c' p')
theorem C_pardon {ex : sm_O} {d : Nat} {g : GG} {a : Int32} (hd : 5 ≤ d) (hE : exOK ex) (hw : Wf g) : CM ex d 90 [some (.ref 0), some (.int a)] g (f_act g 2 a).1 (f_act g 2 a).2 := by
  intro n y I L R Q hc k
  refine w_X10_pardon_0 (d1 := 4) hc.2.1 (by omega) ?_
  refine c_X1_act (k := 2) (s := gS g) (u := gU g) (F := bF (gB g)) (Nat.le_refl 4) hE hc.2.1 hc.2.2.1 hw.1.1 hc.2.2.2.2.2.1 hw.2.1 (hc.F hw) (by decide) ?_
  intro I1 f1 s1 u1
  refine w_X10_pardon_10 (d1 := 4) hc.2.1 (by omega) ?_
  refine CI_settled (by omega) hw hc f1 s1 u1 ?_
  intro I' L' c' p'
  exact w_X10_pardon_13 (k I' L' c' p')
theorem C_pass {ex : sm_O} {d : Nat} {g : GG} (hd : 5 ≤ d) (hE : exOK ex) (hw : Wf g) : CM ex d 91 [some (.ref 0)] g (f_act g 3 (-1)).1 (f_act g 3 (-1)).2 := by
  intro n y I L R Q hc k
  refine w_X10_pass_0 (d1 := 4) hc.2.1 (by omega) ?_
  refine c_X1_act (k := 3) (s := gS g) (u := gU g) (F := bF (gB g)) (Nat.le_refl 4) hE hc.2.1 hc.2.2.1 hw.1.1 hc.2.2.2.2.2.1 hw.2.1 (hc.F hw) (by decide) ?_
  intro I1 f1 s1 u1
  refine w_X10_pass_10 (d1 := 4) hc.2.1 (by omega) ?_
  refine CI_settled (by omega) hw hc f1 s1 u1 ?_
  intro I' L' c' p'
  exact w_X10_pass_13 (k I' L' c' p')
theorem MI_af {g : GG} {I I' : Nat → Nat → Int32} {L L' : Nat → Nat → Int64} {s : St} {u : List (Nat × St)} (hw : Wf g) (hm : MI g I L) (hf : mAf I I' L L') (hs : mS s (I' 125)) (hu : mU u I') : MI (gAc g s u) I' L' := by
  obtain ⟨h1, h2, h3, h4, h5, h6, h7, h8, h9⟩ := hm
  refine ⟨hs, mP_ext (fun j q => hf.1 125 j (by omega) (by omega) (by omega) (by omega) (by omega)) hw.1.2.1.1 h2, mB_ext (fun j q => hf.1 125 j (by omega) (by omega) (by omega) (by omega) (by omega)) hw.1.2.2.1 h3, hu, mT_ext (fun a j q => hf.1 a j (by omega) (by omega) (by omega) (by omega) (by omega)) h5, mN_ext (fun a j q => hf.1 a j (by omega) (by omega) (by omega) (by omega) (by omega)) h6, mDr_ext (fun a j q => hf.1 a j (by omega) (by omega) (by omega) (by omega) (by omega)) h7, mIm_ext (fun a j q => hf.1 a j (by omega) (by omega) (by omega) (by omega) (by omega)) h8, ?_⟩
  have e : ∀ a, a = 138 ∨ a = 139 ∨ a = 140 ∨ a = 153 → L' a = L a := fun a q => funext fun j => hf.2 a j (by omega) (by omega) (by omega)
  unfold mWs
  rw [e 138 (by omega), e 139 (by omega), e 140 (by omega), e 153 (by omega)]
  exact h9
theorem mKeep_af {I I' : Nat → Nat → Int32} {L L' : Nat → Nat → Int64} (h : mAf I I' L L') : mKeep I I' := fun a j q => h.1 a j (by omega) (by omega) (by omega) (by omega) (by omega)
theorem MI_told {ex : sm_O} {d k : Nat} {g : GG} {n : Nat} {y : sm_Y} {I I1 : Nat → Nat → Int32} {L L1 : Nat → Nat → Int64} {R : Nat → Nat → Option Nat} {Q : sm_Q} {a : Int32} (hG : sm_G y R) (hw : Wf g) (hm : MI g I L) (f1 : mAf (sm_st I 123 0 0) I1 L L1) (s1 : mS (sp_act (bF (gB g)) (gS g) (gU g) k a).2.1 (I1 125)) (u1 : mU (sp_act (bF (gB g)) (gS g) (gU g) k a).2.2 I1) (kk : ∀ (I' : Nat → Nat → Int32) (L' : Nat → Nat → Int64), MI (f_act g k a).2 I' L' → mKeep I I' → Q (some (.int (f_act g k a).1)) (n, y, I', L', R)) : sm_W ex d 0 0 128 0 [some (.ref 123), some (.int (sp_act (bF (gB g)) (gS g) (gU g) k a).1)] [] (n, y, I1, L1, R) Q := by
  have h7 : sMen (gS g) ≤ 7 := hw.1.1.1.1
  unfold f_act at kk
  have hm1 := MI_af hw (MI_thr hm) f1 s1 u1
  have kp := (mKeep_thr I).trans (mKeep_af f1)
  rcases sp_act_r (F := bF (gB g)) (s := gS g) (u := gU g) k a h7 with (e | e) | ⟨r, hr, e⟩
  · rw [e] at hm1 ⊢
    rw [e] at kk
    dsimp only at kk hm1 ⊢
    rw [if_pos (by decide), show (-(-2 : Int32)).toNatClampNeg = 2 by decide] at kk
    refine c_X11_tellN (j := 2) hG (by omega) (by decide) ?_
    exact kk _ L1 (MI_ref (g := g) hm1) (kp.trans (mKeep_rfu 2 I1))
  · rw [e] at hm1 ⊢
    rw [e] at kk
    dsimp only at kk hm1 ⊢
    rw [if_pos (by decide), show (-(-3 : Int32)).toNatClampNeg = 3 by decide] at kk
    refine c_X11_tellN (j := 3) hG (by omega) (by decide) ?_
    exact kk _ L1 (MI_ref (g := g) hm1) (kp.trans (mKeep_rfu 3 I1))
  · rw [if_neg (by rw [e]; exact nI_pos (by omega))] at kk
    refine c_X11_tellP hG (by rw [e]; exact nI_pos' (by omega)) ?_
    exact kk _ L1 (MI_acc hm1) (kp.trans (mKeep_tel I1))
theorem M_relieve {ex : sm_O} {d : Nat} {g : GG} {a : Int32} (hd : 9 ≤ d) (hw : Wf g) : MM ex d 192 [some (.ref 123), some (.int a)] g (f_act g 0 a).1 (f_act g 0 a).2 := by
  intro n y I L R Q hG hm k
  have s0 : mS (gS g) ((sm_st I 123 0 0) 125) := mS_ext (fun j _ => sm_st_o _ _ (by decide)) hw.1.1.1.1 hm.1
  have u0 : mU (gU g) (sm_st I 123 0 0) := (MI_thr hm).2.2.2.1
  have h20 : (sm_st I 123 0 0) 123 20 = 0 := (MI_thr hm).2.2.2.2.2.1.2.2.2.2.1
  have hF : mForce (sm_st I 123 0 0) (bF (gB g)) := (MI_thr hm).F hw
  refine w_X11_relieve_0 (d1 := 8) hG (by omega) ?_
  refine c_X11_relieveNow (s := gS g) (u := gU g) (F := bF (gB g)) (Nat.le_refl 8) hG s0 hw.1.1 u0 hw.2.1 h20 hF ?_
  intro I1 L1 f1 s1 u1
  refine w_X11_relieve_11 (d1 := 8) hG (by omega) ?_
  refine MI_told (k := 0) hG hw hm f1 s1 u1 ?_
  intro I' L' c' p'
  exact w_X11_relieve_14 (k I' L' c' p')
theorem M_sneeze {ex : sm_O} {d : Nat} {g : GG} {a : Int32} (hd : 9 ≤ d) (hw : Wf g) : MM ex d 195 [some (.ref 123), some (.int a)] g (f_act g 1 a).1 (f_act g 1 a).2 := by
  intro n y I L R Q hG hm k
  have s0 : mS (gS g) ((sm_st I 123 0 0) 125) := mS_ext (fun j _ => sm_st_o _ _ (by decide)) hw.1.1.1.1 hm.1
  have u0 : mU (gU g) (sm_st I 123 0 0) := (MI_thr hm).2.2.2.1
  have h20 : (sm_st I 123 0 0) 123 20 = 0 := (MI_thr hm).2.2.2.2.2.1.2.2.2.2.1
  have hF : mForce (sm_st I 123 0 0) (bF (gB g)) := (MI_thr hm).F hw
  refine w_X11_sneeze_0 (d1 := 8) hG (by omega) ?_
  refine c_X11_sneezeNow (s := gS g) (u := gU g) (F := bF (gB g)) (Nat.le_refl 8) hG s0 hw.1.1 u0 hw.2.1 ?_
  intro I1 L1 f1 s1 u1
  refine w_X11_sneeze_11 (d1 := 8) hG (by omega) ?_
  refine MI_told (k := 1) hG hw hm f1 s1 u1 ?_
  intro I' L' c' p'
  exact w_X11_sneeze_14 (k I' L' c' p')
theorem M_pardon {ex : sm_O} {d : Nat} {g : GG} {a : Int32} (hd : 9 ≤ d) (hw : Wf g) : MM ex d 198 [some (.ref 123), some (.int a)] g (f_act g 2 a).1 (f_act g 2 a).2 := by
  intro n y I L R Q hG hm k
  have s0 : mS (gS g) ((sm_st I 123 0 0) 125) := mS_ext (fun j _ => sm_st_o _ _ (by decide)) hw.1.1.1.1 hm.1
  have u0 : mU (gU g) (sm_st I 123 0 0) := (MI_thr hm).2.2.2.1
  have h20 : (sm_st I 123 0 0) 123 20 = 0 := (MI_thr hm).2.2.2.2.2.1.2.2.2.2.1
  have hF : mForce (sm_st I 123 0 0) (bF (gB g)) := (MI_thr hm).F hw
  refine w_X11_pardon_0 (d1 := 8) hG (by omega) ?_
  refine c_X11_pardonNow (s := gS g) (u := gU g) (F := bF (gB g)) (Nat.le_refl 8) hG s0 hw.1.1 u0 hw.2.1 ?_
  intro I1 L1 f1 s1 u1
  refine w_X11_pardon_11 (d1 := 8) hG (by omega) ?_
  refine MI_told (k := 2) hG hw hm f1 s1 u1 ?_
  intro I' L' c' p'
  exact w_X11_pardon_14 (k I' L' c' p')
theorem M_pass {ex : sm_O} {d : Nat} {g : GG} (hd : 9 ≤ d) (hw : Wf g) : MM ex d 201 [some (.ref 123)] g (f_act g 3 (-1)).1 (f_act g 3 (-1)).2 := by
  intro n y I L R Q hG hm k
  have s0 : mS (gS g) ((sm_st I 123 0 0) 125) := mS_ext (fun j _ => sm_st_o _ _ (by decide)) hw.1.1.1.1 hm.1
  have u0 : mU (gU g) (sm_st I 123 0 0) := (MI_thr hm).2.2.2.1
  have h20 : (sm_st I 123 0 0) 123 20 = 0 := (MI_thr hm).2.2.2.2.2.1.2.2.2.2.1
  have hF : mForce (sm_st I 123 0 0) (bF (gB g)) := (MI_thr hm).F hw
  refine w_X11_pass_0 (d1 := 8) hG (by omega) ?_
  refine c_X11_passNow (s := gS g) (u := gU g) (F := bF (gB g)) (a := -1) (Nat.le_refl 8) hG s0 hw.1.1 u0 hw.2.1 h20 hF ?_
  intro I1 L1 f1 s1 u1
  refine w_X11_pass_10 (d1 := 8) hG (by omega) ?_
  refine MI_told (k := 3) hG hw hm f1 s1 u1 ?_
  intro I' L' c' p'
  exact w_X11_pass_13 (k I' L' c' p')
-- undo
def f_undo (g : GG) : Int32 × GG := match (gU g).getLast? with
  | none => (-3, gRe g 3)
  | some x => (nI x.1, gSt (gAc g x.2 (gU g).dropLast) 0)
theorem undo_cases (u : List (Nat × St)) : (u = [] ∧ u.getLast? = none) ∨ ∃ v x, u = v ++ [x] ∧ u.getLast? = some x ∧ u.dropLast = v := by
  cases h : u.getLast? with
  | none => exact Or.inl ⟨List.getLast?_eq_none_iff.mp h, rfl⟩
  | some x =>
    obtain ⟨v, hv⟩ := List.getLast?_eq_some_iff.mp h
    exact Or.inr ⟨v, x, hv, rfl, by rw [hv, List.dropLast_concat]⟩
theorem wU_undo {s : St} {v : List (Nat × St)} {x : Nat × St} (h : wU s (v ++ [x])) : wS x.2 ∧ wU x.2 v ∧ sp_same s x.2 ∧ x.1 ≤ 3 ∧ v.length < 16 := by
  have hx := h.2 x (by simp)
  have hl := h.1
  rw [List.length_append] at hl
  have hl : v.length + 1 ≤ 16 := hl
  exact ⟨hx.2.1, ⟨by omega, fun w hw => ⟨(h.2 w (by simp [hw])).1, (h.2 w (by simp [hw])).2.1, sp_same_trans (sp_same_symm hx.2.2) (h.2 w (by simp [hw])).2.2⟩⟩, hx.2.2, hx.1, by omega⟩
theorem Wf_undo {g : GG} (hw : Wf g) : Wf (f_undo g).2 := by
  unfold f_undo
  rcases undo_cases (gU g) with ⟨h, e⟩ | ⟨v, x, h, e, e2⟩
  · rw [e]; exact Wf_re hw 3
  · rw [e, e2]
    have := wU_undo (h ▸ hw.2.1 : wU (gS g) (v ++ [x]))
    exact Wf_st (Wf_gac hw this.1 this.2.1) 0
theorem C_undo {ex : sm_O} {d : Nat} {g : GG} (hd : 2 ≤ d) (hw : Wf g) : CM ex d 92 [some (.ref 0)] g (f_undo g).1 (f_undo g).2 := by
  intro n y I L R Q hc k
  have hu := hc.2.2.2.2.2.1
  have h7 : sMen (gS g) ≤ 7 := hw.1.1.1.1
  unfold f_undo at k
  refine w_X10_undo_0 (d1 := 1) hc.2.1 (by omega) ?_
  rw [hu.1]
  rcases undo_cases (gU g) with ⟨h, e⟩ | ⟨v, x, h, e, e2⟩
  · rw [e] at k
    rw [h, if_pos (by decide)]
    refine c_X10_refused (j := 3) hc.2.1 (by omega) (by decide) ?_
    exact w_X10_undo_19 (k _ L (CI_ref hw hc (by omega)) (cKeep_ref 3 I L))
  · rw [e, e2] at k
    have hwu : wU (gS g) (v ++ [x]) := h ▸ hw.2.1
    obtain ⟨x1, x2, x3, x4, x5⟩ := wU_undo hwu
    rw [h, List.length_append, if_neg (nI_ne0 (by show 0 < v.length + 1; omega) (by show v.length + 1 < _; omega))]
    refine c_X4_takeBack (by omega) hc.2.1 hc.2.2.1 (h ▸ hu : cU (v ++ [x]) 65 I) x5 h7 x3 (fun w hw => (x2.2 w hw).2.1.1.1) ?_
    intro I1 f1 u1 s1
    refine w_X10_undo_35 (d1 := 1) hc.2.1 (by omega) ?_
    refine c_X10_accepted hc.2.1 ?_
    have af : cAf I I1 := fun a j q1 q2 q3 q4 q5 q6 => f1 a j q5 q2 q3 q4
    exact w_X10_undo_38 (k _ L (CI_acc (Wf_gac hw x1 x2) (CI_af hw hc af s1 u1)) ((cKeep_af af).trans (cKeep_acc I1 L)))
theorem M_undo {ex : sm_O} {d : Nat} {g : GG} (hd : 2 ≤ d) (hw : Wf g) : MM ex d 134 [some (.ref 123)] g (f_undo g).1 (f_undo g).2 := by
  intro n y I L R Q hG hm k
  have hu := hm.2.2.2.1
  have h7 : sMen (gS g) ≤ 7 := hw.1.1.1.1
  unfold f_undo at k
  refine w_X11_undo_0 (d1 := 1) hG (by omega) ?_
  rw [hu.1]
  rcases undo_cases (gU g) with ⟨h, e⟩ | ⟨v, x, h, e, e2⟩
  · rw [e] at k
    rw [h, if_pos (by decide)]
    refine c_X11_tellN (j := 3) hG (by omega) (by decide) ?_
    exact w_X11_undo_18 (k _ L (MI_ref (MI_thr hm)) ((mKeep_thr I).trans (mKeep_rfu 3 _)))
  · rw [e, e2] at k
    have hwu : wU (gS g) (v ++ [x]) := h ▸ hw.2.1
    obtain ⟨x1, x2, x3, x4, x5⟩ := wU_undo hwu
    have hlen : nI (gU g).length = nI (v.length + 1) := by rw [h, List.length_append]; rfl
    rw [hlen, if_neg (nI_ne0 (by omega) (by omega)), nI_pred]
    refine c_X11_putBack (c := v.length) hG (by omega) ?_
    refine w_X11_undo_37 (d1 := 1) hG (by omega) ?_
    generalize hX : sm_cp (sm_st (sm_st I 123 0 0) 123 8 (nI v.length)) 128 (20 * v.length) 125 4 20 = X
    have fX : ∀ a j, ¬ (a = 125 ∧ 4 ≤ j ∧ j < 24) → ¬ (a = 123 ∧ (j = 0 ∨ j = 8)) → X a j = I a j := fun a j q1 q2 => by
      rw [← hX, sm_cp_or _ (by omega), sm_st_or _ _ (by omega), sm_st_or _ _ (by omega)]
    have x8 : X 123 8 = nI v.length := by rw [← hX, sm_cp_or _ (by omega), sm_st_s]
    have hlast : (gU g)[v.length]? = some x := by rw [h, List.getElem?_append_right (Nat.le_refl _), Nat.sub_self]; rfl
    obtain ⟨b0, b1, b2, b3, b4⟩ := hu.2 v.length x hlast
    rw [x8, nI_clamp (by omega), fX 129 v.length (by omega) (by omega), b0]
    refine ⟨vp_in_nI (by omega) (by decide), ?_⟩
    refine c_X11_tellP hG (nI_pos' (by omega)) ?_
    have hin : ∀ j, j < 20 → X 125 (4 + j) = I 128 (20 * v.length + j) := fun j hj => by
      rw [← hX, sm_cp_in _ _ _ (by omega) (by omega), sm_st_o _ _ (by decide), sm_st_o _ _ (by decide)]
      exact congrArg (I 128) (by omega)
    have hm1 : sMen x.2 = sMen (gS g) := x3.1
    have hmS : mS x.2 (X 125) := by
      refine ⟨?_, fun i hi => ⟨?_, ?_, ?_, ?_⟩, ?_, ?_, fun j hj => ?_⟩
      · rw [fX 125 0 (by omega) (by omega), hm1]
        exact hm.1.1
      · rw [fX 125 _ (by omega) (by omega), x3.2.1]
        exact (hm.1.2.1 i (by omega)).1
      · rw [fX 125 _ (by omega) (by omega), x3.2.2.1]
        exact (hm.1.2.1 i (by omega)).2.1
      · rw [show 10 + i = 4 + (6 + i) by omega, hin (6 + i) (by omega)]
        exact (b4 i hi).1
      · rw [show 17 + i = 4 + (13 + i) by omega, hin (13 + i) (by omega)]
        exact (b4 i hi).2
      · rw [show 8 = 4 + 4 from rfl, hin 4 (by omega)]
        exact b2
      · rw [show 9 = 4 + 5 from rfl, hin 5 (by omega)]
        exact b3
      · rw [hin j (by omega)]
        exact b1 j hj
    have hmU : mU v X := by
      refine ⟨x8, fun i w hw => ?_⟩
      have hi : i < v.length := (List.getElem?_eq_some_iff.mp hw).1
      have := hu.2 i w (by rw [h, List.getElem?_append_left hi]; exact hw)
      have e1 : X 129 i = I 129 i := fX 129 i (by omega) (by omega)
      have e2 : ∀ j, X 128 j = I 128 j := fun j => fX 128 j (by omega) (by omega)
      unfold mSn
      simp only [e2]
      rw [e1]
      exact this
    have af : mAf (sm_st I 123 0 0) X L L := ⟨fun a j q1 q2 q3 q4 q5 => by
      by_cases q : a = 123 ∧ j = 0
      · obtain ⟨rfl, rfl⟩ := q
        rw [← hX, sm_cp_or _ (by omega), sm_st_j _ _ (by decide)]
      · rw [fX a j q3 (by omega), sm_st_or _ _ (by omega)], fun _ _ _ _ _ => rfl⟩
    exact w_X11_undo_50 (k _ L (MI_acc (MI_af hw (MI_thr hm) af hmS hmU)) (((mKeep_thr I).trans (mKeep_af af)).trans (mKeep_tel X)))

