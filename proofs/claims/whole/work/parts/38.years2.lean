-- YEARS (the model), DRAWN
theorem c_X11_draw {ex : sm_O} {n : Nat} {y : sm_Y} {I : Nat → Nat → Int32} {L : Nat → Nat → Int64} {R : Nat → Nat → Option Nat} {Q : sm_Q} {d M x : Nat} (hG : sm_G y R) (hM : 0 < M) (hM2 : M ≤ 1000) (hx : x < 1000003) (hL : L 123 57 = lN x) (k : Q (some (.int (nI (sp_draw x % M)))) (n, y, I, sm_st L 123 57 (lN (sp_draw x)), R)) : sm_W ex d 0 0 234 0 [some (.ref 123), some (.int (nI M))] [] (n, y, I, L, R) Q := by
  have hx1 := sp_draw_lt x
  refine w_X11_draw_0 hG ?_
  rw [hL, dr_m hx, nI_l (by omega), pk_lRem (by omega) hM (by omega), lN_i]
  refine ⟨fun z => ?_, k⟩
  have := (pk_lEQ (a := M) (b := 0) (by omega) (by decide)).mp z
  omega
def mFy (I I' : Nat → Nat → Int32) (L L' : Nat → Nat → Int64) : Prop := (∀ a j, ¬ (a = 123 ∧ (j = 38 ∨ j = 34)) → a ≠ 144 → ¬ (a = 125 ∧ 4 ≤ j ∧ j < 24) → I' a j = I a j) ∧ ∀ a j, a ≠ 143 → a ≠ 141 → ¬ (a = 123 ∧ (j = 39 ∨ j = 40 ∨ j = 57)) → L' a j = L a j
theorem mFy.rfl' (I : Nat → Nat → Int32) (L : Nat → Nat → Int64) : mFy I I L L := ⟨fun _ _ _ _ _ => rfl, fun _ _ _ _ _ => rfl⟩
theorem mFy.trans {I I' I2 : Nat → Nat → Int32} {L L' L2 : Nat → Nat → Int64} (h1 : mFy I I' L L') (h2 : mFy I' I2 L' L2) : mFy I I2 L L2 := ⟨fun a j q1 q2 q3 => (h2.1 a j q1 q2 q3).trans (h1.1 a j q1 q2 q3), fun a j q1 q2 q3 => (h2.2 a j q1 q2 q3).trans (h1.2 a j q1 q2 q3)⟩
theorem mFm.y {I I' : Nat → Nat → Int32} {L L' : Nat → Nat → Int64} (h : mFm I I' L L') : mFy I I' L L' := ⟨h.1, fun a j q1 q2 q3 => h.2 a j q1 q2 (by omega)⟩
theorem mFy.s (I : Nat → Nat → Int32) (L : Nat → Nat → Int64) (v : Int64) : mFy I I L (sm_st L 123 57 v) := ⟨fun _ _ _ _ _ => rfl, fun a j _ _ q => sm_st_or _ _ (by omega)⟩
theorem mFy.F {I I' : Nat → Nat → Int32} {L L' : Nat → Nat → Int64} {F : Option (Nat × Law)} (h : mFy I I' L L') (hF : mForce I F) : mForce I' F := mForce_r (fun j hj => h.1 125 j (by simp) (by simp) (fun z => hj z.2)) hF
set_option maxHeartbeats 1000000 in
theorem c_X11_drawnAct {ex : sm_O} {n : Nat} {y : sm_Y} {I : Nat → Nat → Int32} {L : Nat → Nat → Int64} {R : Nat → Nat → Option Nat} {Q : sm_Q} {d m how : Nat} {s : St} {F : Option (Nat × Law)} (hd : 7 ≤ d) (hG : sm_G y R) (hs : mS s (I 125)) (hok : sp_ok s) (hm : m < sMen s) (hh : how < 8) (h20 : I 123 20 = 0) (hF : mForce I F)
    (k : ∀ (I' : Nat → Nat → Int32) (L' : Nat → Nat → Int64), mFm I I' L L' → mS (sp_deed F s m how) (I' 125) → Q none (n, y, I', L', R)) : sm_W ex d 0 0 235 0 [some (.ref 123), some (.int (nI m)), some (.int (nI how))] [] (n, y, I, L, R) Q := by
  have h7 := hok.1
  have hdef : sp_deed F s m how = if how < 5 then (if sp_canb F s m = true then sp_relieve s m else s) else if how = 5 then (if sCash s m = false then sp_cashier s m else s) else if how = 6 then (if sCash s m = true then sp_pardon s m else s) else s := rfl
  have e5 : (5 : Int32) ≤ nI how ↔ 5 ≤ how := nI_leI (a := 5) (by decide) (by omega)
  have f5 : nI how = 5 ↔ how = 5 := nI_eq (b := 5) (by omega) (by decide)
  have f6 : nI how = 6 ↔ how = 6 := nI_eq (b := 6) (by omega) (by decide)
  refine w_X11_drawnAct_0 (d1 := 6) hG (by omega) (by omega) ?_
  simp only [e5, f5, f6]
  rw [sm_cx17 (by omega), (hs.2.1 m hm).2.2.2]
  by_cases h5 : how < 5
  · rw [if_neg (by omega)]
    rw [if_pos h5] at hdef
    have skip : ∀ (I1 : Nat → Nat → Int32) (L1 : Nat → Nat → Int64), mFm I I1 L L1 → mS (sp_deed F s m how) (I1 125) → sm_W ex d 0 0 235 59 [some (.ref 123), some (.int (nI m)), some (.int (nI how))] [] (n, y, I1, L1, R) Q := fun I1 L1 f1 s1 => w_X11_drawnAct_59 (k I1 L1 f1 s1)
    refine c_X11_canRelieve (s := s) (F := F) (Nat.le_refl 6) hG hs hok hm h20 hF ?_
    intro I1 L1 x f1 hx
    have hx := sp_canx hx
    refine w_X11_drawnAct_10 (d1 := 6) hG (by omega) (by omega) ?_
    simp only [f5, f6]
    by_cases hc : sp_canb F s m = true
    · rw [if_pos hc] at hx hdef
      rw [hx, if_neg (by decide)]
      refine c_X11_relieveIt (s := s) (F := F) (Nat.le_refl 6) hG (f1.S hs) hok hm ((f1.1 123 20 (by omega)).trans h20) (f1.m.F hF) ?_
      intro I2 L2 f2 s2
      refine w_X11_drawnAct_18 (d1 := 6) hG (by omega) (by omega) ?_
      simp only [f5, f6]
      rw [if_neg (by omega), if_neg (by omega)]
      exact skip I2 L2 (f1.m.trans f2) (by rw [hdef]; exact s2)
    · rw [if_neg hc] at hx hdef
      rw [hx, if_pos rfl, if_neg (by omega), if_neg (by omega)]
      exact skip I1 L1 f1.m (by rw [hdef]; exact f1.S hs)
  · rw [if_pos (by omega)]
    rw [if_neg h5] at hdef
    by_cases h51 : how = 5
    · rw [if_pos h51] at hdef ⊢
      refine ⟨sm_ci17 (by omega) (by decide), ?_⟩
      cases hc : sCash s m with
      | false =>
        rw [if_pos hc] at hdef
        rw [if_pos (by decide)]
        refine c_X11_cashier (s := s) hG hs hok hm ?_
        intro I2 f2 s2
        exact w_X11_drawnAct_37 (w_X11_drawnAct_59 (k I2 L f2 (by rw [hdef]; exact s2)))
      | true =>
        rw [if_neg (by rw [hc]; decide)] at hdef
        rw [if_neg (by decide), if_neg (by omega)]
        exact w_X11_drawnAct_59 (k I L (mFm.rfl' I L) (by rw [hdef]; exact hs))
    · rw [if_neg h51] at hdef ⊢
      by_cases h6 : how = 6
      · rw [if_pos h6] at hdef ⊢
        refine ⟨sm_ci17 (by omega) (by decide), ?_⟩
        cases hc : sCash s m with
        | false =>
          rw [if_neg (by rw [hc]; decide)] at hdef
          rw [if_pos (by decide)]
          exact w_X11_drawnAct_59 (k I L (mFm.rfl' I L) (by rw [hdef]; exact hs))
        | true =>
          rw [if_pos hc] at hdef
          rw [if_neg (by decide)]
          refine c_X11_pardonIt (s := s) hG hs hok hm ?_
          intro I2 f2 s2
          exact w_X11_drawnAct_59 (k I2 L f2 (by rw [hdef]; exact s2))
      · rw [if_neg h6] at hdef ⊢
        exact w_X11_drawnAct_59 (k I L (mFm.rfl' I L) (by rw [hdef]; exact hs))
set_option maxHeartbeats 1000000 in
theorem M_years {ex : sm_O} {d : Nat} {w3 w4 w5 w6 : Option Value} {g : GG} {a b : Int32} (hd : 9 ≤ d) (hw : Wf g) : MM ex d 236 [some (.ref 123), some (.int a), some (.int b), w3, w4, w5, w6] g (f_years g a b).1 (f_years g a b).2 := by
  intro n y I L R Q hG hm k
  have hok : sp_ok (gS g) := hw.1.1.1
  have h7 : sMen (gS g) ≤ 7 := hok.1
  have ht : sTerm (gS g) 0 ≤ 999 := hw.1.1.2.1
  unfold f_years at k
  refine w_X11_years_0 (d1 := 8) hG (by omega) (by omega) ?_
  have i1 : ((0 : Int64) ≤ a.toInt64 ∧ a.toInt64 ≤ (1000000 : Int64)) ↔ (0 ≤ a ∧ a ≤ 1000000) := sm_in64 (lo := 0) (hi := 1000000)
  have i2 : ((1 : Int64) ≤ b.toInt64 ∧ b.toInt64 ≤ (60 : Int64)) ↔ (1 ≤ b ∧ b ≤ 60) := sm_in64 (lo := 1) (hi := 60)
  rw [hm.1.1]
  simp only [i1, i2]
  have no : ¬ ((0 ≤ a ∧ a ≤ 1000000) ∧ 1 ≤ b ∧ b ≤ 60) → sm_W ex 8 0 0 128 0 [some (.ref 123), some (.int (-1))] [] (n, y, sm_st I 123 0 0, L, R) (fun r μ1 => sm_W ex d 0 0 236 34 [some (.ref 123), some (.int a), some (.int b), w3, w4, w5, w6] (r.toList ++ []) μ1 Q) := by
    intro q
    rw [if_neg q] at k
    refine c_X11_tellN (j := 1) hG (by omega) (by decide) ?_
    exact w_X11_years_34 (k _ L (MI_ref (MI_thr hm)) ((mKeep_thr I).trans (mKeep_rfu 1 _)))
  by_cases q1 : 0 ≤ a ∧ a ≤ 1000000
  · rw [if_pos q1]
    by_cases q2 : 1 ≤ b ∧ b ≤ 60
    · rw [if_pos q2]
      rw [if_pos ⟨q1, q2⟩] at k
      obtain ⟨S, N, rfl, hS, rfl, hN⟩ := nat_yn ⟨q1, q2⟩
      rw [nI_clamp (by omega), nI_clamp (by omega)] at k
      by_cases h0 : sMen (gS g) = 0
      · rw [if_pos h0] at k
        rw [h0, if_pos (by decide)]
        refine c_X11_tellN (j := 3) hG (by omega) (by decide) ?_
        exact w_X11_years_50 (k _ L (MI_ref (MI_thr hm)) ((mKeep_thr I).trans (mKeep_rfu 3 _)))
      · rw [if_neg h0] at k
        rw [if_neg (nI_ne0 (by omega) (by omega))]
        refine c_X11_keepAll (c := 16) hG (by decide) ?_
        obtain ⟨p1, p2, p3⟩ := MI_pap hw hm
        generalize hI1 : sm_cp (sm_st I 123 0 0) 125 4 128 (20 * 16) 20 = I1
        have hI1' : sm_cp (sm_st I 123 0 0) 125 4 128 320 20 = I1 := hI1
        rw [hI1'] at p1 p2 p3
        have hl := sp_live_ok (F := bF (gB g)) N (gS g) S 0 hok (by omega) (by omega)
        -- the end: what was drawn is kept, all is put back
        have fin : ∀ (s : St) (c : Nat) (I2 : Nat → Nat → Int32) (L2 : Nat → Nat → Int64), (s, c) = sp_live (bF (gB g)) N (gS g) S 0 → mFy I1 I2 L L2 → mS s (I2 125) → ∀ (q j : Nat) (I3 : Nat → Nat → Int32) (u1 u2 u5 u6 : Option Value), j + q = 20 → (∀ a j, a ≠ 155 → I3 a j = I2 a j) → (∀ i, i < j → I3 155 i = I2 125 (4 + i)) → sm_W ex d 0 0 236 130 [some (.ref 123), u1, u2, some (.int (nI c)), some (.int (nI j)), u5, u6] [] (n, y, I3, L2, R) Q := by
          intro s c I2 L2 he f2 s2 q
          rw [← he] at k hl
          induction q with
          | zero =>
            intro j I3 u1 u2 u5 u6 hj f3 h3
            obtain rfl : j = 20 := by omega
            refine w_X11_years_130 (d1 := 8) hG (by omega) ?_
            rw [if_pos (by decide)]
            refine c_X11_putBack (c := 16) hG (by decide) ?_
            refine w_X11_years_175 (d1 := 8) hG (by omega) ?_
            refine c_X11_tellP hG (nI_pos' (by omega)) ?_
            have e0 : I3 125 0 = nI (sMen s) := (f3 125 0 (by decide)).trans s2.1
            rw [e0]
            generalize hX : sm_cp (sm_st I3 123 59 (nI (sMen s))) 128 (20 * 16) 125 4 20 = X
            have hX : sm_cp (sm_st I3 123 59 (nI (sMen s))) 128 320 125 4 20 = X := hX
            have eX : ∀ a j, ¬ (a = 128 ∧ 320 ≤ j) → ¬ (a = 123 ∧ (j = 38 ∨ j = 34 ∨ j = 0 ∨ j = 59)) → a ≠ 144 → a ≠ 155 → X a j = I a j := by
              intro a j h1 h2 h3 h4
              rw [← hX]
              by_cases h : a = 125 ∧ 4 ≤ j ∧ j < 24
              · obtain ⟨rfl, h5, h6⟩ := h
                rw [sm_cp_in _ _ _ (by omega) (by omega), sm_st_o _ _ (by decide), f3 128 _ (by decide), f2.1 _ _ (by omega) (by omega) (by omega), ← hI1', sm_cp_in _ _ _ (by omega) (by omega), sm_st_o _ _ (by decide)]
                exact congrArg (I 125) (by omega)
              · rw [sm_cp_or _ (by omega), sm_st_or _ _ (by omega), f3 a j h4, f2.1 a j (by omega) h3 (by omega), ← hI1', sm_cp_or _ (by omega), sm_st_or _ _ (by omega)]
            have x59 : X 123 59 = nI (sMen s) := by rw [← hX, sm_cp_or _ (by omega), sm_st_s]
            have x155 : ∀ i, i < 20 → X 155 i = I2 125 (4 + i) := fun i hi => by rw [← hX, sm_cp_or _ (by omega), sm_st_o _ _ (by decide)]; exact h3 i hi
            have hs7 : sMen s ≤ 7 := by have : sMen s = sMen (gS g) := hl.2.1; omega
            have hdr : mSn s (X 155) := by
              refine ⟨fun j hj => (x155 j (by omega)).trans (s2.2.2.2.2 j hj), (x155 4 (by omega)).trans s2.2.2.1, (x155 5 (by omega)).trans s2.2.2.2.1, fun i hi => ⟨(x155 (6 + i) (by omega)).trans ?_, (x155 (13 + i) (by omega)).trans ?_⟩⟩
              · rw [show 4 + (6 + i) = 10 + i by omega]
                exact (s2.2.1 i hi).2.2.1
              · rw [show 4 + (13 + i) = 17 + i by omega]
                exact (s2.2.1 i hi).2.2.2
            have hmX : MI (gDr g s) X L2 := ⟨mS_ext (fun j q => eX 125 j (by omega) (by omega) (by omega) (by omega)) h7 hm.1, mP_ext (fun j q => eX 125 j (by omega) (by omega) (by omega) (by omega)) hw.1.2.1.1 hm.2.1, mB_ext (fun j q => eX 125 j (by omega) (by omega) (by omega) (by omega)) hw.1.2.2.1 hm.2.2.1, mU_ext hw.2.1 (fun a j q => eX a j (by omega) (by omega) (by omega) (by omega)) hm.2.2.2.1, mT_ext (fun a j q => eX a j (by omega) (by omega) (by omega) (by omega)) hm.2.2.2.2.1, mN_ext (fun a j q => eX a j (by omega) (by omega) (by omega) (by omega)) hm.2.2.2.2.2.1, ⟨x59, hdr⟩, mIm_ext (fun a j q => eX a j (by omega) (by omega) (by omega) (by omega)) hm.2.2.2.2.2.2.2.1, by
              have e : ∀ a, a = 138 ∨ a = 139 ∨ a = 140 ∨ a = 153 → L2 a = L a := fun a q => funext fun j => f2.2 a j (by omega) (by omega) (by omega)
              unfold mWs
              rw [e 138 (by omega), e 139 (by omega), e 140 (by omega), e 153 (by omega)]
              exact hm.2.2.2.2.2.2.2.2⟩
            have kp : mKeep I X := fun a j q => eX a j (by omega) (by omega) (by omega) (by omega)
            exact w_X11_years_180 (k _ L2 (MI_acc hmX) (kp.trans (mKeep_tel X)))
          | succ q ih =>
            intro j I3 u1 u2 u5 u6 hj f3 h3
            refine w_X11_years_130 (d1 := 8) hG (by omega) ?_
            rw [if_neg (by rw [sm_of 20, nI_leI (by decide) (by omega)]; omega), sm_cx4 (by omega), nI_clamp (by omega), sm_n1, f3 125 (4 + j) (by decide)]
            refine ⟨sm_ci4 (by omega) (by decide), vp_in_nI (by omega) (by decide), ih (j + 1) _ _ _ _ _ (by omega) (fun a j q => by rw [sm_st_o _ _ q]; exact f3 a j q) (fun i hi => ?_)⟩
            by_cases e : i = j
            · subst e
              rw [sm_st_s]
            · rw [sm_st_j _ _ e]
              exact h3 i (by omega)
        have key : ∀ (q j : Nat) (s : St) (x c : Nat) (I2 : Nat → Nat → Int32) (L2 : Nat → Nat → Int64) (u1 u5 u6 : Option Value), j + q = N → x < 1000003 → L2 123 57 = lN x → c ≤ j → sp_live (bF (gB g)) q s x c = sp_live (bF (gB g)) N (gS g) S 0 → mFy I1 I2 L L2 → mS s (I2 125) → sp_ok s → sMen s = sMen (gS g) → sTerm s 0 ≤ 999 → sm_W ex d 0 0 236 68 [some (.ref 123), u1, some (.int (nI N)), some (.int (nI c)), some (.int (nI j)), u5, u6] [] (n, y, I2, L2, R) Q := by
          intro q
          induction q with
          | zero =>
            intro j s x c I2 L2 u1 u5 u6 hj hx hL hcj he f2 s2 hok2 hm2 ht2
            obtain rfl : j = N := by omega
            refine w_X11_years_68 (d1 := 8) hG (by omega) ?_
            rw [if_pos (Int32.le_refl _)]
            exact fin s c I2 L2 he f2 s2 20 0 I2 _ _ _ _ (by omega) (fun _ _ _ => rfl) (fun i hi => absurd hi (by omega))
          | succ q ih =>
            intro j s x c I2 L2 u1 u5 u6 hj hx hL hcj he f2 s2 hok2 hm2 ht2
            have e4 : I2 125 4 = nI (sTerm s 0) := s2.2.2.2.2 0 (by decide)
            refine w_X11_years_68 (d1 := 8) hG (by omega) ?_
            rw [if_neg (by rw [nI_leI (by omega) (by omega)]; omega), e4]
            by_cases ht9 : sTerm s 0 < 999
            · rw [if_neg (by rw [sm_of 999, nI_leI (by decide) (by omega)]; omega), s2.1]
              have hst : sp_live (bF (gB g)) (q + 1) s x c = if sTerm s 0 < 999 then sp_live (bF (gB g)) q (sp_hour (bF (gB g)) (sp_deed (bF (gB g)) s (sp_draw x % sMen s) (sp_draw (sp_draw x) % 8))).1 (sp_draw (sp_draw x)) (c + (sp_hour (bF (gB g)) (sp_deed (bF (gB g)) s (sp_draw x % sMen s) (sp_draw (sp_draw x) % 8))).2) else (s, c) := rfl
              rw [hst, if_pos ht9] at he
              have hx1 := sp_draw_lt x
              have hx2 := sp_draw_lt (sp_draw x)
              have hmm : sp_draw x % sMen s < sMen s := Nat.mod_lt _ (by omega)
              refine c_X11_draw hG (by omega) (by omega) hx hL ?_
              refine w_X11_years_96 (d1 := 8) hG (by omega) ?_
              refine c_X11_draw (M := 8) hG (by decide) (by decide) hx1 (sm_st_s _ _ _ _) ?_
              refine w_X11_years_104 (d1 := 8) hG (by omega) ?_
              have h20 : I2 123 20 = 0 := (f2.1 123 20 (by omega) (by omega) (by omega)).trans p3
              refine c_X11_drawnAct (s := s) (F := bF (gB g)) (by omega) hG s2 hok2 hmm (Nat.mod_lt _ (by decide)) h20 (f2.F p2) ?_
              intro I3 L3 f3 s3
              refine w_X11_years_114 (d1 := 8) hG (by omega) ?_
              have hokt := sp_deed_ok (F := bF (gB g)) (how := sp_draw (sp_draw x) % 8) hok2 hmm
              have hsmt := sp_deed_same (bF (gB g)) s (sp_draw x % sMen s) (sp_draw (sp_draw x) % 8)
              have htt := sp_deed_t0 (bF (gB g)) s (sp_draw x % sMen s) (sp_draw (sp_draw x) % 8)
              generalize sp_deed (bF (gB g)) s (sp_draw x % sMen s) (sp_draw (sp_draw x) % 8) = t at he s3 hokt hsmt htt
              have f23 : mFy I1 I3 L L3 := f2.trans (((mFy.s I2 L2 _).trans (mFy.s I2 _ _)).trans f3.y)
              refine c_X11_passIt (s := t) (F := bF (gB g)) (by omega) hG s3 hokt (by rw [htt]; omega) ((f3.1 123 20 (by omega) (by omega) (by omega)).trans h20) (f23.F p2) ?_
              intro I4 L4 f4 s4
              refine w_X11_years_119 ?_
              rw [nI_add, sm_n1]
              have h01 := sp_hour_01 (bF (gB g)) t
              refine ih (j + 1) (sp_hour (bF (gB g)) t).1 (sp_draw (sp_draw x)) (c + (sp_hour (bF (gB g)) t).2) I4 L4 _ _ _ (by omega) hx2 ?_ (by omega) he (f23.trans f4.y) s4 (sp_hour_ok hokt (by rw [htt]; omega)) ((sp_hour_same _ _).1.trans (hsmt.1.trans hm2)) (by rw [sp_hour_t0, htt]; omega)
              rw [f4.2 123 57 (by omega) (by omega) (by omega), f3.2 123 57 (by omega) (by omega) (by omega), sm_st_s]
            · rw [if_pos (by rw [sm_of 999, nI_leI (by decide) (by omega)]; omega)]
              rw [sp_live_end ht9] at he
              exact fin s c I2 L2 he f2 s2 20 0 I2 _ _ _ _ (by omega) (fun _ _ _ => rfl) (fun i hi => absurd hi (by omega))
        refine w_X11_years_57 hG ?_
        rw [nI_l (by omega)]
        exact key N 0 (gS g) S 0 I1 _ _ _ _ (by omega) (by omega) (sm_st_s _ _ _ _) (Nat.le_refl 0) rfl (mFy.s I1 L _) p1 hok rfl ht
    · rw [if_neg q2]
      exact no (fun z => q2 z.2)
  · rw [if_neg q1]
    exact no (fun z => q1 z.1)
-- drawn
def f_drawn (g : GG) (a : Int32) (w : Int) : Int32 := match gD g with
  | none => -1
  | some s => if 0 ≤ a ∧ a < nI (sMen s) then (if w = 0 then nI (sTired s a.toNatClampNeg) else if w = 1 then (if sCash s a.toNatClampNeg = true then 1 else 0) else if w = 2 then (if a = 0 then sp_up (sUp s) else -1) else -1) else -1
theorem C_drawn {ex : sm_O} {d : Nat} {g : GG} {a b : Int32} (hd : 2 ≤ d) (hw : Wf g) : CM ex d 108 [some (.ref 0), some (.int a), some (.int b)] g (f_drawn g a b.toInt) g := by
  intro n y I L R Q hc k
  have hG := hc.2.1
  have hD := hc.2.2.2.2.2.2.2.2.1
  have k := k I L hc (cKeep.rfl' I L)
  unfold f_drawn at k
  refine w_X10_drawn_0 (d1 := 1) hG (by omega) (by omega) ?_
  cases hg : gD g with
  | none =>
    rw [hg] at hD k
    rw [show I 0 8 = 0 from hD, if_pos rfl]
    exact k
  | some s =>
    rw [hg] at hD k
    have hok := hw.2.2.1 s hg
    have h7 := hok.1
    have hs := hD.2
    dsimp only at k
    rw [hD.1, if_neg (by decide), hs.1]
    by_cases q1 : a < 0
    · rw [if_pos q1]
      rw [if_neg (fun z => absurd q1 (Int32.not_lt.mpr z.1))] at k
      exact k
    rw [if_neg q1]
    by_cases q2 : nI (sMen s) ≤ a
    · rw [if_pos q2]
      rw [if_neg (fun z => absurd z.2 (Int32.not_lt.mpr q2))] at k
      exact k
    rw [if_neg q2]
    have hall : 0 ≤ a ∧ a < nI (sMen s) := ⟨Int32.not_lt.mp q1, Int32.not_le.mp q2⟩
    rw [if_pos hall] at k
    obtain ⟨m, rfl, hm⟩ := nat_man h7 hall
    rw [nI_clamp (by omega)] at k
    refine ⟨fun z => ?_, fun z => ?_, fun z => ?_, fun z => ?_⟩
    · rw [if_neg (by omega), if_neg (by omega), if_neg (by omega)] at k
      exact k
    · rw [if_pos z] at k
      rw [nI_clamp (by omega), (hs.2.1 m hm).2.2]
      exact ⟨vp_in_nI (by omega) (by decide), k⟩
    · rw [if_neg (by omega), if_pos z] at k
      refine c_X9_isCashiered (mk112 hG).1 hs h7 hm ?_
      refine w_X10_drawn_66 (d1 := 1) (by omega) ?_
      refine c_X10_bit ?_
      exact w_X10_drawn_69 k
    · rw [if_neg (by omega), if_neg (by omega), if_pos z] at k
      rw [hs.2.2.2.1]
      exact ite_of k
theorem M_drawn {ex : sm_O} {d : Nat} {g : GG} {a b : Int32} (hd : 1 ≤ d) (hw : Wf g) : MM ex d 237 [some (.ref 123), some (.int a), some (.int b)] g (f_drawn g a b.toInt) g := by
  intro n y I L R Q hG hm k
  have hD := hm.2.2.2.2.2.2.1
  have k := k _ L (MI_thr hm) (mKeep_thr I)
  unfold f_drawn at k
  refine w_X11_drawn_0 hG (by omega) ?_
  have i2 : ((0 : Int64) ≤ b.toInt64 ∧ b.toInt64 ≤ (2 : Int64)) ↔ (0 ≤ b ∧ b ≤ 2) := sm_in64 (lo := 0) (hi := 2)
  simp only [sm_l64, i2]
  cases hg : gD g with
  | none =>
    rw [hg] at hD k
    rw [show I 123 59 = -1 from hD, if_neg (fun z => absurd (Int32.lt_of_le_of_lt z.1 z.2) (by decide))]
    exact k
  | some s =>
    rw [hg] at hD k
    have hok := hw.2.2.1 s hg
    have h7 := hok.1
    have hs := hD.2
    dsimp only at k
    rw [hD.1]
    by_cases q1 : 0 ≤ a ∧ a < nI (sMen s)
    · rw [if_pos q1] at k ⊢
      obtain ⟨m, rfl, hm⟩ := nat_man h7 q1
      rw [nI_clamp (by omega)] at k
      by_cases q2 : 0 ≤ b ∧ b ≤ 2
      · rw [if_pos q2]
        obtain ⟨v, rfl, -, hv⟩ := sm_nat (lo := 0) (hi := 2) (by decide) q2 (by decide)
        rw [nI_toInt (by omega)] at k
        have f2 : nI v = 2 ↔ v = 2 := nI_eq (b := 2) (by omega) (by decide)
        have f0 : nI v = 0 ↔ v = 0 := nI_eq (b := 0) (by omega) (by decide)
        simp only [f2, f0]
        have e6 : ((10 : Int32) - 4) + nI m = nI (6 + m) := by rw [show (10 : Int32) - 4 = nI 6 from by decide, nI_add]
        have e13 : ((17 : Int32) - 4) + nI m = nI (13 + m) := by rw [show (17 : Int32) - 4 = nI 13 from by decide, nI_add]
        rw [e6, e13, nI_clamp (by omega), nI_clamp (by omega)]
        by_cases v2 : v = 2
        · rw [if_neg (by omega), if_neg (by omega), if_pos (by omega)] at k
          rw [if_pos v2, hs.2.1]
          exact ite_of k
        · rw [if_neg v2]
          by_cases v0 : v = 0
          · rw [if_pos (by omega)] at k
            rw [if_pos v0, (hs.2.2.2 m hm).1]
            exact ⟨vp_in_nI (by omega) (by decide), k⟩
          · rw [if_neg (by omega), if_pos (by omega)] at k
            rw [if_neg v0, (hs.2.2.2 m hm).2]
            exact ⟨vp_in_nI (by omega) (by decide), k⟩
      · rw [if_neg q2]
        have : b.toInt < 0 ∨ 2 < b.toInt := by
          rw [Int32.le_iff_toInt_le, Int32.le_iff_toInt_le] at q2
          have z0 : (0 : Int32).toInt = 0 := rfl
          have z2 : (2 : Int32).toInt = 2 := rfl
          omega
        rw [if_neg (by omega), if_neg (by omega), if_neg (by omega)] at k
        exact k
    · rw [if_neg q1] at k ⊢
      exact k

