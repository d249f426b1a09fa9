-- THE LAW: its cases
theorem MI_ck {g : GG} {I I' : Nat → Nat → Int32} {L L' : Nat → Nat → Int64} (hw : Wf g) (hm : MI g I L) (h : cKeep I I' L L') : MI g I' L' := MI_scr hw (fun a j q => h.1 a j (by unfold mscr at q; omega) (by unfold mscr at q; omega)) (fun a j q => h.2 a j (by omega)) hm
theorem CI_mk {g : GG} {n : Nat} {y : sm_Y} {I I' : Nat → Nat → Int32} {R : Nat → Nat → Option Nat} (hw : Wf g) (hc : CI g n y I R) (h : mKeep I I') : CI g n y I' R :=
  ⟨hc.1, hc.2.1, cS_kept2 (fun a j q => h a j (by omega)) hc.2.2.1, cP_kept (fun a j q => h a j (by omega)) hc.2.2.2.1, cB_kept hw.1.2.2.1 (fun a j q => h a j (by omega)) hc.2.2.2.2.1, cU_kept (fun a j q => h a j (by omega)) hc.2.2.2.2.2.1, cT_kept (fun a j q => h a j (by omega)) hc.2.2.2.2.2.2.1, cN_kept (fun a j q => h a j (by omega)) hc.2.2.2.2.2.2.2.1, cDr_kept (fun a j q => h a j (by omega)) hc.2.2.2.2.2.2.2.2.1, cIm_kept hw.2.2.2.1 (fun a j q => h a j (by omega)) hc.2.2.2.2.2.2.2.2.2.1, cCa_kept (fun a j q => h a j (by omega)) hc.2.2.2.2.2.2.2.2.2.2⟩
theorem lw_vp {i j n : Nat} (hi : i + 6 ≤ n) (hj : j < 6) (hn : n ≤ 100000) : vp_in (nI i + nI j) n := by
  rw [nI_add]
  exact vp_in_nI (by omega) (by omega)
set_option maxRecDepth 100000 in
theorem lw_man {ex : sm_O} {d bc bs n : Nat} {y : sm_Y} {I : Nat → Nat → Int32} {L : Nat → Nat → Int64} {R : Nat → Nat → Option Nat} {Q : sm_Q} {x0 i : Nat} {g : GG} (hd : 30 ≤ d) (hE : exOK ex) (hx0 : x0 < 2) (hi : i + 6 ≤ (ex.1 x0).1) (hl : (ex.1 x0).1 ≤ 100000) (hw : Wf g) (hc : CI g n y I R) (hm : MI g I L) (k : ∀ (g' : GG) (I' : Nat → Nat → Int32) (L' : Nat → Nat → Int64), Wf g' → gI g' = gI g → CI g' n y I' R → MI g' I' L' → sm_W ex d bc bs 241 18 [some (.retAddr x0), some (.ref 0), some (.ref 123), some (.int (nI (i + 6)))] [] (n, y, I', L', R) Q) : sm_W ex d bc bs 241 200 [some (.retAddr x0), some (.ref 0), some (.ref 123), some (.int (nI i))] [] (n, y, I, L, R) Q := by
  have hG := hc.2.1
  refine sm_in (sm_in (sm_in (sm_in (sm_in (sm_in (And.intro hx0 (And.intro (lw_vp (j := 1) hi (by decide) hl) (sm_in (sm_in (sm_in (sm_in (sm_in (And.intro hx0 (And.intro (lw_vp (j := 2) hi (by decide) hl) (sm_in (Exists.intro 10 (And.intro (hG.1 0 (Nat.le_of_ble_eq_true rfl)) (And.intro rfl (sm_cal 20 0 0 (by omega) (Nat.le_of_ble_eq_true rfl) (Nat.le_of_ble_eq_true rfl) (Nat.le_of_ble_eq_true rfl) (Nat.le_of_ble_eq_true rfl) ?_)))))))))))))))))))
  refine C_man (by omega) hw n y I L R _ hc ?_
  intro I1 L1 hc1 kp1
  have hm1 := MI_ck hw hm kp1
  refine sm_in (sm_in (sm_in (sm_in (sm_in (sm_in (And.intro hx0 (And.intro (lw_vp (j := 1) hi (by decide) hl) (sm_in (sm_in (sm_in (sm_in (sm_in (And.intro hx0 (And.intro (lw_vp (j := 2) hi (by decide) hl) (sm_in (Exists.intro 11 (And.intro (hG.1 123 (Nat.le_of_ble_eq_true rfl)) (And.intro rfl (sm_cal 20 0 0 (by omega) (Nat.le_of_ble_eq_true rfl) (Nat.le_of_ble_eq_true rfl) (Nat.le_of_ble_eq_true rfl) (Nat.le_of_ble_eq_true rfl) ?_)))))))))))))))))))
  refine M_man (by omega) hw n y I1 L1 R _ hG hm1 ?_
  intro I2 L2 hm2 kp2
  have hw2 : Wf (f_man g ((ex.1 x0).2 (nI i + 1).toNatClampNeg) ((ex.1 x0).2 (nI i + 2).toNatClampNeg)).2 := Wf_man hw _ _
  have hfin := k (f_man g ((ex.1 x0).2 (nI i + 1).toNatClampNeg) ((ex.1 x0).2 (nI i + 2).toNatClampNeg)).2 I2 L2 hw2 (by unfold f_man; (repeat' split) <;> rfl) (CI_mk hw2 hc1 kp2) hm2
  rw [← nI_add i 6] at hfin
  exact sm_in (And.intro (fun _ => sm_in (And.intro (Nat.le_of_ble_eq_true rfl) (sm_in hfin))) (fun h => absurd rfl h))
set_option maxRecDepth 100000 in
theorem lw_of {ex : sm_O} {d bc bs n : Nat} {y : sm_Y} {I : Nat → Nat → Int32} {L : Nat → Nat → Int64} {R : Nat → Nat → Option Nat} {Q : sm_Q} {x0 i : Nat} {g : GG} (hd : 30 ≤ d) (hE : exOK ex) (hx0 : x0 < 2) (hi : i + 6 ≤ (ex.1 x0).1) (hl : (ex.1 x0).1 ≤ 100000) (hw : Wf g) (hc : CI g n y I R) (hm : MI g I L) (k : ∀ (g' : GG) (I' : Nat → Nat → Int32) (L' : Nat → Nat → Int64), Wf g' → gI g' = gI g → CI g' n y I' R → MI g' I' L' → sm_W ex d bc bs 241 18 [some (.retAddr x0), some (.ref 0), some (.ref 123), some (.int (nI (i + 6)))] [] (n, y, I', L', R) Q) : sm_W ex d bc bs 241 233 [some (.retAddr x0), some (.ref 0), some (.ref 123), some (.int (nI i))] [] (n, y, I, L, R) Q := by
  have hG := hc.2.1
  refine sm_in (sm_in (sm_in (sm_in (sm_in (sm_in (And.intro hx0 (And.intro (lw_vp (j := 1) hi (by decide) hl) (sm_in (sm_in (sm_in (sm_in (sm_in (And.intro hx0 (And.intro (lw_vp (j := 2) hi (by decide) hl) (sm_in (Exists.intro 10 (And.intro (hG.1 0 (Nat.le_of_ble_eq_true rfl)) (And.intro rfl (sm_cal 20 0 0 (by omega) (Nat.le_of_ble_eq_true rfl) (Nat.le_of_ble_eq_true rfl) (Nat.le_of_ble_eq_true rfl) (Nat.le_of_ble_eq_true rfl) ?_)))))))))))))))))))
  refine C_of (by omega) hw n y I L R _ hc ?_
  intro I1 L1 hc1 kp1
  have hm1 := MI_ck hw hm kp1
  refine sm_in (sm_in (sm_in (sm_in (sm_in (sm_in (And.intro hx0 (And.intro (lw_vp (j := 1) hi (by decide) hl) (sm_in (sm_in (sm_in (sm_in (sm_in (And.intro hx0 (And.intro (lw_vp (j := 2) hi (by decide) hl) (sm_in (Exists.intro 11 (And.intro (hG.1 123 (Nat.le_of_ble_eq_true rfl)) (And.intro rfl (sm_cal 20 0 0 (by omega) (Nat.le_of_ble_eq_true rfl) (Nat.le_of_ble_eq_true rfl) (Nat.le_of_ble_eq_true rfl) (Nat.le_of_ble_eq_true rfl) ?_)))))))))))))))))))
  refine M_of (by omega) hw n y I1 L1 R _ hG hm1 ?_
  intro I2 L2 hm2 kp2
  have hw2 : Wf g := hw
  have hfin := k g I2 L2 hw2 rfl (CI_mk hw2 hc1 kp2) hm2
  rw [← nI_add i 6] at hfin
  exact sm_in (And.intro (fun _ => sm_in (And.intro (Nat.le_of_ble_eq_true rfl) (sm_in hfin))) (fun h => absurd rfl h))
set_option maxRecDepth 100000 in
theorem lw_two {ex : sm_O} {d bc bs n : Nat} {y : sm_Y} {I : Nat → Nat → Int32} {L : Nat → Nat → Int64} {R : Nat → Nat → Option Nat} {Q : sm_Q} {x0 i : Nat} {g : GG} (hd : 30 ≤ d) (hE : exOK ex) (hx0 : x0 < 2) (hi : i + 6 ≤ (ex.1 x0).1) (hl : (ex.1 x0).1 ≤ 100000) (hw : Wf g) (hc : CI g n y I R) (hm : MI g I L) (k : ∀ (g' : GG) (I' : Nat → Nat → Int32) (L' : Nat → Nat → Int64), Wf g' → gI g' = gI g → CI g' n y I' R → MI g' I' L' → sm_W ex d bc bs 241 18 [some (.retAddr x0), some (.ref 0), some (.ref 123), some (.int (nI (i + 6)))] [] (n, y, I', L', R) Q) : sm_W ex d bc bs 241 266 [some (.retAddr x0), some (.ref 0), some (.ref 123), some (.int (nI i))] [] (n, y, I, L, R) Q := by
  have hG := hc.2.1
  refine sm_in (sm_in (sm_in (sm_in (sm_in (sm_in (And.intro hx0 (And.intro (lw_vp (j := 1) hi (by decide) hl) (sm_in (sm_in (sm_in (sm_in (sm_in (And.intro hx0 (And.intro (lw_vp (j := 2) hi (by decide) hl) (sm_in (sm_in (sm_in (sm_in (sm_in (And.intro hx0 (And.intro (lw_vp (j := 3) hi (by decide) hl) (sm_in (Exists.intro 10 (And.intro (hG.1 0 (Nat.le_of_ble_eq_true rfl)) (And.intro rfl (sm_cal 20 0 0 (by omega) (Nat.le_of_ble_eq_true rfl) (Nat.le_of_ble_eq_true rfl) (Nat.le_of_ble_eq_true rfl) (Nat.le_of_ble_eq_true rfl) ?_))))))))))))))))))))))))))
  refine C_two (by omega) hw n y I L R _ hc ?_
  intro I1 L1 hc1 kp1
  have hm1 := MI_ck hw hm kp1
  refine sm_in (sm_in (sm_in (sm_in (sm_in (sm_in (And.intro hx0 (And.intro (lw_vp (j := 1) hi (by decide) hl) (sm_in (sm_in (sm_in (sm_in (sm_in (And.intro hx0 (And.intro (lw_vp (j := 2) hi (by decide) hl) (sm_in (sm_in (sm_in (sm_in (sm_in (And.intro hx0 (And.intro (lw_vp (j := 3) hi (by decide) hl) (sm_in (Exists.intro 11 (And.intro (hG.1 123 (Nat.le_of_ble_eq_true rfl)) (And.intro rfl (sm_cal 20 0 0 (by omega) (Nat.le_of_ble_eq_true rfl) (Nat.le_of_ble_eq_true rfl) (Nat.le_of_ble_eq_true rfl) (Nat.le_of_ble_eq_true rfl) ?_))))))))))))))))))))))))))
  refine M_two (by omega) hw n y I1 L1 R _ hG hm1 ?_
  intro I2 L2 hm2 kp2
  have hw2 : Wf g := hw
  have hfin := k g I2 L2 hw2 rfl (CI_mk hw2 hc1 kp2) hm2
  rw [← nI_add i 6] at hfin
  exact sm_in (And.intro (fun _ => sm_in (And.intro (Nat.le_of_ble_eq_true rfl) (sm_in hfin))) (fun h => absurd rfl h))
set_option maxRecDepth 100000 in
theorem lw_terms {ex : sm_O} {d bc bs n : Nat} {y : sm_Y} {I : Nat → Nat → Int32} {L : Nat → Nat → Int64} {R : Nat → Nat → Option Nat} {Q : sm_Q} {x0 i : Nat} {g : GG} (hd : 30 ≤ d) (hE : exOK ex) (hx0 : x0 < 2) (hi : i + 6 ≤ (ex.1 x0).1) (hl : (ex.1 x0).1 ≤ 100000) (hw : Wf g) (hc : CI g n y I R) (hm : MI g I L) (k : ∀ (g' : GG) (I' : Nat → Nat → Int32) (L' : Nat → Nat → Int64), Wf g' → gI g' = gI g → CI g' n y I' R → MI g' I' L' → sm_W ex d bc bs 241 18 [some (.retAddr x0), some (.ref 0), some (.ref 123), some (.int (nI (i + 6)))] [] (n, y, I', L', R) Q) : sm_W ex d bc bs 241 309 [some (.retAddr x0), some (.ref 0), some (.ref 123), some (.int (nI i))] [] (n, y, I, L, R) Q := by
  have hG := hc.2.1
  refine sm_in (sm_in (sm_in (sm_in (sm_in (sm_in (And.intro hx0 (And.intro (lw_vp (j := 1) hi (by decide) hl) (sm_in (sm_in (sm_in (sm_in (sm_in (And.intro hx0 (And.intro (lw_vp (j := 2) hi (by decide) hl) (sm_in (Exists.intro 10 (And.intro (hG.1 0 (Nat.le_of_ble_eq_true rfl)) (And.intro rfl (sm_cal 20 0 0 (by omega) (Nat.le_of_ble_eq_true rfl) (Nat.le_of_ble_eq_true rfl) (Nat.le_of_ble_eq_true rfl) (Nat.le_of_ble_eq_true rfl) ?_)))))))))))))))))))
  refine C_terms (by omega) hE hw n y I L R _ hc ?_
  intro I1 L1 hc1 kp1
  have hm1 := MI_ck hw hm kp1
  refine sm_in (sm_in (sm_in (sm_in (sm_in (sm_in (And.intro hx0 (And.intro (lw_vp (j := 1) hi (by decide) hl) (sm_in (sm_in (sm_in (sm_in (sm_in (And.intro hx0 (And.intro (lw_vp (j := 2) hi (by decide) hl) (sm_in (Exists.intro 11 (And.intro (hG.1 123 (Nat.le_of_ble_eq_true rfl)) (And.intro rfl (sm_cal 20 0 0 (by omega) (Nat.le_of_ble_eq_true rfl) (Nat.le_of_ble_eq_true rfl) (Nat.le_of_ble_eq_true rfl) (Nat.le_of_ble_eq_true rfl) ?_)))))))))))))))))))
  refine M_terms (by omega) hw n y I1 L1 R _ hG hm1 ?_
  intro I2 L2 hm2 kp2
  have hw2 : Wf (f_terms g ((ex.1 x0).2 (nI i + 1).toNatClampNeg) ((ex.1 x0).2 (nI i + 2).toNatClampNeg)).2 := Wf_terms hw _ _
  have hfin := k (f_terms g ((ex.1 x0).2 (nI i + 1).toNatClampNeg) ((ex.1 x0).2 (nI i + 2).toNatClampNeg)).2 I2 L2 hw2 (by unfold f_terms; (repeat' split) <;> rfl) (CI_mk hw2 hc1 kp2) hm2
  rw [← nI_add i 6] at hfin
  exact sm_in (And.intro (fun _ => sm_in (And.intro (Nat.le_of_ble_eq_true rfl) (sm_in hfin))) (fun h => absurd rfl h))
set_option maxRecDepth 100000 in
theorem lw_feed {ex : sm_O} {d bc bs n : Nat} {y : sm_Y} {I : Nat → Nat → Int32} {L : Nat → Nat → Int64} {R : Nat → Nat → Option Nat} {Q : sm_Q} {x0 i : Nat} {g : GG} (hd : 30 ≤ d) (hE : exOK ex) (hx0 : x0 < 2) (hi : i + 6 ≤ (ex.1 x0).1) (hl : (ex.1 x0).1 ≤ 100000) (hw : Wf g) (hc : CI g n y I R) (hm : MI g I L) (k : ∀ (g' : GG) (I' : Nat → Nat → Int32) (L' : Nat → Nat → Int64), Wf g' → gI g' = gI g → CI g' n y I' R → MI g' I' L' → sm_W ex d bc bs 241 18 [some (.retAddr x0), some (.ref 0), some (.ref 123), some (.int (nI (i + 6)))] [] (n, y, I', L', R) Q) : sm_W ex d bc bs 241 342 [some (.retAddr x0), some (.ref 0), some (.ref 123), some (.int (nI i))] [] (n, y, I, L, R) Q := by
  have hG := hc.2.1
  refine sm_in (sm_in (sm_in (sm_in (sm_in (sm_in (And.intro hx0 (And.intro (lw_vp (j := 1) hi (by decide) hl) (sm_in (sm_in (sm_in (sm_in (sm_in (And.intro hx0 (And.intro (lw_vp (j := 2) hi (by decide) hl) (sm_in (sm_in (sm_in (sm_in (sm_in (And.intro hx0 (And.intro (lw_vp (j := 3) hi (by decide) hl) (sm_in (sm_in (sm_in (sm_in (sm_in (And.intro hx0 (And.intro (lw_vp (j := 4) hi (by decide) hl) (sm_in (sm_in (sm_in (sm_in (sm_in (And.intro hx0 (And.intro (lw_vp (j := 5) hi (by decide) hl) (sm_in (Exists.intro 10 (And.intro (hG.1 0 (Nat.le_of_ble_eq_true rfl)) (And.intro rfl (sm_cal 20 0 0 (by omega) (Nat.le_of_ble_eq_true rfl) (Nat.le_of_ble_eq_true rfl) (Nat.le_of_ble_eq_true rfl) (Nat.le_of_ble_eq_true rfl) ?_))))))))))))))))))))))))))))))))))))))))
  refine C_feed (by omega) hw n y I L R _ hc ?_
  intro I1 L1 hc1 kp1
  have hm1 := MI_ck hw hm kp1
  refine sm_in (sm_in (sm_in (sm_in (sm_in (sm_in (And.intro hx0 (And.intro (lw_vp (j := 1) hi (by decide) hl) (sm_in (sm_in (sm_in (sm_in (sm_in (And.intro hx0 (And.intro (lw_vp (j := 2) hi (by decide) hl) (sm_in (sm_in (sm_in (sm_in (sm_in (And.intro hx0 (And.intro (lw_vp (j := 3) hi (by decide) hl) (sm_in (sm_in (sm_in (sm_in (sm_in (And.intro hx0 (And.intro (lw_vp (j := 4) hi (by decide) hl) (sm_in (sm_in (sm_in (sm_in (sm_in (And.intro hx0 (And.intro (lw_vp (j := 5) hi (by decide) hl) (sm_in (Exists.intro 11 (And.intro (hG.1 123 (Nat.le_of_ble_eq_true rfl)) (And.intro rfl (sm_cal 20 0 0 (by omega) (Nat.le_of_ble_eq_true rfl) (Nat.le_of_ble_eq_true rfl) (Nat.le_of_ble_eq_true rfl) (Nat.le_of_ble_eq_true rfl) ?_))))))))))))))))))))))))))))))))))))))))
  refine M_feed (by omega) hw n y I1 L1 R _ hG hm1 ?_
  intro I2 L2 hm2 kp2
  have hw2 : Wf (f_feed g ((ex.1 x0).2 (nI i + 1).toNatClampNeg) ((ex.1 x0).2 (nI i + 2).toNatClampNeg) ((ex.1 x0).2 (nI i + 3).toNatClampNeg) ((ex.1 x0).2 (nI i + 4).toNatClampNeg) ((ex.1 x0).2 (nI i + 5).toNatClampNeg)).2 := Wf_feed hw _ _ _ _ _
  have hfin := k (f_feed g ((ex.1 x0).2 (nI i + 1).toNatClampNeg) ((ex.1 x0).2 (nI i + 2).toNatClampNeg) ((ex.1 x0).2 (nI i + 3).toNatClampNeg) ((ex.1 x0).2 (nI i + 4).toNatClampNeg) ((ex.1 x0).2 (nI i + 5).toNatClampNeg)).2 I2 L2 hw2 (by unfold f_feed; (repeat' split) <;> rfl) (CI_mk hw2 hc1 kp2) hm2
  rw [← nI_add i 6] at hfin
  exact sm_in (And.intro (fun _ => sm_in (And.intro (Nat.le_of_ble_eq_true rfl) (sm_in hfin))) (fun h => absurd rfl h))
set_option maxRecDepth 100000 in
theorem lw_end {ex : sm_O} {d bc bs n : Nat} {y : sm_Y} {I : Nat → Nat → Int32} {L : Nat → Nat → Int64} {R : Nat → Nat → Option Nat} {Q : sm_Q} {x0 i : Nat} {g : GG} (hd : 30 ≤ d) (hE : exOK ex) (hx0 : x0 < 2) (hi : i + 6 ≤ (ex.1 x0).1) (hl : (ex.1 x0).1 ≤ 100000) (hw : Wf g) (hc : CI g n y I R) (hm : MI g I L) (k : ∀ (g' : GG) (I' : Nat → Nat → Int32) (L' : Nat → Nat → Int64), Wf g' → gI g' = gI g → CI g' n y I' R → MI g' I' L' → sm_W ex d bc bs 241 18 [some (.retAddr x0), some (.ref 0), some (.ref 123), some (.int (nI (i + 6)))] [] (n, y, I', L', R) Q) : sm_W ex d bc bs 241 405 [some (.retAddr x0), some (.ref 0), some (.ref 123), some (.int (nI i))] [] (n, y, I, L, R) Q := by
  have hG := hc.2.1
  refine sm_in (sm_in (sm_in (sm_in (sm_in (sm_in (And.intro hx0 (And.intro (lw_vp (j := 1) hi (by decide) hl) (sm_in (Exists.intro 10 (And.intro (hG.1 0 (Nat.le_of_ble_eq_true rfl)) (And.intro rfl (sm_cal 20 0 0 (by omega) (Nat.le_of_ble_eq_true rfl) (Nat.le_of_ble_eq_true rfl) (Nat.le_of_ble_eq_true rfl) (Nat.le_of_ble_eq_true rfl) ?_))))))))))))
  refine C_end hw n y I L R _ hc ?_
  intro I1 L1 hc1 kp1
  have hm1 := MI_ck hw hm kp1
  refine sm_in (sm_in (sm_in (sm_in (sm_in (sm_in (And.intro hx0 (And.intro (lw_vp (j := 1) hi (by decide) hl) (sm_in (Exists.intro 11 (And.intro (hG.1 123 (Nat.le_of_ble_eq_true rfl)) (And.intro rfl (sm_cal 20 0 0 (by omega) (Nat.le_of_ble_eq_true rfl) (Nat.le_of_ble_eq_true rfl) (Nat.le_of_ble_eq_true rfl) (Nat.le_of_ble_eq_true rfl) ?_))))))))))))
  refine M_end hw n y I1 L1 R _ hG hm1 ?_
  intro I2 L2 hm2 kp2
  have hw2 : Wf (f_end g ((ex.1 x0).2 (nI i + 1).toNatClampNeg)).2 := Wf_end hw _
  have hfin := k (f_end g ((ex.1 x0).2 (nI i + 1).toNatClampNeg)).2 I2 L2 hw2 (by unfold f_end; (repeat' split) <;> rfl) (CI_mk hw2 hc1 kp2) hm2
  rw [← nI_add i 6] at hfin
  exact sm_in (And.intro (fun _ => sm_in (And.intro (Nat.le_of_ble_eq_true rfl) (sm_in hfin))) (fun h => absurd rfl h))
set_option maxRecDepth 100000 in
theorem lw_row {ex : sm_O} {d bc bs n : Nat} {y : sm_Y} {I : Nat → Nat → Int32} {L : Nat → Nat → Int64} {R : Nat → Nat → Option Nat} {Q : sm_Q} {x0 i : Nat} {g : GG} (hd : 30 ≤ d) (hE : exOK ex) (hx0 : x0 < 2) (hi : i + 6 ≤ (ex.1 x0).1) (hl : (ex.1 x0).1 ≤ 100000) (hw : Wf g) (hc : CI g n y I R) (hm : MI g I L) (k : ∀ (g' : GG) (I' : Nat → Nat → Int32) (L' : Nat → Nat → Int64), Wf g' → gI g' = gI g → CI g' n y I' R → MI g' I' L' → sm_W ex d bc bs 241 18 [some (.retAddr x0), some (.ref 0), some (.ref 123), some (.int (nI (i + 6)))] [] (n, y, I', L', R) Q) : sm_W ex d bc bs 241 428 [some (.retAddr x0), some (.ref 0), some (.ref 123), some (.int (nI i))] [] (n, y, I, L, R) Q := by
  have hG := hc.2.1
  refine sm_in (sm_in (Exists.intro 10 (And.intro (hG.1 0 (Nat.le_of_ble_eq_true rfl)) (And.intro rfl (sm_cal 20 0 0 (by omega) (Nat.le_of_ble_eq_true rfl) (Nat.le_of_ble_eq_true rfl) (Nat.le_of_ble_eq_true rfl) (Nat.le_of_ble_eq_true rfl) ?_)))))
  refine C_row (by omega) hw n y I L R _ hc ?_
  intro I1 L1 hc1 kp1
  have hm1 := MI_ck hw hm kp1
  refine sm_in (sm_in (Exists.intro 11 (And.intro (hG.1 123 (Nat.le_of_ble_eq_true rfl)) (And.intro rfl (sm_cal 20 0 0 (by omega) (Nat.le_of_ble_eq_true rfl) (Nat.le_of_ble_eq_true rfl) (Nat.le_of_ble_eq_true rfl) (Nat.le_of_ble_eq_true rfl) ?_)))))
  refine M_row (by omega) hw n y I1 L1 R _ hG hm1 ?_
  intro I2 L2 hm2 kp2
  have hw2 : Wf (f_row g).2 := Wf_row hw
  have hfin := k (f_row g).2 I2 L2 hw2 (by unfold f_row; (repeat' split) <;> rfl) (CI_mk hw2 hc1 kp2) hm2
  rw [← nI_add i 6] at hfin
  exact sm_in (And.intro (fun _ => sm_in (And.intro (Nat.le_of_ble_eq_true rfl) (sm_in hfin))) (fun h => absurd rfl h))
set_option maxRecDepth 100000 in
theorem lw_pigeons {ex : sm_O} {d bc bs n : Nat} {y : sm_Y} {I : Nat → Nat → Int32} {L : Nat → Nat → Int64} {R : Nat → Nat → Option Nat} {Q : sm_Q} {x0 i : Nat} {g : GG} (hd : 30 ≤ d) (hE : exOK ex) (hx0 : x0 < 2) (hi : i + 6 ≤ (ex.1 x0).1) (hl : (ex.1 x0).1 ≤ 100000) (hw : Wf g) (hc : CI g n y I R) (hm : MI g I L) (k : ∀ (g' : GG) (I' : Nat → Nat → Int32) (L' : Nat → Nat → Int64), Wf g' → gI g' = gI g → CI g' n y I' R → MI g' I' L' → sm_W ex d bc bs 241 18 [some (.retAddr x0), some (.ref 0), some (.ref 123), some (.int (nI (i + 6)))] [] (n, y, I', L', R) Q) : sm_W ex d bc bs 241 441 [some (.retAddr x0), some (.ref 0), some (.ref 123), some (.int (nI i))] [] (n, y, I, L, R) Q := by
  have hG := hc.2.1
  refine sm_in (sm_in (Exists.intro 10 (And.intro (hG.1 0 (Nat.le_of_ble_eq_true rfl)) (And.intro rfl (sm_cal 20 0 0 (by omega) (Nat.le_of_ble_eq_true rfl) (Nat.le_of_ble_eq_true rfl) (Nat.le_of_ble_eq_true rfl) (Nat.le_of_ble_eq_true rfl) ?_)))))
  refine C_pigeons  n y I L R _ hc ?_
  intro I1 L1 hc1 kp1
  have hm1 := MI_ck hw hm kp1
  refine sm_in (sm_in (Exists.intro 11 (And.intro (hG.1 123 (Nat.le_of_ble_eq_true rfl)) (And.intro rfl (sm_cal 20 0 0 (by omega) (Nat.le_of_ble_eq_true rfl) (Nat.le_of_ble_eq_true rfl) (Nat.le_of_ble_eq_true rfl) (Nat.le_of_ble_eq_true rfl) ?_)))))
  refine M_pigeons  n y I1 L1 R _ hG hm1 ?_
  intro I2 L2 hm2 kp2
  have hw2 : Wf g := hw
  have hfin := k g I2 L2 hw2 rfl (CI_mk hw2 hc1 kp2) hm2
  rw [← nI_add i 6] at hfin
  exact sm_in (And.intro (fun _ => sm_in (And.intro (Nat.le_of_ble_eq_true rfl) (sm_in hfin))) (fun h => absurd rfl h))
set_option maxRecDepth 100000 in
theorem lw_fault {ex : sm_O} {d bc bs n : Nat} {y : sm_Y} {I : Nat → Nat → Int32} {L : Nat → Nat → Int64} {R : Nat → Nat → Option Nat} {Q : sm_Q} {x0 i : Nat} {g : GG} (hd : 30 ≤ d) (hE : exOK ex) (hx0 : x0 < 2) (hi : i + 6 ≤ (ex.1 x0).1) (hl : (ex.1 x0).1 ≤ 100000) (hw : Wf g) (hc : CI g n y I R) (hm : MI g I L) (k : ∀ (g' : GG) (I' : Nat → Nat → Int32) (L' : Nat → Nat → Int64), Wf g' → gI g' = gI g → CI g' n y I' R → MI g' I' L' → sm_W ex d bc bs 241 18 [some (.retAddr x0), some (.ref 0), some (.ref 123), some (.int (nI (i + 6)))] [] (n, y, I', L', R) Q) : sm_W ex d bc bs 241 480 [some (.retAddr x0), some (.ref 0), some (.ref 123), some (.int (nI i))] [] (n, y, I, L, R) Q := by
  have hG := hc.2.1
  refine sm_in (sm_in (Exists.intro 10 (And.intro (hG.1 0 (Nat.le_of_ble_eq_true rfl)) (And.intro rfl (sm_cal 20 0 0 (by omega) (Nat.le_of_ble_eq_true rfl) (Nat.le_of_ble_eq_true rfl) (Nat.le_of_ble_eq_true rfl) (Nat.le_of_ble_eq_true rfl) ?_)))))
  refine C_fault  n y I L R _ hc ?_
  intro I1 L1 hc1 kp1
  have hm1 := MI_ck hw hm kp1
  refine sm_in (sm_in (Exists.intro 11 (And.intro (hG.1 123 (Nat.le_of_ble_eq_true rfl)) (And.intro rfl (sm_cal 20 0 0 (by omega) (Nat.le_of_ble_eq_true rfl) (Nat.le_of_ble_eq_true rfl) (Nat.le_of_ble_eq_true rfl) (Nat.le_of_ble_eq_true rfl) ?_)))))
  refine M_fault  n y I1 L1 R _ hG hm1 ?_
  intro I2 L2 hm2 kp2
  have hw2 : Wf g := hw
  have hfin := k g I2 L2 hw2 rfl (CI_mk hw2 hc1 kp2) hm2
  rw [← nI_add i 6] at hfin
  exact sm_in (And.intro (fun _ => sm_in (And.intro (Nat.le_of_ble_eq_true rfl) (sm_in hfin))) (fun h => absurd rfl h))
set_option maxRecDepth 100000 in
theorem lw_stopped {ex : sm_O} {d bc bs n : Nat} {y : sm_Y} {I : Nat → Nat → Int32} {L : Nat → Nat → Int64} {R : Nat → Nat → Option Nat} {Q : sm_Q} {x0 i : Nat} {g : GG} (hd : 30 ≤ d) (hE : exOK ex) (hx0 : x0 < 2) (hi : i + 6 ≤ (ex.1 x0).1) (hl : (ex.1 x0).1 ≤ 100000) (hw : Wf g) (hc : CI g n y I R) (hm : MI g I L) (k : ∀ (g' : GG) (I' : Nat → Nat → Int32) (L' : Nat → Nat → Int64), Wf g' → gI g' = gI g → CI g' n y I' R → MI g' I' L' → sm_W ex d bc bs 241 18 [some (.retAddr x0), some (.ref 0), some (.ref 123), some (.int (nI (i + 6)))] [] (n, y, I', L', R) Q) : sm_W ex d bc bs 241 493 [some (.retAddr x0), some (.ref 0), some (.ref 123), some (.int (nI i))] [] (n, y, I, L, R) Q := by
  have hG := hc.2.1
  refine sm_in (sm_in (Exists.intro 10 (And.intro (hG.1 0 (Nat.le_of_ble_eq_true rfl)) (And.intro rfl (sm_cal 20 0 0 (by omega) (Nat.le_of_ble_eq_true rfl) (Nat.le_of_ble_eq_true rfl) (Nat.le_of_ble_eq_true rfl) (Nat.le_of_ble_eq_true rfl) ?_)))))
  refine C_stopped  n y I L R _ hc ?_
  intro I1 L1 hc1 kp1
  have hm1 := MI_ck hw hm kp1
  refine sm_in (sm_in (Exists.intro 11 (And.intro (hG.1 123 (Nat.le_of_ble_eq_true rfl)) (And.intro rfl (sm_cal 20 0 0 (by omega) (Nat.le_of_ble_eq_true rfl) (Nat.le_of_ble_eq_true rfl) (Nat.le_of_ble_eq_true rfl) (Nat.le_of_ble_eq_true rfl) ?_)))))
  refine M_stopped  n y I1 L1 R _ hG hm1 ?_
  intro I2 L2 hm2 kp2
  have hw2 : Wf g := hw
  have hfin := k g I2 L2 hw2 rfl (CI_mk hw2 hc1 kp2) hm2
  rw [← nI_add i 6] at hfin
  exact sm_in (And.intro (fun _ => sm_in (And.intro (Nat.le_of_ble_eq_true rfl) (sm_in hfin))) (fun h => absurd rfl h))
set_option maxRecDepth 100000 in
theorem lw_force {ex : sm_O} {d bc bs n : Nat} {y : sm_Y} {I : Nat → Nat → Int32} {L : Nat → Nat → Int64} {R : Nat → Nat → Option Nat} {Q : sm_Q} {x0 i : Nat} {g : GG} (hd : 30 ≤ d) (hE : exOK ex) (hx0 : x0 < 2) (hi : i + 6 ≤ (ex.1 x0).1) (hl : (ex.1 x0).1 ≤ 100000) (hw : Wf g) (hc : CI g n y I R) (hm : MI g I L) (k : ∀ (g' : GG) (I' : Nat → Nat → Int32) (L' : Nat → Nat → Int64), Wf g' → gI g' = gI g → CI g' n y I' R → MI g' I' L' → sm_W ex d bc bs 241 18 [some (.retAddr x0), some (.ref 0), some (.ref 123), some (.int (nI (i + 6)))] [] (n, y, I', L', R) Q) : sm_W ex d bc bs 241 506 [some (.retAddr x0), some (.ref 0), some (.ref 123), some (.int (nI i))] [] (n, y, I, L, R) Q := by
  have hG := hc.2.1
  refine sm_in (sm_in (sm_in (sm_in (sm_in (sm_in (And.intro hx0 (And.intro (lw_vp (j := 1) hi (by decide) hl) (sm_in (Exists.intro 10 (And.intro (hG.1 0 (Nat.le_of_ble_eq_true rfl)) (And.intro rfl (sm_cal 20 0 0 (by omega) (Nat.le_of_ble_eq_true rfl) (Nat.le_of_ble_eq_true rfl) (Nat.le_of_ble_eq_true rfl) (Nat.le_of_ble_eq_true rfl) ?_))))))))))))
  refine C_force (by omega) hw n y I L R _ hc ?_
  intro I1 L1 hc1 kp1
  have hm1 := MI_ck hw hm kp1
  refine sm_in (sm_in (sm_in (sm_in (sm_in (sm_in (And.intro hx0 (And.intro (lw_vp (j := 1) hi (by decide) hl) (sm_in (Exists.intro 11 (And.intro (hG.1 123 (Nat.le_of_ble_eq_true rfl)) (And.intro rfl (sm_cal 20 0 0 (by omega) (Nat.le_of_ble_eq_true rfl) (Nat.le_of_ble_eq_true rfl) (Nat.le_of_ble_eq_true rfl) (Nat.le_of_ble_eq_true rfl) ?_))))))))))))
  refine M_force (by omega) hw n y I1 L1 R _ hG hm1 ?_
  intro I2 L2 hm2 kp2
  have hw2 : Wf (f_force g ((ex.1 x0).2 (nI i + 1).toNatClampNeg)).2 := Wf_force hw _
  have hfin := k (f_force g ((ex.1 x0).2 (nI i + 1).toNatClampNeg)).2 I2 L2 hw2 (by unfold f_force; (repeat' split) <;> rfl) (CI_mk hw2 hc1 kp2) hm2
  rw [← nI_add i 6] at hfin
  exact sm_in (And.intro (fun _ => sm_in (And.intro (Nat.le_of_ble_eq_true rfl) (sm_in hfin))) (fun h => absurd rfl h))
set_option maxRecDepth 100000 in
theorem lw_relieve {ex : sm_O} {d bc bs n : Nat} {y : sm_Y} {I : Nat → Nat → Int32} {L : Nat → Nat → Int64} {R : Nat → Nat → Option Nat} {Q : sm_Q} {x0 i : Nat} {g : GG} (hd : 30 ≤ d) (hE : exOK ex) (hx0 : x0 < 2) (hi : i + 6 ≤ (ex.1 x0).1) (hl : (ex.1 x0).1 ≤ 100000) (hw : Wf g) (hc : CI g n y I R) (hm : MI g I L) (k : ∀ (g' : GG) (I' : Nat → Nat → Int32) (L' : Nat → Nat → Int64), Wf g' → gI g' = gI g → CI g' n y I' R → MI g' I' L' → sm_W ex d bc bs 241 18 [some (.retAddr x0), some (.ref 0), some (.ref 123), some (.int (nI (i + 6)))] [] (n, y, I', L', R) Q) : sm_W ex d bc bs 241 529 [some (.retAddr x0), some (.ref 0), some (.ref 123), some (.int (nI i))] [] (n, y, I, L, R) Q := by
  have hG := hc.2.1
  refine sm_in (sm_in (sm_in (sm_in (sm_in (sm_in (And.intro hx0 (And.intro (lw_vp (j := 1) hi (by decide) hl) (sm_in (Exists.intro 10 (And.intro (hG.1 0 (Nat.le_of_ble_eq_true rfl)) (And.intro rfl (sm_cal 20 0 0 (by omega) (Nat.le_of_ble_eq_true rfl) (Nat.le_of_ble_eq_true rfl) (Nat.le_of_ble_eq_true rfl) (Nat.le_of_ble_eq_true rfl) ?_))))))))))))
  refine C_relieve (by omega) hE hw n y I L R _ hc ?_
  intro I1 L1 hc1 kp1
  have hm1 := MI_ck hw hm kp1
  refine sm_in (sm_in (sm_in (sm_in (sm_in (sm_in (And.intro hx0 (And.intro (lw_vp (j := 1) hi (by decide) hl) (sm_in (Exists.intro 11 (And.intro (hG.1 123 (Nat.le_of_ble_eq_true rfl)) (And.intro rfl (sm_cal 20 0 0 (by omega) (Nat.le_of_ble_eq_true rfl) (Nat.le_of_ble_eq_true rfl) (Nat.le_of_ble_eq_true rfl) (Nat.le_of_ble_eq_true rfl) ?_))))))))))))
  refine M_relieve (by omega) hw n y I1 L1 R _ hG hm1 ?_
  intro I2 L2 hm2 kp2
  have hw2 : Wf (f_act g 0 ((ex.1 x0).2 (nI i + 1).toNatClampNeg)).2 := Wf_act hw _ _
  have hfin := k (f_act g 0 ((ex.1 x0).2 (nI i + 1).toNatClampNeg)).2 I2 L2 hw2 (by unfold f_act; (repeat' split) <;> rfl) (CI_mk hw2 hc1 kp2) hm2
  rw [← nI_add i 6] at hfin
  exact sm_in (And.intro (fun _ => sm_in (And.intro (Nat.le_of_ble_eq_true rfl) (sm_in hfin))) (fun h => absurd rfl h))
set_option maxRecDepth 100000 in
theorem lw_sneeze {ex : sm_O} {d bc bs n : Nat} {y : sm_Y} {I : Nat → Nat → Int32} {L : Nat → Nat → Int64} {R : Nat → Nat → Option Nat} {Q : sm_Q} {x0 i : Nat} {g : GG} (hd : 30 ≤ d) (hE : exOK ex) (hx0 : x0 < 2) (hi : i + 6 ≤ (ex.1 x0).1) (hl : (ex.1 x0).1 ≤ 100000) (hw : Wf g) (hc : CI g n y I R) (hm : MI g I L) (k : ∀ (g' : GG) (I' : Nat → Nat → Int32) (L' : Nat → Nat → Int64), Wf g' → gI g' = gI g → CI g' n y I' R → MI g' I' L' → sm_W ex d bc bs 241 18 [some (.retAddr x0), some (.ref 0), some (.ref 123), some (.int (nI (i + 6)))] [] (n, y, I', L', R) Q) : sm_W ex d bc bs 241 552 [some (.retAddr x0), some (.ref 0), some (.ref 123), some (.int (nI i))] [] (n, y, I, L, R) Q := by
  have hG := hc.2.1
  refine sm_in (sm_in (sm_in (sm_in (sm_in (sm_in (And.intro hx0 (And.intro (lw_vp (j := 1) hi (by decide) hl) (sm_in (Exists.intro 10 (And.intro (hG.1 0 (Nat.le_of_ble_eq_true rfl)) (And.intro rfl (sm_cal 20 0 0 (by omega) (Nat.le_of_ble_eq_true rfl) (Nat.le_of_ble_eq_true rfl) (Nat.le_of_ble_eq_true rfl) (Nat.le_of_ble_eq_true rfl) ?_))))))))))))
  refine C_sneeze (by omega) hE hw n y I L R _ hc ?_
  intro I1 L1 hc1 kp1
  have hm1 := MI_ck hw hm kp1
  refine sm_in (sm_in (sm_in (sm_in (sm_in (sm_in (And.intro hx0 (And.intro (lw_vp (j := 1) hi (by decide) hl) (sm_in (Exists.intro 11 (And.intro (hG.1 123 (Nat.le_of_ble_eq_true rfl)) (And.intro rfl (sm_cal 20 0 0 (by omega) (Nat.le_of_ble_eq_true rfl) (Nat.le_of_ble_eq_true rfl) (Nat.le_of_ble_eq_true rfl) (Nat.le_of_ble_eq_true rfl) ?_))))))))))))
  refine M_sneeze (by omega) hw n y I1 L1 R _ hG hm1 ?_
  intro I2 L2 hm2 kp2
  have hw2 : Wf (f_act g 1 ((ex.1 x0).2 (nI i + 1).toNatClampNeg)).2 := Wf_act hw _ _
  have hfin := k (f_act g 1 ((ex.1 x0).2 (nI i + 1).toNatClampNeg)).2 I2 L2 hw2 (by unfold f_act; (repeat' split) <;> rfl) (CI_mk hw2 hc1 kp2) hm2
  rw [← nI_add i 6] at hfin
  exact sm_in (And.intro (fun _ => sm_in (And.intro (Nat.le_of_ble_eq_true rfl) (sm_in hfin))) (fun h => absurd rfl h))
set_option maxRecDepth 100000 in
theorem lw_pardon {ex : sm_O} {d bc bs n : Nat} {y : sm_Y} {I : Nat → Nat → Int32} {L : Nat → Nat → Int64} {R : Nat → Nat → Option Nat} {Q : sm_Q} {x0 i : Nat} {g : GG} (hd : 30 ≤ d) (hE : exOK ex) (hx0 : x0 < 2) (hi : i + 6 ≤ (ex.1 x0).1) (hl : (ex.1 x0).1 ≤ 100000) (hw : Wf g) (hc : CI g n y I R) (hm : MI g I L) (k : ∀ (g' : GG) (I' : Nat → Nat → Int32) (L' : Nat → Nat → Int64), Wf g' → gI g' = gI g → CI g' n y I' R → MI g' I' L' → sm_W ex d bc bs 241 18 [some (.retAddr x0), some (.ref 0), some (.ref 123), some (.int (nI (i + 6)))] [] (n, y, I', L', R) Q) : sm_W ex d bc bs 241 575 [some (.retAddr x0), some (.ref 0), some (.ref 123), some (.int (nI i))] [] (n, y, I, L, R) Q := by
  have hG := hc.2.1
  refine sm_in (sm_in (sm_in (sm_in (sm_in (sm_in (And.intro hx0 (And.intro (lw_vp (j := 1) hi (by decide) hl) (sm_in (Exists.intro 10 (And.intro (hG.1 0 (Nat.le_of_ble_eq_true rfl)) (And.intro rfl (sm_cal 20 0 0 (by omega) (Nat.le_of_ble_eq_true rfl) (Nat.le_of_ble_eq_true rfl) (Nat.le_of_ble_eq_true rfl) (Nat.le_of_ble_eq_true rfl) ?_))))))))))))
  refine C_pardon (by omega) hE hw n y I L R _ hc ?_
  intro I1 L1 hc1 kp1
  have hm1 := MI_ck hw hm kp1
  refine sm_in (sm_in (sm_in (sm_in (sm_in (sm_in (And.intro hx0 (And.intro (lw_vp (j := 1) hi (by decide) hl) (sm_in (Exists.intro 11 (And.intro (hG.1 123 (Nat.le_of_ble_eq_true rfl)) (And.intro rfl (sm_cal 20 0 0 (by omega) (Nat.le_of_ble_eq_true rfl) (Nat.le_of_ble_eq_true rfl) (Nat.le_of_ble_eq_true rfl) (Nat.le_of_ble_eq_true rfl) ?_))))))))))))
  refine M_pardon (by omega) hw n y I1 L1 R _ hG hm1 ?_
  intro I2 L2 hm2 kp2
  have hw2 : Wf (f_act g 2 ((ex.1 x0).2 (nI i + 1).toNatClampNeg)).2 := Wf_act hw _ _
  have hfin := k (f_act g 2 ((ex.1 x0).2 (nI i + 1).toNatClampNeg)).2 I2 L2 hw2 (by unfold f_act; (repeat' split) <;> rfl) (CI_mk hw2 hc1 kp2) hm2
  rw [← nI_add i 6] at hfin
  exact sm_in (And.intro (fun _ => sm_in (And.intro (Nat.le_of_ble_eq_true rfl) (sm_in hfin))) (fun h => absurd rfl h))
set_option maxRecDepth 100000 in
theorem lw_pass {ex : sm_O} {d bc bs n : Nat} {y : sm_Y} {I : Nat → Nat → Int32} {L : Nat → Nat → Int64} {R : Nat → Nat → Option Nat} {Q : sm_Q} {x0 i : Nat} {g : GG} (hd : 30 ≤ d) (hE : exOK ex) (hx0 : x0 < 2) (hi : i + 6 ≤ (ex.1 x0).1) (hl : (ex.1 x0).1 ≤ 100000) (hw : Wf g) (hc : CI g n y I R) (hm : MI g I L) (k : ∀ (g' : GG) (I' : Nat → Nat → Int32) (L' : Nat → Nat → Int64), Wf g' → gI g' = gI g → CI g' n y I' R → MI g' I' L' → sm_W ex d bc bs 241 18 [some (.retAddr x0), some (.ref 0), some (.ref 123), some (.int (nI (i + 6)))] [] (n, y, I', L', R) Q) : sm_W ex d bc bs 241 598 [some (.retAddr x0), some (.ref 0), some (.ref 123), some (.int (nI i))] [] (n, y, I, L, R) Q := by
  have hG := hc.2.1
  refine sm_in (sm_in (Exists.intro 10 (And.intro (hG.1 0 (Nat.le_of_ble_eq_true rfl)) (And.intro rfl (sm_cal 20 0 0 (by omega) (Nat.le_of_ble_eq_true rfl) (Nat.le_of_ble_eq_true rfl) (Nat.le_of_ble_eq_true rfl) (Nat.le_of_ble_eq_true rfl) ?_)))))
  refine C_pass (by omega) hE hw n y I L R _ hc ?_
  intro I1 L1 hc1 kp1
  have hm1 := MI_ck hw hm kp1
  refine sm_in (sm_in (Exists.intro 11 (And.intro (hG.1 123 (Nat.le_of_ble_eq_true rfl)) (And.intro rfl (sm_cal 20 0 0 (by omega) (Nat.le_of_ble_eq_true rfl) (Nat.le_of_ble_eq_true rfl) (Nat.le_of_ble_eq_true rfl) (Nat.le_of_ble_eq_true rfl) ?_)))))
  refine M_pass (by omega) hw n y I1 L1 R _ hG hm1 ?_
  intro I2 L2 hm2 kp2
  have hw2 : Wf (f_act g 3 (-1)).2 := Wf_act hw _ _
  have hfin := k (f_act g 3 (-1)).2 I2 L2 hw2 (by unfold f_act; (repeat' split) <;> rfl) (CI_mk hw2 hc1 kp2) hm2
  rw [← nI_add i 6] at hfin
  exact sm_in (And.intro (fun _ => sm_in (And.intro (Nat.le_of_ble_eq_true rfl) (sm_in hfin))) (fun h => absurd rfl h))
set_option maxRecDepth 100000 in
theorem lw_undo {ex : sm_O} {d bc bs n : Nat} {y : sm_Y} {I : Nat → Nat → Int32} {L : Nat → Nat → Int64} {R : Nat → Nat → Option Nat} {Q : sm_Q} {x0 i : Nat} {g : GG} (hd : 30 ≤ d) (hE : exOK ex) (hx0 : x0 < 2) (hi : i + 6 ≤ (ex.1 x0).1) (hl : (ex.1 x0).1 ≤ 100000) (hw : Wf g) (hc : CI g n y I R) (hm : MI g I L) (k : ∀ (g' : GG) (I' : Nat → Nat → Int32) (L' : Nat → Nat → Int64), Wf g' → gI g' = gI g → CI g' n y I' R → MI g' I' L' → sm_W ex d bc bs 241 18 [some (.retAddr x0), some (.ref 0), some (.ref 123), some (.int (nI (i + 6)))] [] (n, y, I', L', R) Q) : sm_W ex d bc bs 241 611 [some (.retAddr x0), some (.ref 0), some (.ref 123), some (.int (nI i))] [] (n, y, I, L, R) Q := by
  have hG := hc.2.1
  refine sm_in (sm_in (Exists.intro 10 (And.intro (hG.1 0 (Nat.le_of_ble_eq_true rfl)) (And.intro rfl (sm_cal 20 0 0 (by omega) (Nat.le_of_ble_eq_true rfl) (Nat.le_of_ble_eq_true rfl) (Nat.le_of_ble_eq_true rfl) (Nat.le_of_ble_eq_true rfl) ?_)))))
  refine C_undo (by omega) hw n y I L R _ hc ?_
  intro I1 L1 hc1 kp1
  have hm1 := MI_ck hw hm kp1
  refine sm_in (sm_in (Exists.intro 11 (And.intro (hG.1 123 (Nat.le_of_ble_eq_true rfl)) (And.intro rfl (sm_cal 20 0 0 (by omega) (Nat.le_of_ble_eq_true rfl) (Nat.le_of_ble_eq_true rfl) (Nat.le_of_ble_eq_true rfl) (Nat.le_of_ble_eq_true rfl) ?_)))))
  refine M_undo (by omega) hw n y I1 L1 R _ hG hm1 ?_
  intro I2 L2 hm2 kp2
  have hw2 : Wf (f_undo g).2 := Wf_undo hw
  have hfin := k (f_undo g).2 I2 L2 hw2 (by unfold f_undo; (repeat' split) <;> rfl) (CI_mk hw2 hc1 kp2) hm2
  rw [← nI_add i 6] at hfin
  exact sm_in (And.intro (fun _ => sm_in (And.intro (Nat.le_of_ble_eq_true rfl) (sm_in hfin))) (fun h => absurd rfl h))
set_option maxRecDepth 100000 in
theorem lw_holds {ex : sm_O} {d bc bs n : Nat} {y : sm_Y} {I : Nat → Nat → Int32} {L : Nat → Nat → Int64} {R : Nat → Nat → Option Nat} {Q : sm_Q} {x0 i : Nat} {g : GG} (hd : 30 ≤ d) (hE : exOK ex) (hx0 : x0 < 2) (hi : i + 6 ≤ (ex.1 x0).1) (hl : (ex.1 x0).1 ≤ 100000) (hw : Wf g) (hc : CI g n y I R) (hm : MI g I L) (k : ∀ (g' : GG) (I' : Nat → Nat → Int32) (L' : Nat → Nat → Int64), Wf g' → gI g' = gI g → CI g' n y I' R → MI g' I' L' → sm_W ex d bc bs 241 18 [some (.retAddr x0), some (.ref 0), some (.ref 123), some (.int (nI (i + 6)))] [] (n, y, I', L', R) Q) : sm_W ex d bc bs 241 624 [some (.retAddr x0), some (.ref 0), some (.ref 123), some (.int (nI i))] [] (n, y, I, L, R) Q := by
  have hG := hc.2.1
  refine sm_in (sm_in (sm_in (sm_in (sm_in (sm_in (And.intro hx0 (And.intro (lw_vp (j := 1) hi (by decide) hl) (sm_in (Exists.intro 10 (And.intro (hG.1 0 (Nat.le_of_ble_eq_true rfl)) (And.intro rfl (sm_cal 20 0 0 (by omega) (Nat.le_of_ble_eq_true rfl) (Nat.le_of_ble_eq_true rfl) (Nat.le_of_ble_eq_true rfl) (Nat.le_of_ble_eq_true rfl) ?_))))))))))))
  refine C_holds (by omega) hw n y I L R _ hc ?_
  intro I1 L1 hc1 kp1
  have hm1 := MI_ck hw hm kp1
  refine sm_in (sm_in (sm_in (sm_in (sm_in (sm_in (And.intro hx0 (And.intro (lw_vp (j := 1) hi (by decide) hl) (sm_in (Exists.intro 11 (And.intro (hG.1 123 (Nat.le_of_ble_eq_true rfl)) (And.intro rfl (sm_cal 20 0 0 (by omega) (Nat.le_of_ble_eq_true rfl) (Nat.le_of_ble_eq_true rfl) (Nat.le_of_ble_eq_true rfl) (Nat.le_of_ble_eq_true rfl) ?_))))))))))))
  refine M_holds (by omega) hw n y I1 L1 R _ hG hm1 ?_
  intro I2 L2 hm2 kp2
  have hw2 : Wf g := hw
  have hfin := k g I2 L2 hw2 rfl (CI_mk hw2 hc1 kp2) hm2
  rw [← nI_add i 6] at hfin
  exact sm_in (And.intro (fun _ => sm_in (And.intro (Nat.le_of_ble_eq_true rfl) (sm_in hfin))) (fun h => absurd rfl h))
set_option maxRecDepth 100000 in
theorem lw_later {ex : sm_O} {d bc bs n : Nat} {y : sm_Y} {I : Nat → Nat → Int32} {L : Nat → Nat → Int64} {R : Nat → Nat → Option Nat} {Q : sm_Q} {x0 i : Nat} {g : GG} (hd : 30 ≤ d) (hE : exOK ex) (hx0 : x0 < 2) (hi : i + 6 ≤ (ex.1 x0).1) (hl : (ex.1 x0).1 ≤ 100000) (hw : Wf g) (hc : CI g n y I R) (hm : MI g I L) (k : ∀ (g' : GG) (I' : Nat → Nat → Int32) (L' : Nat → Nat → Int64), Wf g' → gI g' = gI g → CI g' n y I' R → MI g' I' L' → sm_W ex d bc bs 241 18 [some (.retAddr x0), some (.ref 0), some (.ref 123), some (.int (nI (i + 6)))] [] (n, y, I', L', R) Q) : sm_W ex d bc bs 241 647 [some (.retAddr x0), some (.ref 0), some (.ref 123), some (.int (nI i))] [] (n, y, I, L, R) Q := by
  have hG := hc.2.1
  refine sm_in (sm_in (sm_in (sm_in (sm_in (sm_in (And.intro hx0 (And.intro (lw_vp (j := 1) hi (by decide) hl) (sm_in (sm_in (sm_in (sm_in (sm_in (And.intro hx0 (And.intro (lw_vp (j := 2) hi (by decide) hl) (sm_in (Exists.intro 10 (And.intro (hG.1 0 (Nat.le_of_ble_eq_true rfl)) (And.intro rfl (sm_cal 20 0 0 (by omega) (Nat.le_of_ble_eq_true rfl) (Nat.le_of_ble_eq_true rfl) (Nat.le_of_ble_eq_true rfl) (Nat.le_of_ble_eq_true rfl) ?_)))))))))))))))))))
  refine C_later (by omega) hw n y I L R _ hc ?_
  intro I1 L1 hc1 kp1
  have hm1 := MI_ck hw hm kp1
  refine sm_in (sm_in (sm_in (sm_in (sm_in (sm_in (And.intro hx0 (And.intro (lw_vp (j := 1) hi (by decide) hl) (sm_in (sm_in (sm_in (sm_in (sm_in (And.intro hx0 (And.intro (lw_vp (j := 2) hi (by decide) hl) (sm_in (Exists.intro 11 (And.intro (hG.1 123 (Nat.le_of_ble_eq_true rfl)) (And.intro rfl (sm_cal 20 0 0 (by omega) (Nat.le_of_ble_eq_true rfl) (Nat.le_of_ble_eq_true rfl) (Nat.le_of_ble_eq_true rfl) (Nat.le_of_ble_eq_true rfl) ?_)))))))))))))))))))
  refine M_later (by omega) hw n y I1 L1 R _ hG hm1 ?_
  intro I2 L2 hm2 kp2
  have hw2 : Wf g := hw
  have hfin := k g I2 L2 hw2 rfl (CI_mk hw2 hc1 kp2) hm2
  rw [← nI_add i 6] at hfin
  exact sm_in (And.intro (fun _ => sm_in (And.intro (Nat.le_of_ble_eq_true rfl) (sm_in hfin))) (fun h => absurd rfl h))
set_option maxRecDepth 100000 in
theorem lw_moment {ex : sm_O} {d bc bs n : Nat} {y : sm_Y} {I : Nat → Nat → Int32} {L : Nat → Nat → Int64} {R : Nat → Nat → Option Nat} {Q : sm_Q} {x0 i : Nat} {g : GG} (hd : 30 ≤ d) (hE : exOK ex) (hx0 : x0 < 2) (hi : i + 6 ≤ (ex.1 x0).1) (hl : (ex.1 x0).1 ≤ 100000) (hw : Wf g) (hc : CI g n y I R) (hm : MI g I L) (k : ∀ (g' : GG) (I' : Nat → Nat → Int32) (L' : Nat → Nat → Int64), Wf g' → gI g' = gI g → CI g' n y I' R → MI g' I' L' → sm_W ex d bc bs 241 18 [some (.retAddr x0), some (.ref 0), some (.ref 123), some (.int (nI (i + 6)))] [] (n, y, I', L', R) Q) : sm_W ex d bc bs 241 680 [some (.retAddr x0), some (.ref 0), some (.ref 123), some (.int (nI i))] [] (n, y, I, L, R) Q := by
  have hG := hc.2.1
  refine sm_in (sm_in (sm_in (sm_in (sm_in (sm_in (And.intro hx0 (And.intro (lw_vp (j := 1) hi (by decide) hl) (sm_in (sm_in (sm_in (sm_in (sm_in (And.intro hx0 (And.intro (lw_vp (j := 2) hi (by decide) hl) (sm_in (Exists.intro 10 (And.intro (hG.1 0 (Nat.le_of_ble_eq_true rfl)) (And.intro rfl (sm_cal 20 0 0 (by omega) (Nat.le_of_ble_eq_true rfl) (Nat.le_of_ble_eq_true rfl) (Nat.le_of_ble_eq_true rfl) (Nat.le_of_ble_eq_true rfl) ?_)))))))))))))))))))
  refine C_moment (by omega) hw n y I L R _ hc ?_
  intro I1 L1 hc1 kp1
  have hm1 := MI_ck hw hm kp1
  refine sm_in (sm_in (sm_in (sm_in (sm_in (sm_in (And.intro hx0 (And.intro (lw_vp (j := 1) hi (by decide) hl) (sm_in (sm_in (sm_in (sm_in (sm_in (And.intro hx0 (And.intro (lw_vp (j := 2) hi (by decide) hl) (sm_in (Exists.intro 11 (And.intro (hG.1 123 (Nat.le_of_ble_eq_true rfl)) (And.intro rfl (sm_cal 20 0 0 (by omega) (Nat.le_of_ble_eq_true rfl) (Nat.le_of_ble_eq_true rfl) (Nat.le_of_ble_eq_true rfl) (Nat.le_of_ble_eq_true rfl) ?_)))))))))))))))))))
  refine M_moment (by omega) hw n y I1 L1 R _ hG hm1 ?_
  intro I2 L2 hm2 kp2
  have hw2 : Wf g := hw
  have hfin := k g I2 L2 hw2 rfl (CI_mk hw2 hc1 kp2) hm2
  rw [← nI_add i 6] at hfin
  exact sm_in (And.intro (fun _ => sm_in (And.intro (Nat.le_of_ble_eq_true rfl) (sm_in hfin))) (fun h => absurd rfl h))
set_option maxRecDepth 100000 in
theorem lw_rota {ex : sm_O} {d bc bs n : Nat} {y : sm_Y} {I : Nat → Nat → Int32} {L : Nat → Nat → Int64} {R : Nat → Nat → Option Nat} {Q : sm_Q} {x0 i : Nat} {g : GG} (hd : 30 ≤ d) (hE : exOK ex) (hx0 : x0 < 2) (hi : i + 6 ≤ (ex.1 x0).1) (hl : (ex.1 x0).1 ≤ 100000) (hw : Wf g) (hc : CI g n y I R) (hm : MI g I L) (k : ∀ (g' : GG) (I' : Nat → Nat → Int32) (L' : Nat → Nat → Int64), Wf g' → gI g' = gI g → CI g' n y I' R → MI g' I' L' → sm_W ex d bc bs 241 18 [some (.retAddr x0), some (.ref 0), some (.ref 123), some (.int (nI (i + 6)))] [] (n, y, I', L', R) Q) : sm_W ex d bc bs 241 713 [some (.retAddr x0), some (.ref 0), some (.ref 123), some (.int (nI i))] [] (n, y, I, L, R) Q := by
  have hG := hc.2.1
  refine sm_in (sm_in (sm_in (sm_in (sm_in (sm_in (And.intro hx0 (And.intro (lw_vp (j := 1) hi (by decide) hl) (sm_in (sm_in (sm_in (sm_in (sm_in (And.intro hx0 (And.intro (lw_vp (j := 2) hi (by decide) hl) (sm_in (Exists.intro 10 (And.intro (hG.1 0 (Nat.le_of_ble_eq_true rfl)) (And.intro rfl (sm_cal 20 0 0 (by omega) (Nat.le_of_ble_eq_true rfl) (Nat.le_of_ble_eq_true rfl) (Nat.le_of_ble_eq_true rfl) (Nat.le_of_ble_eq_true rfl) ?_)))))))))))))))))))
  refine C_rota (by omega) hw n y I L R _ hc ?_
  intro I1 L1 hc1 kp1
  have hm1 := MI_ck hw hm kp1
  refine sm_in (sm_in (sm_in (sm_in (sm_in (sm_in (And.intro hx0 (And.intro (lw_vp (j := 1) hi (by decide) hl) (sm_in (sm_in (sm_in (sm_in (sm_in (And.intro hx0 (And.intro (lw_vp (j := 2) hi (by decide) hl) (sm_in (Exists.intro 11 (And.intro (hG.1 123 (Nat.le_of_ble_eq_true rfl)) (And.intro rfl (sm_cal 20 0 0 (by omega) (Nat.le_of_ble_eq_true rfl) (Nat.le_of_ble_eq_true rfl) (Nat.le_of_ble_eq_true rfl) (Nat.le_of_ble_eq_true rfl) ?_)))))))))))))))))))
  refine M_rota (by omega) hw n y I1 L1 R _ hG hm1 ?_
  intro I2 L2 hm2 kp2
  have hw2 : Wf g := hw
  have hfin := k g I2 L2 hw2 rfl (CI_mk hw2 hc1 kp2) hm2
  rw [← nI_add i 6] at hfin
  exact sm_in (And.intro (fun _ => sm_in (And.intro (Nat.le_of_ble_eq_true rfl) (sm_in hfin))) (fun h => absurd rfl h))
set_option maxRecDepth 100000 in
theorem lw_order {ex : sm_O} {d bc bs n : Nat} {y : sm_Y} {I : Nat → Nat → Int32} {L : Nat → Nat → Int64} {R : Nat → Nat → Option Nat} {Q : sm_Q} {x0 i : Nat} {g : GG} (hd : 30 ≤ d) (hE : exOK ex) (hx0 : x0 < 2) (hi : i + 6 ≤ (ex.1 x0).1) (hl : (ex.1 x0).1 ≤ 100000) (hw : Wf g) (hc : CI g n y I R) (hm : MI g I L) (k : ∀ (g' : GG) (I' : Nat → Nat → Int32) (L' : Nat → Nat → Int64), Wf g' → gI g' = gI g → CI g' n y I' R → MI g' I' L' → sm_W ex d bc bs 241 18 [some (.retAddr x0), some (.ref 0), some (.ref 123), some (.int (nI (i + 6)))] [] (n, y, I', L', R) Q) : sm_W ex d bc bs 241 746 [some (.retAddr x0), some (.ref 0), some (.ref 123), some (.int (nI i))] [] (n, y, I, L, R) Q := by
  have hG := hc.2.1
  refine sm_in (sm_in (sm_in (sm_in (sm_in (sm_in (And.intro hx0 (And.intro (lw_vp (j := 1) hi (by decide) hl) (sm_in (Exists.intro 10 (And.intro (hG.1 0 (Nat.le_of_ble_eq_true rfl)) (And.intro rfl (sm_cal 20 0 0 (by omega) (Nat.le_of_ble_eq_true rfl) (Nat.le_of_ble_eq_true rfl) (Nat.le_of_ble_eq_true rfl) (Nat.le_of_ble_eq_true rfl) ?_))))))))))))
  refine C_order (by omega) hw (sp_arr_some hw.1.1) n y I L R _ hc ?_
  intro I1 L1 hc1 kp1
  have hm1 := MI_ck hw hm kp1
  refine sm_in (sm_in (sm_in (sm_in (sm_in (sm_in (And.intro hx0 (And.intro (lw_vp (j := 1) hi (by decide) hl) (sm_in (Exists.intro 11 (And.intro (hG.1 123 (Nat.le_of_ble_eq_true rfl)) (And.intro rfl (sm_cal 20 0 0 (by omega) (Nat.le_of_ble_eq_true rfl) (Nat.le_of_ble_eq_true rfl) (Nat.le_of_ble_eq_true rfl) (Nat.le_of_ble_eq_true rfl) ?_))))))))))))
  refine M_order (by omega) hw n y I1 L1 R _ hG hm1 ?_
  intro I2 L2 hm2 kp2
  have hw2 : Wf g := hw
  have hfin := k g I2 L2 hw2 rfl (CI_mk hw2 hc1 kp2) hm2
  rw [← nI_add i 6] at hfin
  exact sm_in (And.intro (fun _ => sm_in (And.intro (Nat.le_of_ble_eq_true rfl) (sm_in hfin))) (fun h => absurd rfl h))
set_option maxRecDepth 100000 in
theorem lw_chain {ex : sm_O} {d bc bs n : Nat} {y : sm_Y} {I : Nat → Nat → Int32} {L : Nat → Nat → Int64} {R : Nat → Nat → Option Nat} {Q : sm_Q} {x0 i : Nat} {g : GG} (hd : 30 ≤ d) (hE : exOK ex) (hx0 : x0 < 2) (hi : i + 6 ≤ (ex.1 x0).1) (hl : (ex.1 x0).1 ≤ 100000) (hw : Wf g) (hc : CI g n y I R) (hm : MI g I L) (k : ∀ (g' : GG) (I' : Nat → Nat → Int32) (L' : Nat → Nat → Int64), Wf g' → gI g' = gI g → CI g' n y I' R → MI g' I' L' → sm_W ex d bc bs 241 18 [some (.retAddr x0), some (.ref 0), some (.ref 123), some (.int (nI (i + 6)))] [] (n, y, I', L', R) Q) : sm_W ex d bc bs 241 769 [some (.retAddr x0), some (.ref 0), some (.ref 123), some (.int (nI i))] [] (n, y, I, L, R) Q := by
  have hG := hc.2.1
  refine sm_in (sm_in (sm_in (sm_in (sm_in (sm_in (And.intro hx0 (And.intro (lw_vp (j := 1) hi (by decide) hl) (sm_in (sm_in (sm_in (sm_in (sm_in (And.intro hx0 (And.intro (lw_vp (j := 2) hi (by decide) hl) (sm_in (sm_in (sm_in (sm_in (sm_in (And.intro hx0 (And.intro (lw_vp (j := 3) hi (by decide) hl) (sm_in (Exists.intro 10 (And.intro (hG.1 0 (Nat.le_of_ble_eq_true rfl)) (And.intro rfl (sm_cal 20 0 0 (by omega) (Nat.le_of_ble_eq_true rfl) (Nat.le_of_ble_eq_true rfl) (Nat.le_of_ble_eq_true rfl) (Nat.le_of_ble_eq_true rfl) ?_))))))))))))))))))))))))))
  refine C_chain (by omega) hw n y I L R _ hc ?_
  intro I1 L1 hc1 kp1
  have hm1 := MI_ck hw hm kp1
  refine sm_in (sm_in (sm_in (sm_in (sm_in (sm_in (And.intro hx0 (And.intro (lw_vp (j := 1) hi (by decide) hl) (sm_in (sm_in (sm_in (sm_in (sm_in (And.intro hx0 (And.intro (lw_vp (j := 2) hi (by decide) hl) (sm_in (sm_in (sm_in (sm_in (sm_in (And.intro hx0 (And.intro (lw_vp (j := 3) hi (by decide) hl) (sm_in (Exists.intro 11 (And.intro (hG.1 123 (Nat.le_of_ble_eq_true rfl)) (And.intro rfl (sm_cal 20 0 0 (by omega) (Nat.le_of_ble_eq_true rfl) (Nat.le_of_ble_eq_true rfl) (Nat.le_of_ble_eq_true rfl) (Nat.le_of_ble_eq_true rfl) ?_))))))))))))))))))))))))))
  refine M_chain (by omega) hw n y I1 L1 R _ hG hm1 ?_
  intro I2 L2 hm2 kp2
  have hw2 : Wf g := hw
  have hfin := k g I2 L2 hw2 rfl (CI_mk hw2 hc1 kp2) hm2
  rw [← nI_add i 6] at hfin
  exact sm_in (And.intro (fun _ => sm_in (And.intro (Nat.le_of_ble_eq_true rfl) (sm_in hfin))) (fun h => absurd rfl h))
set_option maxRecDepth 100000 in
theorem lw_groups {ex : sm_O} {d bc bs n : Nat} {y : sm_Y} {I : Nat → Nat → Int32} {L : Nat → Nat → Int64} {R : Nat → Nat → Option Nat} {Q : sm_Q} {x0 i : Nat} {g : GG} (hd : 30 ≤ d) (hE : exOK ex) (hx0 : x0 < 2) (hi : i + 6 ≤ (ex.1 x0).1) (hl : (ex.1 x0).1 ≤ 100000) (hw : Wf g) (hc : CI g n y I R) (hm : MI g I L) (k : ∀ (g' : GG) (I' : Nat → Nat → Int32) (L' : Nat → Nat → Int64), Wf g' → gI g' = gI g → CI g' n y I' R → MI g' I' L' → sm_W ex d bc bs 241 18 [some (.retAddr x0), some (.ref 0), some (.ref 123), some (.int (nI (i + 6)))] [] (n, y, I', L', R) Q) : sm_W ex d bc bs 241 812 [some (.retAddr x0), some (.ref 0), some (.ref 123), some (.int (nI i))] [] (n, y, I, L, R) Q := by
  have hG := hc.2.1
  refine sm_in (sm_in (sm_in (sm_in (sm_in (sm_in (And.intro hx0 (And.intro (lw_vp (j := 1) hi (by decide) hl) (sm_in (sm_in (sm_in (sm_in (sm_in (And.intro hx0 (And.intro (lw_vp (j := 2) hi (by decide) hl) (sm_in (Exists.intro 10 (And.intro (hG.1 0 (Nat.le_of_ble_eq_true rfl)) (And.intro rfl (sm_cal 20 0 0 (by omega) (Nat.le_of_ble_eq_true rfl) (Nat.le_of_ble_eq_true rfl) (Nat.le_of_ble_eq_true rfl) (Nat.le_of_ble_eq_true rfl) ?_)))))))))))))))))))
  refine C_groups (by omega) hw n y I L R _ hc ?_
  intro I1 L1 hc1 kp1
  have hm1 := MI_ck hw hm kp1
  refine sm_in (sm_in (sm_in (sm_in (sm_in (sm_in (And.intro hx0 (And.intro (lw_vp (j := 1) hi (by decide) hl) (sm_in (sm_in (sm_in (sm_in (sm_in (And.intro hx0 (And.intro (lw_vp (j := 2) hi (by decide) hl) (sm_in (Exists.intro 11 (And.intro (hG.1 123 (Nat.le_of_ble_eq_true rfl)) (And.intro rfl (sm_cal 20 0 0 (by omega) (Nat.le_of_ble_eq_true rfl) (Nat.le_of_ble_eq_true rfl) (Nat.le_of_ble_eq_true rfl) (Nat.le_of_ble_eq_true rfl) ?_)))))))))))))))))))
  refine M_groups (by omega) hw n y I1 L1 R _ hG hm1 ?_
  intro I2 L2 hm2 kp2
  have hw2 : Wf g := hw
  have hfin := k g I2 L2 hw2 rfl (CI_mk hw2 hc1 kp2) hm2
  rw [← nI_add i 6] at hfin
  exact sm_in (And.intro (fun _ => sm_in (And.intro (Nat.le_of_ble_eq_true rfl) (sm_in hfin))) (fun h => absurd rfl h))
set_option maxRecDepth 100000 in
theorem lw_likest {ex : sm_O} {d bc bs n : Nat} {y : sm_Y} {I : Nat → Nat → Int32} {L : Nat → Nat → Int64} {R : Nat → Nat → Option Nat} {Q : sm_Q} {x0 i : Nat} {g : GG} (hd : 30 ≤ d) (hE : exOK ex) (hx0 : x0 < 2) (hi : i + 6 ≤ (ex.1 x0).1) (hl : (ex.1 x0).1 ≤ 100000) (hw : Wf g) (hc : CI g n y I R) (hm : MI g I L) (k : ∀ (g' : GG) (I' : Nat → Nat → Int32) (L' : Nat → Nat → Int64), Wf g' → gI g' = gI g → CI g' n y I' R → MI g' I' L' → sm_W ex d bc bs 241 18 [some (.retAddr x0), some (.ref 0), some (.ref 123), some (.int (nI (i + 6)))] [] (n, y, I', L', R) Q) : sm_W ex d bc bs 241 845 [some (.retAddr x0), some (.ref 0), some (.ref 123), some (.int (nI i))] [] (n, y, I, L, R) Q := by
  have hG := hc.2.1
  refine sm_in (sm_in (sm_in (sm_in (sm_in (sm_in (And.intro hx0 (And.intro (lw_vp (j := 1) hi (by decide) hl) (sm_in (Exists.intro 10 (And.intro (hG.1 0 (Nat.le_of_ble_eq_true rfl)) (And.intro rfl (sm_cal 20 0 0 (by omega) (Nat.le_of_ble_eq_true rfl) (Nat.le_of_ble_eq_true rfl) (Nat.le_of_ble_eq_true rfl) (Nat.le_of_ble_eq_true rfl) ?_))))))))))))
  refine C_likest (by omega) hw n y I L R _ hc ?_
  intro I1 L1 hc1 kp1
  have hm1 := MI_ck hw hm kp1
  refine sm_in (sm_in (sm_in (sm_in (sm_in (sm_in (And.intro hx0 (And.intro (lw_vp (j := 1) hi (by decide) hl) (sm_in (Exists.intro 11 (And.intro (hG.1 123 (Nat.le_of_ble_eq_true rfl)) (And.intro rfl (sm_cal 20 0 0 (by omega) (Nat.le_of_ble_eq_true rfl) (Nat.le_of_ble_eq_true rfl) (Nat.le_of_ble_eq_true rfl) (Nat.le_of_ble_eq_true rfl) ?_))))))))))))
  refine M_likest (by omega) hw n y I1 L1 R _ hG hm1 ?_
  intro I2 L2 hm2 kp2
  have hw2 : Wf g := hw
  have hfin := k g I2 L2 hw2 rfl (CI_mk hw2 hc1 kp2) hm2
  rw [← nI_add i 6] at hfin
  exact sm_in (And.intro (fun _ => sm_in (And.intro (Nat.le_of_ble_eq_true rfl) (sm_in hfin))) (fun h => absurd rfl h))
set_option maxRecDepth 100000 in
theorem lw_plate {ex : sm_O} {d bc bs n : Nat} {y : sm_Y} {I : Nat → Nat → Int32} {L : Nat → Nat → Int64} {R : Nat → Nat → Option Nat} {Q : sm_Q} {x0 i : Nat} {g : GG} (hd : 30 ≤ d) (hE : exOK ex) (hx0 : x0 < 2) (hi : i + 6 ≤ (ex.1 x0).1) (hl : (ex.1 x0).1 ≤ 100000) (hw : Wf g) (hc : CI g n y I R) (hm : MI g I L) (k : ∀ (g' : GG) (I' : Nat → Nat → Int32) (L' : Nat → Nat → Int64), Wf g' → gI g' = gI g → CI g' n y I' R → MI g' I' L' → sm_W ex d bc bs 241 18 [some (.retAddr x0), some (.ref 0), some (.ref 123), some (.int (nI (i + 6)))] [] (n, y, I', L', R) Q) : sm_W ex d bc bs 241 868 [some (.retAddr x0), some (.ref 0), some (.ref 123), some (.int (nI i))] [] (n, y, I, L, R) Q := by
  have hG := hc.2.1
  refine sm_in (sm_in (sm_in (sm_in (sm_in (sm_in (And.intro hx0 (And.intro (lw_vp (j := 1) hi (by decide) hl) (sm_in (sm_in (sm_in (sm_in (sm_in (And.intro hx0 (And.intro (lw_vp (j := 2) hi (by decide) hl) (sm_in (Exists.intro 10 (And.intro (hG.1 0 (Nat.le_of_ble_eq_true rfl)) (And.intro rfl (sm_cal 20 0 0 (by omega) (Nat.le_of_ble_eq_true rfl) (Nat.le_of_ble_eq_true rfl) (Nat.le_of_ble_eq_true rfl) (Nat.le_of_ble_eq_true rfl) ?_)))))))))))))))))))
  refine C_plate (by omega) hw n y I L R _ hc ?_
  intro I1 L1 hc1 kp1
  have hm1 := MI_ck hw hm kp1
  refine sm_in (sm_in (sm_in (sm_in (sm_in (sm_in (And.intro hx0 (And.intro (lw_vp (j := 1) hi (by decide) hl) (sm_in (sm_in (sm_in (sm_in (sm_in (And.intro hx0 (And.intro (lw_vp (j := 2) hi (by decide) hl) (sm_in (Exists.intro 11 (And.intro (hG.1 123 (Nat.le_of_ble_eq_true rfl)) (And.intro rfl (sm_cal 20 0 0 (by omega) (Nat.le_of_ble_eq_true rfl) (Nat.le_of_ble_eq_true rfl) (Nat.le_of_ble_eq_true rfl) (Nat.le_of_ble_eq_true rfl) ?_)))))))))))))))))))
  refine M_plate (by omega) hw n y I1 L1 R _ hG hm1 ?_
  intro I2 L2 hm2 kp2
  have hw2 : Wf (f_plate g ((ex.1 x0).2 (nI i + 1).toNatClampNeg) ((ex.1 x0).2 (nI i + 2).toNatClampNeg)).2 := Wf_plate hw _ _
  have hfin := k (f_plate g ((ex.1 x0).2 (nI i + 1).toNatClampNeg) ((ex.1 x0).2 (nI i + 2).toNatClampNeg)).2 I2 L2 hw2 (by unfold f_plate; (repeat' split) <;> rfl) (CI_mk hw2 hc1 kp2) hm2
  rw [← nI_add i 6] at hfin
  exact sm_in (And.intro (fun _ => sm_in (And.intro (Nat.le_of_ble_eq_true rfl) (sm_in hfin))) (fun h => absurd rfl h))
set_option maxRecDepth 100000 in
theorem lw_forget {ex : sm_O} {d bc bs n : Nat} {y : sm_Y} {I : Nat → Nat → Int32} {L : Nat → Nat → Int64} {R : Nat → Nat → Option Nat} {Q : sm_Q} {x0 i : Nat} {g : GG} (hd : 30 ≤ d) (hE : exOK ex) (hx0 : x0 < 2) (hi : i + 6 ≤ (ex.1 x0).1) (hl : (ex.1 x0).1 ≤ 100000) (hw : Wf g) (hc : CI g n y I R) (hm : MI g I L) (k : ∀ (g' : GG) (I' : Nat → Nat → Int32) (L' : Nat → Nat → Int64), Wf g' → gI g' = gI g → CI g' n y I' R → MI g' I' L' → sm_W ex d bc bs 241 18 [some (.retAddr x0), some (.ref 0), some (.ref 123), some (.int (nI (i + 6)))] [] (n, y, I', L', R) Q) : sm_W ex d bc bs 241 901 [some (.retAddr x0), some (.ref 0), some (.ref 123), some (.int (nI i))] [] (n, y, I, L, R) Q := by
  have hG := hc.2.1
  refine sm_in (sm_in (Exists.intro 10 (And.intro (hG.1 0 (Nat.le_of_ble_eq_true rfl)) (And.intro rfl (sm_cal 20 0 0 (by omega) (Nat.le_of_ble_eq_true rfl) (Nat.le_of_ble_eq_true rfl) (Nat.le_of_ble_eq_true rfl) (Nat.le_of_ble_eq_true rfl) ?_)))))
  refine C_forget hw n y I L R _ hc ?_
  intro I1 L1 hc1 kp1
  have hm1 := MI_ck hw hm kp1
  refine sm_in (sm_in (Exists.intro 11 (And.intro (hG.1 123 (Nat.le_of_ble_eq_true rfl)) (And.intro rfl (sm_cal 20 0 0 (by omega) (Nat.le_of_ble_eq_true rfl) (Nat.le_of_ble_eq_true rfl) (Nat.le_of_ble_eq_true rfl) (Nat.le_of_ble_eq_true rfl) ?_)))))
  refine M_forget hw n y I1 L1 R _ hG hm1 ?_
  intro I2 L2 hm2 kp2
  have hw2 : Wf (f_forget g) := Wf_forget hw
  have hfin := k (f_forget g) I2 L2 hw2 (by unfold f_forget; (repeat' split) <;> rfl) (CI_mk hw2 hc1 kp2) hm2
  rw [← nI_add i 6] at hfin
  exact sm_in (And.intro (fun _ => sm_in (And.intro (Nat.le_of_ble_eq_true rfl) (sm_in hfin))) (fun h => absurd rfl h))
set_option maxRecDepth 100000 in
theorem lw_canBe {ex : sm_O} {d bc bs n : Nat} {y : sm_Y} {I : Nat → Nat → Int32} {L : Nat → Nat → Int64} {R : Nat → Nat → Option Nat} {Q : sm_Q} {x0 i : Nat} {g : GG} (hd : 30 ≤ d) (hE : exOK ex) (hx0 : x0 < 2) (hi : i + 6 ≤ (ex.1 x0).1) (hl : (ex.1 x0).1 ≤ 100000) (hw : Wf g) (hc : CI g n y I R) (hm : MI g I L) (k : ∀ (g' : GG) (I' : Nat → Nat → Int32) (L' : Nat → Nat → Int64), Wf g' → gI g' = gI g → CI g' n y I' R → MI g' I' L' → sm_W ex d bc bs 241 18 [some (.retAddr x0), some (.ref 0), some (.ref 123), some (.int (nI (i + 6)))] [] (n, y, I', L', R) Q) : sm_W ex d bc bs 241 914 [some (.retAddr x0), some (.ref 0), some (.ref 123), some (.int (nI i))] [] (n, y, I, L, R) Q := by
  have hG := hc.2.1
  refine sm_in (sm_in (Exists.intro 10 (And.intro (hG.1 0 (Nat.le_of_ble_eq_true rfl)) (And.intro rfl (sm_cal 20 0 0 (by omega) (Nat.le_of_ble_eq_true rfl) (Nat.le_of_ble_eq_true rfl) (Nat.le_of_ble_eq_true rfl) (Nat.le_of_ble_eq_true rfl) ?_)))))
  refine C_canBe (by omega) hw n y I L R _ hc ?_
  intro I1 L1 hc1 kp1
  have hm1 := MI_ck hw hm kp1
  refine sm_in (sm_in (Exists.intro 11 (And.intro (hG.1 123 (Nat.le_of_ble_eq_true rfl)) (And.intro rfl (sm_cal 20 0 0 (by omega) (Nat.le_of_ble_eq_true rfl) (Nat.le_of_ble_eq_true rfl) (Nat.le_of_ble_eq_true rfl) (Nat.le_of_ble_eq_true rfl) ?_)))))
  refine M_canBe (by omega) hw n y I1 L1 R _ hG hm1 ?_
  intro I2 L2 hm2 kp2
  have hw2 : Wf g := hw
  have hfin := k g I2 L2 hw2 rfl (CI_mk hw2 hc1 kp2) hm2
  rw [← nI_add i 6] at hfin
  exact sm_in (And.intro (fun _ => sm_in (And.intro (Nat.le_of_ble_eq_true rfl) (sm_in hfin))) (fun h => absurd rfl h))
set_option maxRecDepth 100000 in
theorem lw_take {ex : sm_O} {d bc bs n : Nat} {y : sm_Y} {I : Nat → Nat → Int32} {L : Nat → Nat → Int64} {R : Nat → Nat → Option Nat} {Q : sm_Q} {x0 i : Nat} {g : GG} (hd : 30 ≤ d) (hE : exOK ex) (hx0 : x0 < 2) (hi : i + 6 ≤ (ex.1 x0).1) (hl : (ex.1 x0).1 ≤ 100000) (hw : Wf g) (hc : CI g n y I R) (hm : MI g I L) (k : ∀ (g' : GG) (I' : Nat → Nat → Int32) (L' : Nat → Nat → Int64), Wf g' → gI g' = gI g → CI g' n y I' R → MI g' I' L' → sm_W ex d bc bs 241 18 [some (.retAddr x0), some (.ref 0), some (.ref 123), some (.int (nI (i + 6)))] [] (n, y, I', L', R) Q) : sm_W ex d bc bs 241 927 [some (.retAddr x0), some (.ref 0), some (.ref 123), some (.int (nI i))] [] (n, y, I, L, R) Q := by
  have hG := hc.2.1
  refine sm_in (sm_in (sm_in (sm_in (sm_in (sm_in (And.intro hx0 (And.intro (lw_vp (j := 1) hi (by decide) hl) (sm_in (Exists.intro 10 (And.intro (hG.1 0 (Nat.le_of_ble_eq_true rfl)) (And.intro rfl (sm_cal 20 0 0 (by omega) (Nat.le_of_ble_eq_true rfl) (Nat.le_of_ble_eq_true rfl) (Nat.le_of_ble_eq_true rfl) (Nat.le_of_ble_eq_true rfl) ?_))))))))))))
  refine C_take (by omega) hw n y I L R _ hc ?_
  intro I1 L1 hc1 kp1
  have hm1 := MI_ck hw hm kp1
  refine sm_in (sm_in (sm_in (sm_in (sm_in (sm_in (And.intro hx0 (And.intro (lw_vp (j := 1) hi (by decide) hl) (sm_in (Exists.intro 11 (And.intro (hG.1 123 (Nat.le_of_ble_eq_true rfl)) (And.intro rfl (sm_cal 20 0 0 (by omega) (Nat.le_of_ble_eq_true rfl) (Nat.le_of_ble_eq_true rfl) (Nat.le_of_ble_eq_true rfl) (Nat.le_of_ble_eq_true rfl) ?_))))))))))))
  refine M_take (by omega) hw n y I1 L1 R _ hG hm1 ?_
  intro I2 L2 hm2 kp2
  have hw2 : Wf g := hw
  have hfin := k g I2 L2 hw2 rfl (CI_mk hw2 hc1 kp2) hm2
  rw [← nI_add i 6] at hfin
  exact sm_in (And.intro (fun _ => sm_in (And.intro (Nat.le_of_ble_eq_true rfl) (sm_in hfin))) (fun h => absurd rfl h))
set_option maxRecDepth 100000 in
theorem lw_compare {ex : sm_O} {d bc bs n : Nat} {y : sm_Y} {I : Nat → Nat → Int32} {L : Nat → Nat → Int64} {R : Nat → Nat → Option Nat} {Q : sm_Q} {x0 i : Nat} {g : GG} (hd : 30 ≤ d) (hE : exOK ex) (hx0 : x0 < 2) (hi : i + 6 ≤ (ex.1 x0).1) (hl : (ex.1 x0).1 ≤ 100000) (hw : Wf g) (hc : CI g n y I R) (hm : MI g I L) (k : ∀ (g' : GG) (I' : Nat → Nat → Int32) (L' : Nat → Nat → Int64), Wf g' → gI g' = gI g → CI g' n y I' R → MI g' I' L' → sm_W ex d bc bs 241 18 [some (.retAddr x0), some (.ref 0), some (.ref 123), some (.int (nI (i + 6)))] [] (n, y, I', L', R) Q) : sm_W ex d bc bs 241 984 [some (.retAddr x0), some (.ref 0), some (.ref 123), some (.int (nI i))] [] (n, y, I, L, R) Q := by
  have hG := hc.2.1
  refine sm_in (sm_in (sm_in (sm_in (sm_in (sm_in (And.intro hx0 (And.intro (lw_vp (j := 1) hi (by decide) hl) (sm_in (sm_in (sm_in (sm_in (sm_in (And.intro hx0 (And.intro (lw_vp (j := 2) hi (by decide) hl) (sm_in (sm_in (sm_in (sm_in (sm_in (And.intro hx0 (And.intro (lw_vp (j := 3) hi (by decide) hl) (sm_in (Exists.intro 10 (And.intro (hG.1 0 (Nat.le_of_ble_eq_true rfl)) (And.intro rfl (sm_cal 20 0 0 (by omega) (Nat.le_of_ble_eq_true rfl) (Nat.le_of_ble_eq_true rfl) (Nat.le_of_ble_eq_true rfl) (Nat.le_of_ble_eq_true rfl) ?_))))))))))))))))))))))))))
  refine C_compare (by omega) hw n y I L R _ hc ?_
  intro I1 L1 hc1 kp1
  have hm1 := MI_ck hw hm kp1
  refine sm_in (sm_in (sm_in (sm_in (sm_in (sm_in (And.intro hx0 (And.intro (lw_vp (j := 1) hi (by decide) hl) (sm_in (sm_in (sm_in (sm_in (sm_in (And.intro hx0 (And.intro (lw_vp (j := 2) hi (by decide) hl) (sm_in (sm_in (sm_in (sm_in (sm_in (And.intro hx0 (And.intro (lw_vp (j := 3) hi (by decide) hl) (sm_in (Exists.intro 11 (And.intro (hG.1 123 (Nat.le_of_ble_eq_true rfl)) (And.intro rfl (sm_cal 20 0 0 (by omega) (Nat.le_of_ble_eq_true rfl) (Nat.le_of_ble_eq_true rfl) (Nat.le_of_ble_eq_true rfl) (Nat.le_of_ble_eq_true rfl) ?_))))))))))))))))))))))))))
  refine M_compare (by omega) hw n y I1 L1 R _ hG hm1 ?_
  intro I2 L2 hm2 kp2
  have hw2 : Wf g := hw
  have hfin := k g I2 L2 hw2 rfl (CI_mk hw2 hc1 kp2) hm2
  rw [← nI_add i 6] at hfin
  exact sm_in (And.intro (fun _ => sm_in (And.intro (Nat.le_of_ble_eq_true rfl) (sm_in hfin))) (fun h => absurd rfl h))
set_option maxRecDepth 100000 in
theorem lw_years {ex : sm_O} {d bc bs n : Nat} {y : sm_Y} {I : Nat → Nat → Int32} {L : Nat → Nat → Int64} {R : Nat → Nat → Option Nat} {Q : sm_Q} {x0 i : Nat} {g : GG} (hd : 30 ≤ d) (hE : exOK ex) (hx0 : x0 < 2) (hi : i + 6 ≤ (ex.1 x0).1) (hl : (ex.1 x0).1 ≤ 100000) (hw : Wf g) (hc : CI g n y I R) (hm : MI g I L) (k : ∀ (g' : GG) (I' : Nat → Nat → Int32) (L' : Nat → Nat → Int64), Wf g' → gI g' = gI g → CI g' n y I' R → MI g' I' L' → sm_W ex d bc bs 241 18 [some (.retAddr x0), some (.ref 0), some (.ref 123), some (.int (nI (i + 6)))] [] (n, y, I', L', R) Q) : sm_W ex d bc bs 241 1027 [some (.retAddr x0), some (.ref 0), some (.ref 123), some (.int (nI i))] [] (n, y, I, L, R) Q := by
  have hG := hc.2.1
  refine sm_in (sm_in (sm_in (sm_in (sm_in (sm_in (And.intro hx0 (And.intro (lw_vp (j := 1) hi (by decide) hl) (sm_in (sm_in (sm_in (sm_in (sm_in (And.intro hx0 (And.intro (lw_vp (j := 2) hi (by decide) hl) (sm_in (Exists.intro 10 (And.intro (hG.1 0 (Nat.le_of_ble_eq_true rfl)) (And.intro rfl (sm_cal 20 0 0 (by omega) (Nat.le_of_ble_eq_true rfl) (Nat.le_of_ble_eq_true rfl) (Nat.le_of_ble_eq_true rfl) (Nat.le_of_ble_eq_true rfl) ?_)))))))))))))))))))
  refine C_years (by omega) hE hw n y I L R _ hc ?_
  intro I1 L1 hc1 kp1
  have hm1 := MI_ck hw hm kp1
  refine sm_in (sm_in (sm_in (sm_in (sm_in (sm_in (And.intro hx0 (And.intro (lw_vp (j := 1) hi (by decide) hl) (sm_in (sm_in (sm_in (sm_in (sm_in (And.intro hx0 (And.intro (lw_vp (j := 2) hi (by decide) hl) (sm_in (Exists.intro 11 (And.intro (hG.1 123 (Nat.le_of_ble_eq_true rfl)) (And.intro rfl (sm_cal 20 0 0 (by omega) (Nat.le_of_ble_eq_true rfl) (Nat.le_of_ble_eq_true rfl) (Nat.le_of_ble_eq_true rfl) (Nat.le_of_ble_eq_true rfl) ?_)))))))))))))))))))
  refine M_years (by omega) hw n y I1 L1 R _ hG hm1 ?_
  intro I2 L2 hm2 kp2
  have hw2 : Wf (f_years g ((ex.1 x0).2 (nI i + 1).toNatClampNeg) ((ex.1 x0).2 (nI i + 2).toNatClampNeg)).2 := Wf_years hw _ _
  have hfin := k (f_years g ((ex.1 x0).2 (nI i + 1).toNatClampNeg) ((ex.1 x0).2 (nI i + 2).toNatClampNeg)).2 I2 L2 hw2 (by unfold f_years; (repeat' split) <;> rfl) (CI_mk hw2 hc1 kp2) hm2
  rw [← nI_add i 6] at hfin
  exact sm_in (And.intro (fun _ => sm_in (And.intro (Nat.le_of_ble_eq_true rfl) (sm_in hfin))) (fun h => absurd rfl h))
set_option maxRecDepth 100000 in
theorem lw_drawn {ex : sm_O} {d bc bs n : Nat} {y : sm_Y} {I : Nat → Nat → Int32} {L : Nat → Nat → Int64} {R : Nat → Nat → Option Nat} {Q : sm_Q} {x0 i : Nat} {g : GG} (hd : 30 ≤ d) (hE : exOK ex) (hx0 : x0 < 2) (hi : i + 6 ≤ (ex.1 x0).1) (hl : (ex.1 x0).1 ≤ 100000) (hw : Wf g) (hc : CI g n y I R) (hm : MI g I L) (k : ∀ (g' : GG) (I' : Nat → Nat → Int32) (L' : Nat → Nat → Int64), Wf g' → gI g' = gI g → CI g' n y I' R → MI g' I' L' → sm_W ex d bc bs 241 18 [some (.retAddr x0), some (.ref 0), some (.ref 123), some (.int (nI (i + 6)))] [] (n, y, I', L', R) Q) : sm_W ex d bc bs 241 1060 [some (.retAddr x0), some (.ref 0), some (.ref 123), some (.int (nI i))] [] (n, y, I, L, R) Q := by
  have hG := hc.2.1
  refine sm_in (sm_in (sm_in (sm_in (sm_in (sm_in (And.intro hx0 (And.intro (lw_vp (j := 1) hi (by decide) hl) (sm_in (sm_in (sm_in (sm_in (sm_in (And.intro hx0 (And.intro (lw_vp (j := 2) hi (by decide) hl) (sm_in (Exists.intro 10 (And.intro (hG.1 0 (Nat.le_of_ble_eq_true rfl)) (And.intro rfl (sm_cal 20 0 0 (by omega) (Nat.le_of_ble_eq_true rfl) (Nat.le_of_ble_eq_true rfl) (Nat.le_of_ble_eq_true rfl) (Nat.le_of_ble_eq_true rfl) ?_)))))))))))))))))))
  refine C_drawn (by omega) hw n y I L R _ hc ?_
  intro I1 L1 hc1 kp1
  have hm1 := MI_ck hw hm kp1
  refine sm_in (sm_in (sm_in (sm_in (sm_in (sm_in (And.intro hx0 (And.intro (lw_vp (j := 1) hi (by decide) hl) (sm_in (sm_in (sm_in (sm_in (sm_in (And.intro hx0 (And.intro (lw_vp (j := 2) hi (by decide) hl) (sm_in (Exists.intro 11 (And.intro (hG.1 123 (Nat.le_of_ble_eq_true rfl)) (And.intro rfl (sm_cal 20 0 0 (by omega) (Nat.le_of_ble_eq_true rfl) (Nat.le_of_ble_eq_true rfl) (Nat.le_of_ble_eq_true rfl) (Nat.le_of_ble_eq_true rfl) ?_)))))))))))))))))))
  refine M_drawn (by omega) hw n y I1 L1 R _ hG hm1 ?_
  intro I2 L2 hm2 kp2
  have hw2 : Wf g := hw
  have hfin := k g I2 L2 hw2 rfl (CI_mk hw2 hc1 kp2) hm2
  rw [← nI_add i 6] at hfin
  exact sm_in (And.intro (fun _ => sm_in (And.intro (Nat.le_of_ble_eq_true rfl) (sm_in hfin))) (fun h => absurd rfl h))
set_option maxRecDepth 100000 in
theorem lw_back {ex : sm_O} {d bc bs n : Nat} {y : sm_Y} {I : Nat → Nat → Int32} {L : Nat → Nat → Int64} {R : Nat → Nat → Option Nat} {Q : sm_Q} {x0 i : Nat} {g : GG} (hd : 30 ≤ d) (hE : exOK ex) (hx0 : x0 < 2) (hi : i + 6 ≤ (ex.1 x0).1) (hl : (ex.1 x0).1 ≤ 100000) (hw : Wf g) (hc : CI g n y I R) (hm : MI g I L) (k : ∀ (g' : GG) (I' : Nat → Nat → Int32) (L' : Nat → Nat → Int64), Wf g' → gI g' = gI g → CI g' n y I' R → MI g' I' L' → sm_W ex d bc bs 241 18 [some (.retAddr x0), some (.ref 0), some (.ref 123), some (.int (nI (i + 6)))] [] (n, y, I', L', R) Q) : sm_W ex d bc bs 241 1116 [some (.retAddr x0), some (.ref 0), some (.ref 123), some (.int (nI i))] [] (n, y, I, L, R) Q := by
  have hG := hc.2.1
  refine sm_in (sm_in (sm_in (sm_in (sm_in (sm_in (And.intro hx0 (And.intro (lw_vp (j := 1) hi (by decide) hl) (sm_in (Exists.intro 10 (And.intro (hG.1 0 (Nat.le_of_ble_eq_true rfl)) (And.intro rfl (sm_cal 20 0 0 (by omega) (Nat.le_of_ble_eq_true rfl) (Nat.le_of_ble_eq_true rfl) (Nat.le_of_ble_eq_true rfl) (Nat.le_of_ble_eq_true rfl) ?_))))))))))))
  refine C_back (by omega) hw n y I L R _ hc ?_
  intro I1 L1 hc1 kp1
  have hm1 := MI_ck hw hm kp1
  refine sm_in (sm_in (sm_in (sm_in (sm_in (sm_in (And.intro hx0 (And.intro (lw_vp (j := 1) hi (by decide) hl) (sm_in (Exists.intro 11 (And.intro (hG.1 123 (Nat.le_of_ble_eq_true rfl)) (And.intro rfl (sm_cal 20 0 0 (by omega) (Nat.le_of_ble_eq_true rfl) (Nat.le_of_ble_eq_true rfl) (Nat.le_of_ble_eq_true rfl) (Nat.le_of_ble_eq_true rfl) ?_))))))))))))
  refine M_back (by omega) hw n y I1 L1 R _ hG hm1 ?_
  intro I2 L2 hm2 kp2
  have hw2 : Wf (f_back g ((ex.1 x0).2 (nI i + 1).toNatClampNeg)).2 := Wf_back hw _
  have hfin := k (f_back g ((ex.1 x0).2 (nI i + 1).toNatClampNeg)).2 I2 L2 hw2 (by unfold f_back; (repeat' split) <;> rfl) (CI_mk hw2 hc1 kp2) hm2
  rw [← nI_add i 6] at hfin
  exact sm_in (And.intro (fun _ => sm_in (And.intro (Nat.le_of_ble_eq_true rfl) (sm_in hfin))) (fun h => absurd rfl h))
set_option maxRecDepth 100000 in
theorem lw_count {ex : sm_O} {d bc bs n : Nat} {y : sm_Y} {I : Nat → Nat → Int32} {L : Nat → Nat → Int64} {R : Nat → Nat → Option Nat} {Q : sm_Q} {x0 i : Nat} {g : GG} (hd : 30 ≤ d) (hE : exOK ex) (hx0 : x0 < 2) (hi : i + 6 ≤ (ex.1 x0).1) (hl : (ex.1 x0).1 ≤ 100000) (hw : Wf g) (hc : CI g n y I R) (hm : MI g I L) (k : ∀ (g' : GG) (I' : Nat → Nat → Int32) (L' : Nat → Nat → Int64), Wf g' → gI g' = gI g → CI g' n y I' R → MI g' I' L' → sm_W ex d bc bs 241 18 [some (.retAddr x0), some (.ref 0), some (.ref 123), some (.int (nI (i + 6)))] [] (n, y, I', L', R) Q) : sm_W ex d bc bs 241 1139 [some (.retAddr x0), some (.ref 0), some (.ref 123), some (.int (nI i))] [] (n, y, I, L, R) Q := by
  have hG := hc.2.1
  refine sm_in (sm_in (sm_in (sm_in (sm_in (sm_in (And.intro hx0 (And.intro (lw_vp (j := 1) hi (by decide) hl) (sm_in (Exists.intro 10 (And.intro (hG.1 0 (Nat.le_of_ble_eq_true rfl)) (And.intro rfl (sm_cal 20 0 0 (by omega) (Nat.le_of_ble_eq_true rfl) (Nat.le_of_ble_eq_true rfl) (Nat.le_of_ble_eq_true rfl) (Nat.le_of_ble_eq_true rfl) ?_))))))))))))
  refine C_count (by omega) hw n y I L R _ hc ?_
  intro I1 L1 hc1 kp1
  have hm1 := MI_ck hw hm kp1
  refine sm_in (sm_in (sm_in (sm_in (sm_in (sm_in (And.intro hx0 (And.intro (lw_vp (j := 1) hi (by decide) hl) (sm_in (Exists.intro 11 (And.intro (hG.1 123 (Nat.le_of_ble_eq_true rfl)) (And.intro rfl (sm_cal 20 0 0 (by omega) (Nat.le_of_ble_eq_true rfl) (Nat.le_of_ble_eq_true rfl) (Nat.le_of_ble_eq_true rfl) (Nat.le_of_ble_eq_true rfl) ?_))))))))))))
  refine M_count (by omega) hw n y I1 L1 R _ hG hm1 ?_
  intro I2 L2 hm2 kp2
  have hw2 : Wf g := hw
  have hfin := k g I2 L2 hw2 rfl (CI_mk hw2 hc1 kp2) hm2
  rw [← nI_add i 6] at hfin
  exact sm_in (And.intro (fun _ => sm_in (And.intro (Nat.le_of_ble_eq_true rfl) (sm_in hfin))) (fun h => absurd rfl h))
set_option maxRecDepth 100000 in
theorem lw_status {ex : sm_O} {d bc bs n : Nat} {y : sm_Y} {I : Nat → Nat → Int32} {L : Nat → Nat → Int64} {R : Nat → Nat → Option Nat} {Q : sm_Q} {x0 i : Nat} {g : GG} (hd : 30 ≤ d) (hE : exOK ex) (hx0 : x0 < 2) (hi : i + 6 ≤ (ex.1 x0).1) (hl : (ex.1 x0).1 ≤ 100000) (hw : Wf g) (hc : CI g n y I R) (hm : MI g I L) (k : ∀ (g' : GG) (I' : Nat → Nat → Int32) (L' : Nat → Nat → Int64), Wf g' → gI g' = gI g → CI g' n y I' R → MI g' I' L' → sm_W ex d bc bs 241 18 [some (.retAddr x0), some (.ref 0), some (.ref 123), some (.int (nI (i + 6)))] [] (n, y, I', L', R) Q) : sm_W ex d bc bs 241 1162 [some (.retAddr x0), some (.ref 0), some (.ref 123), some (.int (nI i))] [] (n, y, I, L, R) Q := by
  have hG := hc.2.1
  refine sm_in (sm_in (Exists.intro 10 (And.intro (hG.1 0 (Nat.le_of_ble_eq_true rfl)) (And.intro rfl (sm_cal 20 0 0 (by omega) (Nat.le_of_ble_eq_true rfl) (Nat.le_of_ble_eq_true rfl) (Nat.le_of_ble_eq_true rfl) (Nat.le_of_ble_eq_true rfl) ?_)))))
  refine C_status  n y I L R _ hc ?_
  intro I1 L1 hc1 kp1
  have hm1 := MI_ck hw hm kp1
  refine sm_in (sm_in (Exists.intro 11 (And.intro (hG.1 123 (Nat.le_of_ble_eq_true rfl)) (And.intro rfl (sm_cal 20 0 0 (by omega) (Nat.le_of_ble_eq_true rfl) (Nat.le_of_ble_eq_true rfl) (Nat.le_of_ble_eq_true rfl) (Nat.le_of_ble_eq_true rfl) ?_)))))
  refine M_status  n y I1 L1 R _ hG hm1 ?_
  intro I2 L2 hm2 kp2
  have hw2 : Wf g := hw
  have hfin := k g I2 L2 hw2 rfl (CI_mk hw2 hc1 kp2) hm2
  rw [← nI_add i 6] at hfin
  exact sm_in (And.intro (fun _ => sm_in (And.intro (Nat.le_of_ble_eq_true rfl) (sm_in hfin))) (fun h => absurd rfl h))

