-- THE LAW: few and image
theorem lg_cmp_self (r : Int64) : lg_cmp r r = 0 := by
  unfold lg_cmp
  rw [if_neg (Int64.lt_irrefl), if_pos rfl]
set_option maxRecDepth 100000 in
theorem lw_few {ex : sm_O} {d bc bs n : Nat} {y : sm_Y} {I : Nat → Nat → Int32} {L : Nat → Nat → Int64} {R : Nat → Nat → Option Nat} {Q : sm_Q} {x0 i : Nat} {g : GG} (hd : 30 ≤ d) (hE : exOK ex) (hx0 : x0 < 2) (hi : i + 6 ≤ (ex.1 x0).1) (hl : (ex.1 x0).1 ≤ 100000) (hw : Wf g) (hc : CI g n y I R) (hm : MI g I L) (k : ∀ (g' : GG) (I' : Nat → Nat → Int32) (L' : Nat → Nat → Int64), Wf g' → gI g' = gI g → CI g' n y I' R → MI g' I' L' → sm_W ex d bc bs 241 18 [some (.retAddr x0), some (.ref 0), some (.ref 123), some (.int (nI (i + 6)))] [] (n, y, I', L', R) Q) : sm_W ex d bc bs 241 950 [some (.retAddr x0), some (.ref 0), some (.ref 123), some (.int (nI i))] [] (n, y, I, L, R) Q := by
  have hG := hc.2.1
  refine sm_in (sm_in (sm_in (sm_in (sm_in (sm_in (And.intro hx0 (And.intro (lw_vp (j := 1) hi (by decide) hl) (sm_in (sm_in (sm_in (sm_in (sm_in (And.intro hx0 (And.intro (lw_vp (j := 2) hi (by decide) hl) (sm_in (Exists.intro 10 (And.intro (hG.1 0 (Nat.le_of_ble_eq_true rfl)) (And.intro rfl (sm_cal 20 0 0 (by omega) (Nat.le_of_ble_eq_true rfl) (Nat.le_of_ble_eq_true rfl) (Nat.le_of_ble_eq_true rfl) (Nat.le_of_ble_eq_true rfl) ?_)))))))))))))))))))
  refine C_few hw n y I L R _ hc ?_
  intro I1 L1 hc1 kp1
  have hm1 := MI_ck hw hm kp1
  refine sm_in (sm_in (sm_in (sm_in (sm_in (sm_in (And.intro hx0 (And.intro (lw_vp (j := 1) hi (by decide) hl) (sm_in (sm_in (sm_in (sm_in (sm_in (And.intro hx0 (And.intro (lw_vp (j := 2) hi (by decide) hl) (sm_in (Exists.intro 11 (And.intro (hG.1 123 (Nat.le_of_ble_eq_true rfl)) (And.intro rfl (sm_cal 20 0 0 (by omega) (Nat.le_of_ble_eq_true rfl) (Nat.le_of_ble_eq_true rfl) (Nat.le_of_ble_eq_true rfl) (Nat.le_of_ble_eq_true rfl) ?_)))))))))))))))))))
  refine M_few (by omega) hw n y I1 L1 R _ hG hm1 ?_
  intro I2 L2 hm2 kp2
  have hfin := k g I2 L2 hw rfl (CI_mk hw hc1 kp2) hm2
  rw [← nI_add i 6] at hfin
  exact sm_in (sm_in (And.intro (fun _ => sm_in (And.intro (Nat.le_of_ble_eq_true rfl) (sm_in hfin))) (fun h => absurd (lg_cmp_self _) h)))
set_option maxRecDepth 100000 in
theorem lw_image {ex : sm_O} {d bc bs n : Nat} {y : sm_Y} {I : Nat → Nat → Int32} {L : Nat → Nat → Int64} {R : Nat → Nat → Option Nat} {Q : sm_Q} {x0 i : Nat} {g : GG} (hd : 30 ≤ d) (hE : exOK ex) (hx0 : x0 < 2) (hi : i + 6 ≤ (ex.1 x0).1) (hl : (ex.1 x0).1 ≤ 100000) (hw : Wf g) (hc : CI g n y I R) (hm : MI g I L) (hbc : 49 * nimg g ((ex.1 x0).2 (nI i + 1).toNatClampNeg) ≤ bc) (hbs : 1583 * nimg g ((ex.1 x0).2 (nI i + 1).toNatClampNeg) ≤ bs) (k : ∀ (n' : Nat) (y' : sm_Y) (I' : Nat → Nat → Int32) (L' : Nat → Nat → Int64) (R' : Nat → Nat → Option Nat), Wf (f_image g ((ex.1 x0).2 (nI i + 1).toNatClampNeg)).2 → CI (f_image g ((ex.1 x0).2 (nI i + 1).toNatClampNeg)).2 n' y' I' R' → MI (f_image g ((ex.1 x0).2 (nI i + 1).toNatClampNeg)).2 I' L' → sm_W ex d (bc - 49 * nimg g ((ex.1 x0).2 (nI i + 1).toNatClampNeg)) (bs - 1583 * nimg g ((ex.1 x0).2 (nI i + 1).toNatClampNeg)) 241 18 [some (.retAddr x0), some (.ref 0), some (.ref 123), some (.int (nI (i + 6)))] [] (n', y', I', L', R') Q) : sm_W ex d bc bs 241 1093 [some (.retAddr x0), some (.ref 0), some (.ref 123), some (.int (nI i))] [] (n, y, I, L, R) Q := by
  have hG := hc.2.1
  refine sm_in (sm_in (sm_in (sm_in (sm_in (sm_in (And.intro hx0 (And.intro (lw_vp (j := 1) hi (by decide) hl) (sm_in (Exists.intro 10 (And.intro (hG.1 0 (Nat.le_of_ble_eq_true rfl)) (And.intro rfl (sm_cal 20 (49 * nimg g ((ex.1 x0).2 (nI i + 1).toNatClampNeg)) (1583 * nimg g ((ex.1 x0).2 (nI i + 1).toNatClampNeg)) (by omega) hbc hbs (Nat.le_of_ble_eq_true rfl) (Nat.le_of_ble_eq_true rfl) ?_))))))))))))
  refine C_image (by omega) hE hw n y I L R _ hc ?_
  intro n1 y1 I1 L1 R1 hc1 kp1 _
  have hm1 := MI_ck hw hm kp1
  have hG1 := hc1.2.1
  refine sm_in (sm_in (sm_in (sm_in (sm_in (sm_in (And.intro hx0 (And.intro (lw_vp (j := 1) hi (by decide) hl) (sm_in (Exists.intro 11 (And.intro (hG1.1 123 (Nat.le_of_ble_eq_true rfl)) (And.intro rfl (sm_cal 20 0 0 (by omega) (Nat.le_of_ble_eq_true rfl) (Nat.le_of_ble_eq_true rfl) (Nat.le_of_ble_eq_true rfl) (Nat.le_of_ble_eq_true rfl) ?_))))))))))))
  refine M_image (by omega) hw n1 y1 I1 L1 R1 _ hG1 hm1 ?_
  intro I2 L2 hm2 kp2
  have hw2 := Wf_image hw ((ex.1 x0).2 (nI i + 1).toNatClampNeg)
  have hfin := k n1 y1 I2 L2 R1 hw2 (CI_mk hw2 hc1 kp2) hm2
  rw [← nI_add i 6] at hfin
  exact sm_in (And.intro (fun _ => sm_in (And.intro (Nat.le_of_ble_eq_true rfl) (sm_in hfin))) (fun h => absurd rfl h))

