set_option maxRecDepth 100000 in
theorem w_X11_comes_0 {ex : sm_O} {d n : Nat} {y : sm_Y} {I : Nat → Nat → Int32} {L : Nat → Nat → Int64} {R : Nat → Nat → Option Nat} {Q : sm_Q} {w3 : Option Value} {a1 : Int32} {a2 : Int32} (hG : sm_G y R) (hdep : 1 ≤ d) (k : if (1 : Int64) ≤ a1.toInt64 ∧ a1.toInt64 ≤ (9 : Int64) then (if (0 : Int64) ≤ a2.toInt64 ∧ a2.toInt64 ≤ (63 : Int64) then (if (I 125 0) = 7 then (Q (some (.int (-5))) (n, y, I, L, R)) else (vp_in (24 + (I 125 0)) 5450 ∧ vp_in (31 + (I 125 0)) 5450 ∧ vp_in (10 + (I 125 0)) 5450 ∧ vp_in (17 + (I 125 0)) 5450 ∧ Q (some (.int (I 125 0))) (n, y, sm_st (sm_st (sm_st (sm_st (sm_st I 125 ((24 + (I 125 0)).toNatClampNeg) a1) 125 ((31 + (I 125 0)).toNatClampNeg) a2) 125 ((10 + (I 125 0)).toNatClampNeg) 0) 125 ((17 + (I 125 0)).toNatClampNeg) 0) 125 0 (((sm_st (sm_st (sm_st (sm_st I 125 ((24 + (I 125 0)).toNatClampNeg) a1) 125 ((31 + (I 125 0)).toNatClampNeg) a2) 125 ((10 + (I 125 0)).toNatClampNeg) 0) 125 ((17 + (I 125 0)).toNatClampNeg) 0) 125 0) + 1), L, R))) else (Q (some (.int (-1))) (n, y, I, L, R))) else (Q (some (.int (-1))) (n, y, I, L, R))) : sm_W ex d 0 0 141 0 [some (.ref 123), some (.int a1), some (.int a2), w3] [] (n, y, I, L, R) Q := sm_in (sm_in (sm_in (sm_in (sm_in (And.intro (Nat.le_of_ble_eq_true rfl) (sm_calln (d1 := 0) (Nat.lt_of_lt_of_le (Nat.lt_succ_self 0) (Nat.le_trans (Nat.le_of_ble_eq_true rfl) hdep)) (Nat.le_of_ble_eq_true rfl) (Nat.le_of_ble_eq_true rfl) (c_X11_in  (sm_in (And.intro (fun c1 => have k1f := Eq.mp (if_neg (sm_b_0.mp c1)) k; sm_in (sm_in (And.intro rfl k1f))) (fun c1 => have k1t := Eq.mp (if_pos (sm_b_n.mp c1)) k; sm_in (sm_in (sm_in (sm_in (sm_in (And.intro (Nat.le_of_ble_eq_true rfl) (sm_calln (d1 := 0) (Nat.lt_of_lt_of_le (Nat.lt_succ_self 0) (Nat.le_trans (Nat.le_of_ble_eq_true rfl) hdep)) (Nat.le_of_ble_eq_true rfl) (Nat.le_of_ble_eq_true rfl) (c_X11_in  (sm_in (And.intro (fun c2 => have k2t := Eq.mp (if_pos (sm_b_n.mp c2)) k1t; sm_in (sm_in (And.intro (hG.1 123 (Nat.le_of_ble_eq_true rfl)) (sm_gfr rfl (hG.2 123 3 rfl) (sm_in (sm_in (Exists.intro 5450 (And.intro (hG.1 125 (Nat.le_of_ble_eq_true rfl)) (And.intro (sm_lin (by decide)) (sm_in (And.intro (Nat.le_of_ble_eq_true rfl) (sm_in (sm_in (sm_in (And.intro (fun c3 => have k3f := Eq.mp (if_neg c3) k2t; sm_in (sm_in (And.intro (hG.1 123 (Nat.le_of_ble_eq_true rfl)) (sm_gfr rfl (hG.2 123 3 rfl) (sm_in (sm_in (sm_in (sm_in ((have e4 := k3f.1; have k4 := k3f.2; sm_in (Exists.intro 5450 (And.intro (hG.1 125 (Nat.le_of_ble_eq_true rfl)) (And.intro e4 (sm_in (sm_in (And.intro (hG.1 123 (Nat.le_of_ble_eq_true rfl)) (sm_gfr rfl (hG.2 123 3 rfl) (sm_in (sm_in (sm_in (sm_in ((have e5 := k4.1; have k5 := k4.2; sm_in (Exists.intro 5450 (And.intro (hG.1 125 (Nat.le_of_ble_eq_true rfl)) (And.intro e5 (sm_in (sm_in (And.intro (hG.1 123 (Nat.le_of_ble_eq_true rfl)) (sm_gfr rfl (hG.2 123 3 rfl) (sm_in (sm_in (sm_in (sm_in ((have e6 := k5.1; have k6 := k5.2; sm_in (Exists.intro 5450 (And.intro (hG.1 125 (Nat.le_of_ble_eq_true rfl)) (And.intro e6 (sm_in (sm_in (And.intro (hG.1 123 (Nat.le_of_ble_eq_true rfl)) (sm_gfr rfl (hG.2 123 3 rfl) (sm_in (sm_in (sm_in (sm_in ((have e7 := k6.1; have k7 := k6.2; sm_in (Exists.intro 5450 (And.intro (hG.1 125 (Nat.le_of_ble_eq_true rfl)) (And.intro e7 (sm_in (sm_in (And.intro (hG.1 123 (Nat.le_of_ble_eq_true rfl)) (sm_gfr rfl (hG.2 123 3 rfl) (sm_in (sm_in (And.intro rfl (And.intro rfl (sm_in (Exists.intro 5450 (And.intro (hG.1 125 (Nat.le_of_ble_eq_true rfl)) (And.intro (sm_lin (by decide)) (sm_in (sm_in (sm_in (Exists.intro 5450 (And.intro (hG.1 125 (Nat.le_of_ble_eq_true rfl)) (And.intro (sm_lin (by decide)) (sm_in (sm_in (And.intro rfl k7))))))))))))))))))))))))))))))))))))))))))))))))))))))))))))))))))))))))) (fun c3 => have k3t := Eq.mp (if_pos c3) k2t; sm_in (sm_in (And.intro rfl k3t)))))))))))))))))) (fun c2 => have k2f := Eq.mp (if_neg (sm_b_0.mp c2)) k1t; sm_in (sm_in (And.intro rfl k2f))))))))))))))))))))))
set_option maxRecDepth 100000 in
theorem w_X11_man_0 {ex : sm_O} {d n : Nat} {y : sm_Y} {I : Nat → Nat → Int32} {L : Nat → Nat → Int64} {R : Nat → Nat → Option Nat} {Q : sm_Q} {a1 : Int32} {a2 : Int32} {d1 : Nat} (hG : sm_G y R) (h1 : d1 < d) (k : sm_W ex d1 0 0 141 0 [some (.ref 123), some (.int a1), some (.int a2), none] [] (n, y, sm_st I 123 0 0, L, R) (fun r μ1 => sm_W ex d 0 0 142 12 [some (.ref 123), some (.int a1), some (.int a2)] (r.toList ++ [.ref 123]) μ1 Q)) : sm_W ex d 0 0 142 0 [some (.ref 123), some (.int a1), some (.int a2)] [] (n, y, I, L, R) Q := sm_in (sm_in (sm_in (And.intro (hG.1 123 (Nat.le_of_ble_eq_true rfl)) (sm_in (sm_in (sm_in (sm_in (sm_in (Exists.intro 11 (And.intro (hG.1 123 (Nat.le_of_ble_eq_true rfl)) (And.intro rfl (sm_calln h1 (Nat.le_of_ble_eq_true rfl) (Nat.le_of_ble_eq_true rfl) k))))))))))))
set_option maxRecDepth 100000 in
theorem w_X11_man_12 {ex : sm_O} {d n : Nat} {y : sm_Y} {I : Nat → Nat → Int32} {L : Nat → Nat → Int64} {R : Nat → Nat → Option Nat} {Q : sm_Q} {w0 : Option Value} {w1 : Option Value} {w2 : Option Value} {s0 : Int32} {d1 : Nat} (hG : sm_G y R) (h1 : d1 < d) (k : sm_W ex d1 0 0 130 0 [some (.ref 123), some (.int s0)] [] (n, y, I, L, R) (fun r μ1 => sm_W ex d 0 0 142 15 [w0, w1, w2] (r.toList ++ []) μ1 Q)) : sm_W ex d 0 0 142 12 [w0, w1, w2] [.int s0, .ref 123] (n, y, I, L, R) Q := sm_in (Exists.intro 11 (And.intro (hG.1 123 (Nat.le_of_ble_eq_true rfl)) (And.intro rfl (sm_calln h1 (Nat.le_of_ble_eq_true rfl) (Nat.le_of_ble_eq_true rfl) k))))
set_option maxRecDepth 100000 in
theorem w_X11_man_15 {ex : sm_O} {d n : Nat} {y : sm_Y} {I : Nat → Nat → Int32} {L : Nat → Nat → Int64} {R : Nat → Nat → Option Nat} {Q : sm_Q} {w0 : Option Value} {w1 : Option Value} {w2 : Option Value} {s0 : Int32} (k : Q (some (.int s0)) (n, y, I, L, R)) : sm_W ex d 0 0 142 15 [w0, w1, w2] [.int s0] (n, y, I, L, R) Q := sm_in (And.intro rfl k)
set_option maxRecDepth 100000 in
theorem w_X9_add {ex : sm_O} {d n : Nat} {y : sm_Y} {I : Nat → Nat → Int32} {L : Nat → Nat → Int64} {R : Nat → Nat → Option Nat} {Q : sm_Q} {a0 : Nat} {a1 : Int32} {a2 : Int32} (ho0 : ok9 y R a0) (k : if (I a0 4) < 7 then (vp_in (I a0 4) 7 ∧ vp_in ((sm_st I (a0 + 1) ((I a0 4).toNatClampNeg) a1) a0 4) 7 ∧ vp_in ((sm_st (sm_st I (a0 + 1) ((I a0 4).toNatClampNeg) a1) (a0 + 2) (((sm_st I (a0 + 1) ((I a0 4).toNatClampNeg) a1) a0 4).toNatClampNeg) a2) a0 4) 7 ∧ Q (some (.int (((sm_st (sm_st (sm_st (sm_st I (a0 + 1) ((I a0 4).toNatClampNeg) a1) (a0 + 2) (((sm_st I (a0 + 1) ((I a0 4).toNatClampNeg) a1) a0 4).toNatClampNeg) a2) (a0 + 3) (((sm_st (sm_st I (a0 + 1) ((I a0 4).toNatClampNeg) a1) (a0 + 2) (((sm_st I (a0 + 1) ((I a0 4).toNatClampNeg) a1) a0 4).toNatClampNeg) a2) a0 4).toNatClampNeg) 0) a0 4 (((sm_st (sm_st (sm_st I (a0 + 1) ((I a0 4).toNatClampNeg) a1) (a0 + 2) (((sm_st I (a0 + 1) ((I a0 4).toNatClampNeg) a1) a0 4).toNatClampNeg) a2) (a0 + 3) (((sm_st (sm_st I (a0 + 1) ((I a0 4).toNatClampNeg) a1) (a0 + 2) (((sm_st I (a0 + 1) ((I a0 4).toNatClampNeg) a1) a0 4).toNatClampNeg) a2) a0 4).toNatClampNeg) 0) a0 4) + 1)) a0 4) - 1))) (n, y, sm_st (sm_st (sm_st (sm_st I (a0 + 1) ((I a0 4).toNatClampNeg) a1) (a0 + 2) (((sm_st I (a0 + 1) ((I a0 4).toNatClampNeg) a1) a0 4).toNatClampNeg) a2) (a0 + 3) (((sm_st (sm_st I (a0 + 1) ((I a0 4).toNatClampNeg) a1) (a0 + 2) (((sm_st I (a0 + 1) ((I a0 4).toNatClampNeg) a1) a0 4).toNatClampNeg) a2) a0 4).toNatClampNeg) 0) a0 4 (((sm_st (sm_st (sm_st I (a0 + 1) ((I a0 4).toNatClampNeg) a1) (a0 + 2) (((sm_st I (a0 + 1) ((I a0 4).toNatClampNeg) a1) a0 4).toNatClampNeg) a2) (a0 + 3) (((sm_st (sm_st I (a0 + 1) ((I a0 4).toNatClampNeg) a1) (a0 + 2) (((sm_st I (a0 + 1) ((I a0 4).toNatClampNeg) a1) a0 4).toNatClampNeg) a2) a0 4).toNatClampNeg) 0) a0 4) + 1), L, R)) else (Q (some (.int (-1))) (n, y, I, L, R))) : sm_W ex d 0 0 67 0 [some (.ref a0), some (.int a1), some (.int a2)] [] (n, y, I, L, R) Q := sm_in (sm_in (And.intro (ok9_y0 ho0) (sm_in (sm_in (And.intro (fun c1 => have k1t := Eq.mp (if_pos c1) k; sm_in (sm_in (And.intro (ok9_y0 ho0) (sm_gfr rfl (ok9_r0 ho0) (sm_in (sm_in (And.intro (ok9_y0 ho0) (sm_in ((have e2 := k1t.1; have k2 := k1t.2; sm_in (Exists.intro 7 (And.intro (ok9_a1 ho0) (And.intro e2 (sm_in (sm_in (And.intro (ok9_y0 ho0) (sm_gfr rfl (ok9_r1 ho0) (sm_in (sm_in (And.intro (ok9_y0 ho0) (sm_in ((have e3 := k2.1; have k3 := k2.2; sm_in (Exists.intro 7 (And.intro (ok9_a2 ho0) (And.intro e3 (sm_in (sm_in (And.intro (ok9_y0 ho0) (sm_gfr rfl (ok9_r2 ho0) (sm_in (sm_in (And.intro (ok9_y0 ho0) (sm_in ((have e4 := k3.1; have k4 := k3.2; sm_in (Exists.intro 7 (And.intro (ok9_a3 ho0) (And.intro e4 (sm_in (sm_in (And.intro rfl (sm_in (And.intro (ok9_y0 ho0) (sm_in (sm_in (sm_in (And.intro (ok9_y0 ho0) (sm_in (sm_in (And.intro (ok9_y0 ho0) (sm_in (sm_in (sm_in (And.intro rfl k4))))))))))))))))))))))))))))))))))))))))))))))))))))))) (fun c1 => have k1f := Eq.mp (if_neg c1) k; sm_in (sm_in (And.intro rfl k1f))))))))
-- FORCE, TERMS, PLATE, COUNT, MAN
theorem sm_in64 {a lo hi : Int32} : (lo.toInt64 ≤ a.toInt64 ∧ a.toInt64 ≤ hi.toInt64) ↔ (lo ≤ a ∧ a ≤ hi) := by
  rw [Int64.le_iff_toInt_le, Int64.le_iff_toInt_le, Int32.toInt_toInt64, Int32.toInt_toInt64, Int32.toInt_toInt64, Int32.le_iff_toInt_le, Int32.le_iff_toInt_le]
theorem sm_nat {a : Int32} {lo hi : Nat} (hhi : hi < 2 ^ 31) (h : nI lo ≤ a ∧ a ≤ nI hi) (hlo : lo < 2 ^ 31) : ∃ k : Nat, a = nI k ∧ lo ≤ k ∧ k ≤ hi := by
  have h0 : ¬ a < 0 := by
    rw [Int32.not_lt]
    exact Int32.le_trans (nI_pos' hlo) h.1
  obtain ⟨k, hk, rfl⟩ := nI_of h0
  exact ⟨k, rfl, (nI_leI hlo hk).mp h.1, (nI_leI hk hhi).mp h.2⟩
-- force
def f_force (g : GG) (a : Int32) : Int32 × GG := if a = -1 then (fI (gB g).2, gSt (gKe g (gS g, gP g, (gB g).1, none)) 0) else if 0 ≤ a ∧ a < nI (gB g).1.length then (fI (gB g).2, gSt (gKe g (gS g, gP g, (gB g).1, some a.toNatClampNeg)) 0) else (-2, gRe g 2)
theorem Wf_force {g : GG} (h : Wf g) (a : Int32) : Wf (f_force g a).2 := by
  obtain ⟨⟨h1, h2, h3, h4⟩, h5⟩ := h
  unfold f_force
  split
  · exact ⟨⟨h1, h2, h3, fun j q => by cases q⟩, h5⟩
  · split
    · rename_i q
      refine ⟨⟨h1, h2, h3, fun j e => ?_⟩, h5⟩
      cases e
      obtain ⟨i, hi, rfl⟩ := nI_of (Int32.not_lt.mpr q.1)
      rw [nI_clamp hi]
      have h3' : (gB g).1.length ≤ 6 := h3
      exact (nI_ltI hi (show (gB g).1.length < 2 ^ 31 by omega)).mp q.2
    · exact ⟨⟨h1, h2, h3, h4⟩, h5⟩
theorem CI_force {g : GG} {n : Nat} {y : sm_Y} {I : Nat → Nat → Int32} {R : Nat → Nat → Option Nat} {a : Int32} {f : Option Nat} (hw : Wf g) (hc : CI g n y I R) (hf : a = fI f) : CIb (gKe g (gS g, gP g, (gB g).1, f)) n y (sm_st I 6 3 a) R := by
  refine ⟨hc.1, hc.2.1, cS_kept2 (fun a j q => by (repeat (refine (sm_st_or _ _ (by omega)).trans ?_)); rfl) hc.2.2.1, cP_kept (fun a j q => by (repeat (refine (sm_st_or _ _ (by omega)).trans ?_)); rfl) hc.2.2.2.1, ?_, cU_kept (fun a j q => by (repeat (refine (sm_st_or _ _ (by omega)).trans ?_)); rfl) hc.2.2.2.2.2.1, cT_kept (fun a j q => by (repeat (refine (sm_st_or _ _ (by omega)).trans ?_)); rfl) hc.2.2.2.2.2.2.1, cN_kept (fun a j q => by (repeat (refine (sm_st_or _ _ (by omega)).trans ?_)); rfl) hc.2.2.2.2.2.2.2.1, cDr_kept (fun a j q => by (repeat (refine (sm_st_or _ _ (by omega)).trans ?_)); rfl) hc.2.2.2.2.2.2.2.2.1, cIm_kept hw.2.2.2.1 (fun a j q => by (repeat (refine (sm_st_or _ _ (by omega)).trans ?_)); rfl) hc.2.2.2.2.2.2.2.2.2.1⟩
  have hb := hc.2.2.2.2.1
  have h6 : (gB g).1.length ≤ 6 := hw.1.2.2.1
  refine ⟨hb.1, hf, ?_, fun i l hi => ?_⟩
  · exact cLaw_kept (fun a j h1 h2 => sm_st_o _ _ (by omega)) hb.2.2.1
  · exact cLaw_kept (fun a j h1 h2 => sm_st_o _ _ (by omega)) (hb.2.2.2 i l hi)
theorem C_force {ex : sm_O} {d : Nat} {w2 : Option Value} {g : GG} {a : Int32} (hd : 2 ≤ d) (hw : Wf g) : CM ex d 87 [some (.ref 0), some (.int a), w2] g (f_force g a).1 (f_force g a).2 := by
  intro n y I L R Q hc k
  have hb := hc.2.2.2.2.1
  have h6 : (gB g).1.length ≤ 6 := hw.1.2.2.1
  refine w_X10_force_0 (d1 := 1) hc.2.1 (by omega) ?_
  refine w_X0_isLawOrNone (mk0 hc.2.1) ?_
  rw [hb.1]
  unfold f_force at k
  have no : a < -1 ∨ nI (gB g).1.length ≤ a → sm_W ex d 0 0 87 8 [some (.ref 0), some (.int a), w2] [.int 0] (n, y, I, L, R) Q := by
    intro hq
    rw [if_neg (by
      rintro rfl
      rcases hq with q | q
      · exact absurd q (by decide)
      · exact absurd (Int32.le_trans (nI_pos' (by omega)) q) (by decide)), if_neg (by
      intro z
      rcases hq with q | q
      · exact absurd (Int32.lt_of_le_of_lt z.1 q) (by decide)
      · exact absurd z.2 (Int32.not_lt.mpr q))] at k
    refine w_X10_force_8 (d1 := 1) hc.2.1 (by omega) ?_
    rw [if_pos rfl]
    refine c_X10_refused (j := 2) hc.2.1 (by omega) (by decide) ?_
    exact w_X10_force_17 (k _ L (CI_ref hw hc (by omega)) (cKeep_ref 2 I L))
  by_cases q1 : a < -1
  · rw [if_pos q1]
    exact no (Or.inl q1)
  · rw [if_neg q1]
    by_cases q2 : nI (gB g).1.length ≤ a
    · rw [if_pos q2]
      exact no (Or.inr q2)
    · rw [if_neg q2]
      refine w_X10_force_8 (d1 := 1) hc.2.1 (by omega) ?_
      rw [if_neg (by decide), hb.2.1]
      refine c_X10_accepted hc.2.1 ?_
      refine w_X10_force_39 ?_
      have kp : cKeep I (accI (sm_st I 6 3 a)) L L := (cKeep.s I L (by decide) _ _).trans (cKeep_acc _ L)
      by_cases q3 : a = -1
      · rw [if_pos q3] at k
        exact k _ L (CI_acc (g := gKe g (gS g, gP g, (gB g).1, none)) ⟨⟨hw.1.1, hw.1.2.1, hw.1.2.2.1, fun j q => by cases q⟩, hw.2⟩ (CI_force hw hc (f := none) (by rw [q3]; rfl))) kp
      · rw [if_neg q3] at k
        have q4 : 0 ≤ a ∧ a < nI (gB g).1.length := by
          refine ⟨?_, Int32.not_le.mp q2⟩
          have z1 := Int32.not_lt.mp q1
          rw [Int32.le_iff_toInt_le] at z1 ⊢
          have z2 : (-1 : Int32).toInt = -1 := rfl
          have z3 : (0 : Int32).toInt = 0 := rfl
          have z4 : a.toInt ≠ -1 := fun z => q3 (Int32.toInt_inj.mp (by rw [z]; rfl))
          omega
        rw [if_pos q4] at k
        obtain ⟨i, hi, e⟩ := nI_of (Int32.not_lt.mpr q4.1)
        have hlt : i < (gB g).1.length := by rw [e] at q4; exact (nI_ltI hi (by omega)).mp q4.2
        have ec : a.toNatClampNeg = i := by rw [e, nI_clamp hi]
        rw [ec] at k
        exact k _ L (CI_acc (g := gKe g (gS g, gP g, (gB g).1, some i)) ⟨⟨hw.1.1, hw.1.2.1, hw.1.2.2.1, fun j q => by cases q; exact hlt⟩, hw.2⟩ (CI_force hw hc (f := some i) e)) kp
theorem MI_force {g : GG} {I : Nat → Nat → Int32} {L : Nat → Nat → Int64} {a : Int32} {f : Option Nat} (hw : Wf g) (hm : MI g I L) (hf : a = fI f) : MI (gKe g (gS g, gP g, (gB g).1, f)) (sm_st I 125 3 a) L := by
  obtain ⟨h1, h2, h3, h4⟩ := hm
  refine ⟨mS_ext (fun j q => by (repeat (refine (sm_st_or _ _ (by omega)).trans ?_)); rfl) hw.1.1.1.1 h1, mP_ext (fun j q => by (repeat (refine (sm_st_or _ _ (by omega)).trans ?_)); rfl) hw.1.2.1.1 h2, ⟨h3.1, hf, fun i l hi => ?_⟩, h4⟩
  exact mLaw_ext (fun j h1 h2 => sm_st_j _ _ (by omega)) (h3.2.2 i l hi)
theorem M_force {ex : sm_O} {d : Nat} {g : GG} {a : Int32} (hd : 2 ≤ d) (hw : Wf g) : MM ex d 180 [some (.ref 123), some (.int a)] g (f_force g a).1 (f_force g a).2 := by
  intro n y I L R Q hG hm k
  have hb := hm.2.2.1
  have h6 : (gB g).1.length ≤ 6 := hw.1.2.2.1
  refine w_X11_force_0 (d1 := 1) hG (by omega) ?_
  refine w_X11_isLaw hG (Nat.le_refl 1) ?_
  have e2 : (sm_st I 123 0 0) 125 2 = nI (gB g).1.length := hb.1
  rw [e2]
  simp only [sm_l64]
  unfold f_force at k
  have kp : mKeep I (telI (sm_st (sm_st I 123 0 0) 125 3 a)) := ((mKeep_thr I).trans (mKeep.s _ (by omega) _ _)).trans (mKeep_tel _)
  have yes : ∀ f, a = fI f → (fI (gB g).2, gSt (gKe g (gS g, gP g, (gB g).1, f)) 0) = f_force g a → sm_W ex d 0 0 180 10 [some (.ref 123), some (.int a)] [.int 1] (n, y, sm_st I 123 0 0, L, R) Q := by
    intro f hf hk
    refine w_X11_force_10 (d1 := 1) hG (by omega) ?_
    rw [if_neg (by decide)]
    refine w_X11_change hG ⟨vp_in_nI (n := 3) (by decide) (by decide), ?_⟩
    refine w_X11_force_19 (w_X11_force_28 ?_)
    have e3 : (sm_st I 123 0 0) 125 ((3 : Int32).toNatClampNeg) = fI (gB g).2 := hb.2.1
    rw [e3]
    have k : ∀ (I' : Nat → Nat → Int32) (L' : Nat → Nat → Int64), MI (f_force g a).2 I' L' → mKeep I I' → Q (some (.int (f_force g a).1)) (n, y, I', L', R) := k
    rw [← hk] at k
    exact k _ L (MI_acc (MI_force hw (MI_thr hm) hf)) kp
  by_cases q1 : a = -1
  · rw [if_pos q1]
    refine yes none (by rw [q1]; rfl) ?_
    unfold f_force
    rw [if_pos q1]
  · rw [if_neg q1]
    by_cases q2 : 0 ≤ a ∧ a < nI (gB g).1.length
    · rw [if_pos q2]
      obtain ⟨i, hi, e⟩ := nI_of (Int32.not_lt.mpr q2.1)
      refine yes (some i) e ?_
      unfold f_force
      rw [if_neg q1, if_pos q2, e, nI_clamp hi]
    · rw [if_neg q2]
      rw [if_neg q1, if_neg q2] at k
      refine w_X11_force_10 (d1 := 1) hG (by omega) ?_
      rw [if_pos rfl]
      refine c_X11_tellN (j := 2) hG (by omega) (by decide) ?_
      exact w_X11_force_28 (k _ L (MI_ref (MI_thr hm)) ((mKeep_thr I).trans (mKeep_rfu 2 _)))
-- terms
def tmax (a : Nat) : Nat := match a with
  | 0 => 999
  | 1 => 10
  | 2 => 9
  | _ => 99
def sp_term (s : St) (j v : Nat) : St := (sMen s, sHold s, sLook s, sTired s, sCash s, sUp s, sHeld s, sm_up (sTerm s) j v)
def g_terms (g : GG) (j v : Nat) : GG := gUn (gKe g (sp_term (gS g) j v, gP g, gB g)) []
def f_terms (g : GG) (a v : Int32) : Int32 × GG := if (0 ≤ a ∧ a ≤ 3) ∧ 0 ≤ v ∧ v ≤ nI (tmax a.toNatClampNeg) then (nI (sTerm (gS g) a.toNatClampNeg), gSt (g_terms g a.toNatClampNeg v.toNatClampNeg) 0) else (-1, gRe g 1)
theorem tmax_lt (j : Nat) : tmax j ≤ 999 := by
  match j with
  | 0 => decide
  | 1 => decide
  | 2 => decide
  | j + 3 => show 99 ≤ 999; decide
theorem Wf_gterms {g : GG} (h : Wf g) {j v : Nat} (hj : j ≤ 3) (hv : v ≤ tmax j) : Wf (g_terms g j v) := by
  obtain ⟨⟨⟨⟨h1, h2, h3, h4, h5, h6, h7, h8⟩, h9, h10⟩, h11⟩, h12, h13⟩ := h
  have u : ∀ i, sm_up (sTerm (gS g)) j v i = if i = j then v else sTerm (gS g) i := fun i => rfl
  refine ⟨⟨⟨⟨h1, h2, h3, h4, ?_, ?_, ?_, ?_⟩, ?_, h10⟩, h11⟩, ⟨Nat.zero_le _, fun _ q => by cases q⟩, h13⟩
  · show sm_up (sTerm (gS g)) j v 0 ≤ 100000
    rw [u]
    split
    · have := tmax_lt j; omega
    · exact h5
  · show sm_up (sTerm (gS g)) j v 1 ≤ 10
    rw [u]
    split
    · rename_i q; subst q; exact hv
    · exact h6
  · show sm_up (sTerm (gS g)) j v 2 ≤ 9
    rw [u]
    split
    · rename_i q; subst q; exact hv
    · exact h7
  · show sm_up (sTerm (gS g)) j v 3 ≤ 99
    rw [u]
    split
    · rename_i q; subst q; exact hv
    · exact h8
  · show sm_up (sTerm (gS g)) j v 0 ≤ 999
    rw [u]
    split
    · have := tmax_lt j; omega
    · exact h9
theorem nat_terms {a v : Int32} (h : (0 ≤ a ∧ a ≤ 3) ∧ 0 ≤ v ∧ v ≤ nI (tmax a.toNatClampNeg)) : ∃ j u : Nat, a = nI j ∧ j ≤ 3 ∧ v = nI u ∧ u ≤ tmax j := by
  obtain ⟨j, rfl, -, hj⟩ := sm_nat (lo := 0) (hi := 3) (by decide) h.1 (by decide)
  have e : (nI j).toNatClampNeg = j := nI_clamp (by omega)
  rw [e] at h
  obtain ⟨u, rfl, -, hu⟩ := sm_nat (lo := 0) (hi := tmax j) (by have := tmax_lt j; omega) h.2 (by decide)
  exact ⟨j, u, rfl, hj, rfl, hu⟩
theorem Wf_terms {g : GG} (h : Wf g) (a v : Int32) : Wf (f_terms g a v).2 := by
  unfold f_terms
  split
  · rename_i q
    obtain ⟨j, u, rfl, hj, rfl, hu⟩ := nat_terms q
    have := tmax_lt j
    rw [nI_clamp (by omega), nI_clamp (by omega)]
    exact Wf_gterms h hj hu
  · exact h
theorem CI_terms {g : GG} {n j v : Nat} {y : sm_Y} {I : Nat → Nat → Int32} {R : Nat → Nat → Option Nat} (hw : Wf g) (hc : CI g n y I R) (hj : j ≤ 3) : CIb (g_terms g j v) n y (sm_st (sm_st I 5 j (nI v)) 65 1 0) R := by
  have hs := hc.2.2.1
  refine ⟨hc.1, hc.2.1, ?_, cP_kept (fun a j q => by (repeat (refine (sm_st_or _ _ (by omega)).trans ?_)); rfl) hc.2.2.2.1, cB_kept hw.1.2.2.1 (fun a j q => by (repeat (refine (sm_st_or _ _ (by omega)).trans ?_)); rfl) hc.2.2.2.2.1, ?_, cT_kept (fun a j q => by (repeat (refine (sm_st_or _ _ (by omega)).trans ?_)); rfl) hc.2.2.2.2.2.2.1, cN_kept (fun a j q => by (repeat (refine (sm_st_or _ _ (by omega)).trans ?_)); rfl) hc.2.2.2.2.2.2.2.1, cDr_kept (fun a j q => by (repeat (refine (sm_st_or _ _ (by omega)).trans ?_)); rfl) hc.2.2.2.2.2.2.2.2.1, cIm_kept hw.2.2.2.1 (fun a j q => by (repeat (refine (sm_st_or _ _ (by omega)).trans ?_)); rfl) hc.2.2.2.2.2.2.2.2.2.1⟩
  · refine ⟨hs.1, hs.2.1, hs.2.2.1, hs.2.2.2.1, hs.2.2.2.2.1, fun i hi => ?_⟩
    show (sm_st (sm_st I 5 j (nI v)) 65 1 0) 5 i = nI (if i = j then v else sTerm (gS g) i)
    rw [sm_st_o _ _ (by decide)]
    by_cases q : i = j
    · subst q
      rw [if_pos rfl, sm_st_s]
    · rw [if_neg q, sm_st_j _ _ q]
      exact hs.2.2.2.2.2 i hi
  · exact ⟨rfl, fun i x q => by cases q⟩
theorem exT {ex : sm_O} (hE : exOK ex) {j : Nat} (hj : j ≤ 3) : (ex.1 0).2 j = nI (tmax j) := by
  match j, hj with
  | 0, _ => exact hE.2.1
  | 1, _ => exact hE.2.2.1
  | 2, _ => exact hE.2.2.2.1
  | 3, _ => exact hE.2.2.2.2
theorem C_terms {ex : sm_O} {d : Nat} {w3 : Option Value} {g : GG} {a v : Int32} (hd : 2 ≤ d) (hE : exOK ex) (hw : Wf g) : CM ex d 78 [some (.ref 0), some (.int a), some (.int v), w3] g (f_terms g a v).1 (f_terms g a v).2 := by
  intro n y I L R Q hc k
  unfold f_terms at k
  refine w_X10_terms_0 (d1 := 1) hc.2.1 (by omega) ?_
  rw [hE.1]
  have no : ¬ ((0 ≤ a ∧ a ≤ 3) ∧ 0 ≤ v ∧ v ≤ nI (tmax a.toNatClampNeg)) → sm_W ex 1 0 0 122 0 [some (.ref 0), some (.int (-1))] [] (n, y, I, L, R) (fun r μ1 => sm_W ex d 0 0 78 30 [some (.ref 0), some (.int a), some (.int v), w3] (r.toList ++ []) μ1 Q) := by
    intro q
    rw [if_neg q] at k
    refine c_X10_refused (j := 1) hc.2.1 (by omega) (by decide) ?_
    exact w_X10_terms_30 (k _ L (CI_ref hw hc (by omega)) (cKeep_ref 1 I L))
  by_cases q1 : a < 0
  · rw [if_pos q1]
    exact no (fun z => absurd q1 (Int32.not_lt.mpr z.1.1))
  rw [if_neg q1]
  by_cases q2 : nI 4 ≤ a
  · rw [if_pos q2]
    exact no (fun z => absurd (Int32.le_trans q2 z.1.2) (by decide))
  rw [if_neg q2]
  by_cases q3 : v < 0
  · rw [if_pos q3]
    exact no (fun z => absurd q3 (Int32.not_lt.mpr z.2.1))
  rw [if_neg q3]
  obtain ⟨j, hj, rfl⟩ := nI_of q1
  have hj3 : j ≤ 3 := by
    have : ¬ 4 ≤ j := fun z => q2 ((nI_leI (a := 4) (by decide) hj).mpr z)
    omega
  have ec : (nI j).toNatClampNeg = j := nI_clamp (by omega)
  refine ⟨vp_in_nI (by omega) (by decide), ?_⟩
  rw [ec, exT hE hj3]
  by_cases q4 : v ≤ nI (tmax j)
  · rw [if_pos q4]
    have hall : (0 ≤ nI j ∧ nI j ≤ 3) ∧ 0 ≤ v ∧ v ≤ nI (tmax (nI j).toNatClampNeg) := ⟨⟨nI_pos' (by omega), (nI_leI (b := 3) (by omega) (by decide)).mpr hj3⟩, Int32.not_lt.mp q3, by rw [ec]; exact q4⟩
    rw [if_pos hall, ec] at k
    obtain ⟨u, hu, rfl⟩ := nI_of q3
    rw [nI_clamp hu] at k
    have hmx := tmax_lt j
    have hu2 := (nI_leI hu (by omega)).mp q4
    refine ⟨vp_in_nI (by omega) (by decide), ?_⟩
    refine w_X4_clear ⟨hc.2.1.1 65 (by decide), hc.2.1.2 65 0 rfl, hc.2.1.1 66 (by decide)⟩ ?_
    refine w_X10_terms_61 (d1 := 1) hc.2.1 (by omega) ?_
    refine c_X10_accepted hc.2.1 ?_
    refine w_X10_terms_66 ?_
    rw [hc.2.2.1.2.2.2.2.2 j (by omega)]
    exact k _ L (CI_acc (Wf_gterms hw hj3 hu2) (CI_terms hw hc hj3)) (((cKeep.s I L (by decide) _ _).trans (cKeep.s _ L (by decide) _ _)).trans (cKeep_acc _ L))
  · rw [if_neg q4]
    exact no (fun z => by rw [ec] at z; exact q4 z.2.2)
theorem MI_terms {g : GG} {j v : Nat} {I : Nat → Nat → Int32} {L : Nat → Nat → Int64} (hw : Wf g) (hm : MI g I L) (hj : j ≤ 3) : MI (g_terms g j v) (sm_st (sm_st I 123 8 0) 125 (4 + j) (nI v)) L := by
  obtain ⟨h1, h2, h3, h4, h5, h6, h7, h8, h9⟩ := hm
  have hn := hw.1.1.1.1
  have hn : sMen (gS g) ≤ 7 := hn
  refine ⟨⟨?_, fun i hi => ?_, ?_, ?_, fun i hi => ?_⟩, mP_ext (fun j q => by (repeat (refine (sm_st_or _ _ (by omega)).trans ?_)); rfl) hw.1.2.1.1 h2, mB_ext (fun j q => by (repeat (refine (sm_st_or _ _ (by omega)).trans ?_)); rfl) hw.1.2.2.1 h3, ⟨rfl, fun i x q => by cases q⟩, h5, h6, h7, h8, h9⟩
  · rw [sm_st_j _ _ (by omega)]; exact h1.1
  · have hi : i < sMen (gS g) := hi
    exact ⟨(sm_st_j _ _ (by omega)).trans (h1.2.1 i hi).1, (sm_st_j _ _ (by omega)).trans (h1.2.1 i hi).2.1, (sm_st_j _ _ (by omega)).trans (h1.2.1 i hi).2.2.1, (sm_st_j _ _ (by omega)).trans (h1.2.1 i hi).2.2.2⟩
  · rw [sm_st_j _ _ (by omega)]; exact h1.2.2.1
  · rw [sm_st_j _ _ (by omega)]; exact h1.2.2.2.1
  · show _ = nI (if i = j then v else sTerm (gS g) i)
    by_cases q : i = j
    · subst q
      rw [if_pos rfl, sm_st_s]
    · rw [if_neg q, sm_st_j _ _ (by omega)]
      exact h1.2.2.2.2 i hi
theorem M_terms {ex : sm_O} {d : Nat} {w3 : Option Value} {g : GG} {a v : Int32} (hd : 2 ≤ d) (hw : Wf g) : MM ex d 145 [some (.ref 123), some (.int a), some (.int v), w3] g (f_terms g a v).1 (f_terms g a v).2 := by
  intro n y I L R Q hG hm k
  refine w_X11_terms_0 (d1 := 1) hG (by omega) (by omega) ?_
  have e0 : ((0 : Int64) ≤ v.toInt64 ∧ v.toInt64 ≤ (999 : Int64)) ↔ (0 ≤ v ∧ v ≤ nI (tmax 0)) := sm_in64 (lo := 0) (hi := 999)
  have e1 : ((0 : Int64) ≤ v.toInt64 ∧ v.toInt64 ≤ (10 : Int64)) ↔ (0 ≤ v ∧ v ≤ nI (tmax 1)) := sm_in64 (lo := 0) (hi := 10)
  have e2 : ((0 : Int64) ≤ v.toInt64 ∧ v.toInt64 ≤ (9 : Int64)) ↔ (0 ≤ v ∧ v ≤ nI (tmax 2)) := sm_in64 (lo := 0) (hi := 9)
  have e3 : ((0 : Int64) ≤ v.toInt64 ∧ v.toInt64 ≤ (99 : Int64)) ↔ (0 ≤ v ∧ v ≤ nI (tmax 3)) := sm_in64 (lo := 0) (hi := 99)
  have no : ∀ (u : Option Value), ¬ ((0 ≤ a ∧ a ≤ 3) ∧ 0 ≤ v ∧ v ≤ nI (tmax a.toNatClampNeg)) → sm_W ex 1 0 0 128 0 [some (.ref 123), some (.int (-1))] [] (n, y, sm_st I 123 0 0, L, R) (fun r μ1 => sm_W ex d 0 0 145 87 [some (.ref 123), some (.int a), some (.int v), u] (r.toList ++ []) μ1 Q) := by
    intro u q
    unfold f_terms at k
    rw [if_neg q] at k
    refine c_X11_tellN (j := 1) hG (by omega) (by decide) ?_
    exact w_X11_terms_87 (k _ L (MI_ref (MI_thr hm)) ((mKeep_thr I).trans (mKeep_rfu 1 _)))
  have yes : ∀ (u : Option Value) (j : Nat), j ≤ 3 → a = nI j → (0 ≤ v ∧ v ≤ nI (tmax j)) → sm_W ex 1 0 0 129 0 [some (.ref 123), some (.int (4 + a)), some (.int v), none] [] (n, y, sm_st (sm_st I 123 0 0) 123 8 0, L, R) (fun r μ1 => sm_W ex d 0 0 145 101 [some (.ref 123), some (.int a), some (.int v), u] (r.toList ++ []) μ1 Q) := by
    intro u j hj3 ha hv
    subst ha
    have ec : (nI j).toNatClampNeg = j := nI_clamp (by omega)
    have hall : (0 ≤ nI j ∧ nI j ≤ 3) ∧ 0 ≤ v ∧ v ≤ nI (tmax (nI j).toNatClampNeg) := ⟨⟨nI_pos' (by omega), (nI_leI (b := 3) (by omega) (by decide)).mpr hj3⟩, hv.1, by rw [ec]; exact hv.2⟩
    unfold f_terms at k
    rw [if_pos hall, ec] at k
    obtain ⟨w, hu, rfl⟩ := nI_of (Int32.not_lt.mpr hv.1)
    rw [nI_clamp hu] at k
    refine w_X11_change hG ⟨sm_ci4 (by omega) (by decide), ?_⟩
    rw [sm_cx4 (by omega)]
    refine w_X11_terms_101 ?_
    have e : (sm_st (sm_st I 123 0 0) 123 8 0) 125 (4 + j) = nI (sTerm (gS g) j) := hm.1.2.2.2.2 j (by omega)
    rw [e]
    exact k _ L (MI_acc (MI_terms hw (MI_thr hm) hj3)) ((((mKeep_thr I).trans (mKeep.s _ (by omega) _ _)).trans (mKeep.s _ (by omega) _ _)).trans (mKeep_tel _))
  by_cases q0 : a = 0
  · rw [if_pos q0]
    split
    · rename_i q
      exact yes _ 0 (by omega) q0 (e0.mp q)
    · rename_i q
      exact no _ (fun z => q (e0.mpr (by rw [q0] at z; exact z.2)))
  rw [if_neg q0]
  by_cases q1 : a = 1
  · rw [if_pos q1]
    split
    · rename_i q
      exact yes _ 1 (by omega) q1 (e1.mp q)
    · rename_i q
      exact no _ (fun z => q (e1.mpr (by rw [q1] at z; exact z.2)))
  rw [if_neg q1]
  by_cases q2 : a = 2
  · rw [if_pos q2]
    split
    · rename_i q
      exact yes _ 2 (by omega) q2 (e2.mp q)
    · rename_i q
      exact no _ (fun z => q (e2.mpr (by rw [q2] at z; exact z.2)))
  rw [if_neg q2]
  by_cases q3 : a = 3
  · rw [if_pos q3]
    split
    · rename_i q
      exact yes _ 3 (by omega) q3 (e3.mp q)
    · rename_i q
      exact no _ (fun z => q (e3.mpr (by rw [q3] at z; exact z.2)))
  rw [if_neg q3]
  refine no _ (fun z => ?_)
  obtain ⟨j, rfl, -, hj⟩ := sm_nat (lo := 0) (hi := 3) (by decide) z.1 (by decide)
  match j, hj with
  | 0, _ => exact q0 rfl
  | 1, _ => exact q1 rfl
  | 2, _ => exact q2 rfl
  | 3, _ => exact q3 rfl
-- plate
def g_plate (g : GG) (f b : Nat) : GG := gKe g (gS g, gP g ++ [(f, b)], gB g)
def f_plate (g : GG) (a b : Int32) : Int32 × GG := if (0 ≤ a ∧ a ≤ 5) ∧ 0 ≤ b ∧ b ≤ 1 then (if (gP g).length = 6 then (-5, gRe g 5) else (nI ((gP g).length + 1), gSt (g_plate g a.toNatClampNeg b.toNatClampNeg) 0)) else (-1, gRe g 1)
theorem Wf_gplate {g : GG} (h : Wf g) {f b : Nat} (hf : f ≤ 5) (hb : b ≤ 1) (hl : (gP g).length ≠ 6) : Wf (g_plate g f b) := by
  obtain ⟨⟨h1, ⟨h2, h3⟩, h4⟩, h5⟩ := h
  refine ⟨⟨h1, ⟨?_, fun x hx => ?_⟩, h4⟩, h5⟩
  · show (gP g ++ [(f, b)]).length ≤ 6
    have h2 : (gP g).length ≤ 6 := h2
    rw [List.length_append]
    simp only [List.length_cons, List.length_nil]
    omega
  · rcases List.mem_append.mp hx with q | q
    · exact h3 x q
    · rw [List.mem_singleton] at q
      subst q
      exact ⟨by show f < 6; omega, hb⟩
theorem nat_plate {a b : Int32} (h : (0 ≤ a ∧ a ≤ 5) ∧ 0 ≤ b ∧ b ≤ 1) : ∃ f x : Nat, a = nI f ∧ f ≤ 5 ∧ b = nI x ∧ x ≤ 1 := by
  obtain ⟨j, rfl, -, hj⟩ := sm_nat (lo := 0) (hi := 5) (by decide) h.1 (by decide)
  obtain ⟨u, rfl, -, hu⟩ := sm_nat (lo := 0) (hi := 1) (by decide) h.2 (by decide)
  exact ⟨j, u, rfl, hj, rfl, hu⟩
theorem Wf_plate {g : GG} (h : Wf g) (a b : Int32) : Wf (f_plate g a b).2 := by
  unfold f_plate
  split
  · rename_i q
    split
    · exact h
    · rename_i q2
      obtain ⟨j, u, rfl, hj, rfl, hu⟩ := nat_plate q
      rw [nI_clamp (by omega), nI_clamp (by omega)]
      exact Wf_gplate h hj hu q2
  · exact h
theorem sp_pb_lt (pl : List (Nat × Nat)) (b : Nat) : sp_pb pl b < 64 := sp_bits_lt _ 6
theorem sp_pb_on (pl : List (Nat × Nat)) {f : Nat} (b : Nat) (hf : f ≤ 5) : sp_pb pl b ||| 2 ^ f = sp_pb (pl ++ [(f, b)]) b := by
  unfold sp_pb
  rw [sp_bits_on _ (by omega : f < 6)]
  refine sp_bits_ext 6 (fun i _ => ?_)
  unfold sm_up
  by_cases q : i = f
  · subst q
    simp
  · rw [if_neg q]
    simp [q]
theorem sp_pb_off (pl : List (Nat × Nat)) (f : Nat) {b c : Nat} (hb : c ≠ b) : sp_pb (pl ++ [(f, b)]) c = sp_pb pl c := by
  refine sp_bits_ext 6 (fun i _ => ?_)
  simp [hb]
theorem C_plate {ex : sm_O} {d : Nat} {g : GG} {a b : Int32} (hd : 2 ≤ d) (hw : Wf g) : CM ex d 101 [some (.ref 0), some (.int a), some (.int b)] g (f_plate g a b).1 (f_plate g a b).2 := by
  intro n y I L R Q hc k
  unfold f_plate at k
  have hp := hc.2.2.2.1
  have h6 : (gP g).length ≤ 6 := hw.1.2.1.1
  refine w_X10_plate_0 (d1 := 1) hc.2.1 (by omega) ?_
  have no : ¬ ((0 ≤ a ∧ a ≤ 5) ∧ 0 ≤ b ∧ b ≤ 1) → sm_W ex 1 0 0 122 0 [some (.ref 0), some (.int (-1))] [] (n, y, I, L, R) (fun r μ1 => sm_W ex d 0 0 101 24 [some (.ref 0), some (.int a), some (.int b)] (r.toList ++ []) μ1 Q) := by
    intro q
    rw [if_neg q] at k
    refine c_X10_refused (j := 1) hc.2.1 (by omega) (by decide) ?_
    exact w_X10_plate_24 (k _ L (CI_ref hw hc (by omega)) (cKeep_ref 1 I L))
  by_cases q1 : a < 0
  · rw [if_pos q1]
    exact no (fun z => absurd q1 (Int32.not_lt.mpr z.1.1))
  rw [if_neg q1]
  by_cases q2 : 6 ≤ a
  · rw [if_pos q2]
    exact no (fun z => absurd (Int32.le_trans q2 z.1.2) (by decide))
  rw [if_neg q2]
  by_cases q3 : b < 0
  · rw [if_pos q3]
    exact no (fun z => absurd q3 (Int32.not_lt.mpr z.2.1))
  rw [if_neg q3]
  by_cases q4 : b ≤ 1
  · rw [if_pos q4]
    have q5 : a ≤ 5 := by
      obtain ⟨j, hj, rfl⟩ := nI_of q1
      have : ¬ 6 ≤ j := fun z => q2 ((nI_leI (a := 6) (by decide) hj).mpr z)
      exact (nI_leI (b := 5) hj (by decide)).mpr (by omega)
    have hall : (0 ≤ a ∧ a ≤ 5) ∧ 0 ≤ b ∧ b ≤ 1 := ⟨⟨Int32.not_lt.mp q1, q5⟩, Int32.not_lt.mp q3, q4⟩
    rw [if_pos hall] at k
    obtain ⟨f, x, rfl, hf, rfl, hx⟩ := nat_plate hall
    rw [hp.1]
    have hlt : nI (gP g).length < 6 ↔ (gP g).length < 6 := nI_ltI (b := 6) (by omega) (by decide)
    simp only [hlt]
    by_cases hl : (gP g).length = 6
    · rw [if_pos hl] at k
      rw [if_neg (by omega)]
      refine c_X10_refused (j := 5) hc.2.1 (by omega) (by decide) ?_
      exact w_X10_plate_43 (k _ L (CI_ref hw hc (by omega)) (cKeep_ref 5 I L))
    · rw [if_neg hl, nI_clamp (by omega), nI_clamp (by omega)] at k
      rw [if_pos (by omega), sm_n1]
      have p1 := sp_pb_lt (gP g) 1
      have p0 := sp_pb_lt (gP g) 0
      have pf : 2 ^ f < 128 := Nat.lt_of_lt_of_le (Nat.pow_lt_pow_right (by decide) (by omega : f < 7)) (by decide)
      match x, hx with
      | 1, _ =>
        rw [if_pos (show nI 1 = 1 from rfl), hp.2.1, sm_shl7 f (by omega), sm_or7 _ (by omega) _ pf, sp_pb_on _ 1 hf]
        refine c_X10_accepted hc.2.1 ?_
        refine w_X10_plate_106 ?_
        refine k _ L (CI_acc (Wf_gplate hw hf (by omega) hl) ?_) (((cKeep.s I L (by decide) _ _).trans (cKeep.s _ L (by decide) _ _)).trans (cKeep_acc _ L))
        refine ⟨hc.1, hc.2.1, cS_kept2 (fun a j q => by (repeat (refine (sm_st_or _ _ (by omega)).trans ?_)); rfl) hc.2.2.1, ?_, cB_kept hw.1.2.2.1 (fun a j q => by (repeat (refine (sm_st_or _ _ (by omega)).trans ?_)); rfl) hc.2.2.2.2.1, cU_kept (fun a j q => by (repeat (refine (sm_st_or _ _ (by omega)).trans ?_)); rfl) hc.2.2.2.2.2.1, cT_kept (fun a j q => by (repeat (refine (sm_st_or _ _ (by omega)).trans ?_)); rfl) hc.2.2.2.2.2.2.1, cN_kept (fun a j q => by (repeat (refine (sm_st_or _ _ (by omega)).trans ?_)); rfl) hc.2.2.2.2.2.2.2.1, cDr_kept (fun a j q => by (repeat (refine (sm_st_or _ _ (by omega)).trans ?_)); rfl) hc.2.2.2.2.2.2.2.2.1, cIm_kept hw.2.2.2.1 (fun a j q => by (repeat (refine (sm_st_or _ _ (by omega)).trans ?_)); rfl) hc.2.2.2.2.2.2.2.2.2.1⟩
        refine ⟨?_, ?_, ?_⟩
        · rw [sm_st_s]; show _ = nI (gP g ++ [(f, 1)]).length; rw [List.length_append]; rfl
        · rw [sm_st_j _ _ (by decide), sm_st_s]; rfl
        · rw [sm_st_j _ _ (by decide), sm_st_j _ _ (by decide), hp.2.2]; show _ = nI (sp_pb (gP g ++ [(f, 1)]) 0); rw [sp_pb_off _ _ (by decide)]
      | 0, _ =>
        rw [if_neg (show ¬ nI 0 = 1 by decide), hp.2.2, sm_shl7 f (by omega), sm_or7 _ (by omega) _ pf, sp_pb_on _ 0 hf]
        refine c_X10_accepted hc.2.1 ?_
        refine w_X10_plate_106 ?_
        refine k _ L (CI_acc (Wf_gplate hw hf (by omega) hl) ?_) (((cKeep.s I L (by decide) _ _).trans (cKeep.s _ L (by decide) _ _)).trans (cKeep_acc _ L))
        refine ⟨hc.1, hc.2.1, cS_kept2 (fun a j q => by (repeat (refine (sm_st_or _ _ (by omega)).trans ?_)); rfl) hc.2.2.1, ?_, cB_kept hw.1.2.2.1 (fun a j q => by (repeat (refine (sm_st_or _ _ (by omega)).trans ?_)); rfl) hc.2.2.2.2.1, cU_kept (fun a j q => by (repeat (refine (sm_st_or _ _ (by omega)).trans ?_)); rfl) hc.2.2.2.2.2.1, cT_kept (fun a j q => by (repeat (refine (sm_st_or _ _ (by omega)).trans ?_)); rfl) hc.2.2.2.2.2.2.1, cN_kept (fun a j q => by (repeat (refine (sm_st_or _ _ (by omega)).trans ?_)); rfl) hc.2.2.2.2.2.2.2.1, cDr_kept (fun a j q => by (repeat (refine (sm_st_or _ _ (by omega)).trans ?_)); rfl) hc.2.2.2.2.2.2.2.2.1, cIm_kept hw.2.2.2.1 (fun a j q => by (repeat (refine (sm_st_or _ _ (by omega)).trans ?_)); rfl) hc.2.2.2.2.2.2.2.2.2.1⟩
        refine ⟨?_, ?_, ?_⟩
        · rw [sm_st_s]; show _ = nI (gP g ++ [(f, 0)]).length; rw [List.length_append]; rfl
        · rw [sm_st_j _ _ (by decide), sm_st_j _ _ (by decide), hp.2.1]; show _ = nI (sp_pb (gP g ++ [(f, 0)]) 1); rw [sp_pb_off _ _ (by decide)]
        · rw [sm_st_j _ _ (by decide), sm_st_s]; rfl
  · rw [if_neg q4]
    exact no (fun z => q4 z.2.2)
theorem MI_plate {g : GG} {f b : Nat} {I : Nat → Nat → Int32} {L : Nat → Nat → Int64} (hw : Wf g) (hl : (gP g).length < 6) (hm : MI g I L) : MI (g_plate g f b) (sm_st (sm_st (sm_st I 125 (38 + 2 * (gP g).length) (nI f)) 125 (38 + 2 * (gP g).length + 1) (nI b)) 125 1 (nI ((gP g).length + 1))) L := by
  obtain ⟨h1, h2, h3, h4⟩ := hm
  refine ⟨mS_ext (fun j q => by (repeat (refine (sm_st_or _ _ (by omega)).trans ?_)); rfl) hw.1.1.1.1 h1, ⟨?_, fun k x hx => ?_⟩, mB_ext (fun j q => by (repeat (refine (sm_st_or _ _ (by omega)).trans ?_)); rfl) hw.1.2.2.1 h3, h4⟩
  · rw [sm_st_s]
    show _ = nI (gP g ++ [(f, b)]).length
    rw [List.length_append]
    rfl
  · have hx : (gP g ++ [(f, b)])[k]? = some x := hx
    by_cases q : k < (gP g).length
    · rw [List.getElem?_append_left q] at hx
      rw [sm_st_j _ _ (by omega), sm_st_j _ _ (by omega), sm_st_j _ _ (by omega), sm_st_j _ _ (by omega), sm_st_j _ _ (by omega), sm_st_j _ _ (by omega)]
      exact h2.2 k x hx
    · have hk : k = (gP g).length := by
        have := (List.getElem?_eq_some_iff.mp hx).1
        rw [List.length_append] at this
        simp only [List.length_cons, List.length_nil] at this
        omega
      subst hk
      rw [List.getElem?_append_right (Nat.le_refl _), Nat.sub_self] at hx
      cases hx
      refine ⟨?_, ?_⟩
      · rw [sm_st_j _ _ (by omega), sm_st_j _ _ (by omega), sm_st_s]
      · rw [sm_st_j _ _ (by omega), sm_st_s]
theorem M_plate {ex : sm_O} {d : Nat} {w3 : Option Value} {g : GG} {a b : Int32} (hd : 2 ≤ d) (hw : Wf g) : MM ex d 221 [some (.ref 123), some (.int a), some (.int b), w3] g (f_plate g a b).1 (f_plate g a b).2 := by
  intro n y I L R Q hG hm k
  unfold f_plate at k
  have h6 : (gP g).length ≤ 6 := hw.1.2.1.1
  refine w_X11_plate_0 (d1 := 1) hG (by omega) (by omega) ?_
  have e0 : ((0 : Int64) ≤ a.toInt64 ∧ a.toInt64 ≤ (5 : Int64)) ↔ (0 ≤ a ∧ a ≤ 5) := sm_in64 (lo := 0) (hi := 5)
  have e1 : ((0 : Int64) ≤ b.toInt64 ∧ b.toInt64 ≤ (1 : Int64)) ↔ (0 ≤ b ∧ b ≤ 1) := sm_in64 (lo := 0) (hi := 1)
  simp only [e0, e1]
  have no : ¬ ((0 ≤ a ∧ a ≤ 5) ∧ 0 ≤ b ∧ b ≤ 1) → sm_W ex 1 0 0 128 0 [some (.ref 123), some (.int (-1))] [] (n, y, sm_st I 123 0 0, L, R) (fun r μ1 => sm_W ex d 0 0 221 32 [some (.ref 123), some (.int a), some (.int b), w3] (r.toList ++ []) μ1 Q) := by
    intro q
    rw [if_neg q] at k
    refine c_X11_tellN (j := 1) hG (by omega) (by decide) ?_
    exact w_X11_plate_32 (k _ L (MI_ref (MI_thr hm)) ((mKeep_thr I).trans (mKeep_rfu 1 _)))
  by_cases q1 : 0 ≤ a ∧ a ≤ 5
  · rw [if_pos q1]
    by_cases q2 : 0 ≤ b ∧ b ≤ 1
    · rw [if_pos q2]
      rw [if_pos ⟨q1, q2⟩] at k
      obtain ⟨f, x, rfl, hf, rfl, hx⟩ := nat_plate ⟨q1, q2⟩
      have el : (sm_st I 123 0 0) 125 1 = nI (gP g).length := hm.2.1.1
      have e6 : nI (gP g).length = 6 ↔ (gP g).length = 6 := nI_eq (b := 6) (by omega) (by decide)
      have el0 : I 125 1 = nI (gP g).length := hm.2.1.1
      rw [el0]
      simp only [e6]
      by_cases hl : (gP g).length = 6
      · rw [if_pos hl] at k ⊢
        refine c_X11_tellN (j := 5) hG (by omega) (by decide) ?_
        exact w_X11_plate_52 (k _ L (MI_ref (MI_thr hm)) ((mKeep_thr I).trans (mKeep_rfu 5 _)))
      · rw [if_neg hl] at k ⊢
        rw [nI_clamp (by omega), nI_clamp (by omega)] at k
        have i1 : (38 : Int32) + 2 * nI (gP g).length = nI (38 + 2 * (gP g).length) := by rw [sm_of 38, sm_of 2, pk_mul, nI_add]
        rw [i1, sm_n1, nI_clamp (by omega), nI_clamp (by omega), sm_n1]
        refine ⟨vp_in_nI (by omega) (by decide), vp_in_nI (by omega) (by decide), ?_⟩
        rw [sm_st_j _ _ (by omega), sm_st_j _ _ (by omega), el, sm_n1]
        refine c_X11_tellP hG (nI_pos' (by omega)) ?_
        refine w_X11_plate_96 ?_
        exact k _ L (MI_acc (MI_plate hw (by omega) (MI_thr hm))) (((((mKeep_thr I).trans (mKeep.s _ (by omega) _ _)).trans (mKeep.s _ (by omega) _ _)).trans (mKeep.s _ (by omega) _ _)).trans (mKeep_tel _))
    · rw [if_neg q2]
      exact no (fun z => q2 z.2)
  · rw [if_neg q1]
    exact no (fun z => q1 z.1)
-- count
def f_count (g : GG) (w : Int) : Int32 := if w = 0 then nI (sMen (gS g)) else if w = 1 then nI (sp_fit (gS g)) else if w = 2 then sp_up (sUp (gS g)) else if w = 3 then nI (sHeld (gS g)) else if w = 4 then nI (gP g).length else if w = 5 then nI (gB g).1.length else if w = 6 then nI (gU g).length else if w = 7 then nI (gT g).1 else if w = 8 then (gN g).2.2.2.2 1 else if w = 9 then (gN g).2.2.2.2 2 else if w = 10 then (gN g).2.2.2.2 3 else if w = 11 then (gN g).2.2.2.2 5 else if w = 12 then (gN g).2.2.2.2 6 else if w = 13 then fI (gB g).2 else if w = 14 then nI (sTerm (gS g) 0) else if w = 15 then nI (sTerm (gS g) 1) else if w = 16 then nI (sTerm (gS g) 2) else if w = 17 then nI (sTerm (gS g) 3) else -1
theorem f_count_no (g : GG) {w : Int} (h : w < 0 ∨ 17 < w) : f_count g w = -1 := by
  unfold f_count
  iterate 18 rw [if_neg (by omega)]
theorem C_count {ex : sm_O} {d : Nat} {g : GG} {a : Int32} (hd : 2 ≤ d) (hw : Wf g) : CM ex d 111 [some (.ref 0), some (.int a)] g (f_count g a.toInt) g := by
  intro n y I L R Q hc k
  have k := k I L hc (cKeep.rfl' I L)
  have ⟨_, hG, hS, hP, hB, hU, hT, hN, _, _, _⟩ := hc
  refine w_X10_count_0 (d1 := 1) hG (by omega) ⟨fun h => ?_, fun h => ?_, fun h => ?_, fun h => ?_, fun h => ?_, fun h => ?_, fun h => ?_, fun h => ?_, fun h => ?_, fun h => ?_, fun h => ?_, fun h => ?_, fun h => ?_, fun h => ?_, fun h => ?_, fun h => ?_, fun h => ?_, fun h => ?_, fun h => ?_⟩
  · rw [f_count_no g h] at k; exact k
  · rw [h] at k; rw [hS.1]; exact k
  · rw [h] at k
    refine c_X9_fit (Nat.le_refl 1) ⟨hG.1 1 (by decide), hG.2 1 0 rfl, hG.2 1 1 rfl, hG.2 1 2 rfl, hG.2 1 3 rfl, hG.1 2 (by decide), hG.1 3 (by decide), hG.1 4 (by decide), hG.1 5 (by decide)⟩ hS hw.1.1.1.1 ?_
    exact w_X10_count_103 k
  · rw [h] at k; rw [hS.2.2.2.1]; exact k
  · rw [h] at k; rw [hS.2.2.2.2.1]; exact k
  · rw [h] at k; rw [hP.1]; exact k
  · rw [h] at k; rw [hB.1]; exact k
  · rw [h] at k; rw [hU.1]; exact k
  · rw [h] at k; rw [hT.1]; exact k
  · rw [h] at k; rw [hN.2.2.2.2 1 (by decide)]; exact k
  · rw [h] at k; rw [hN.2.2.2.2 2 (by decide)]; exact k
  · rw [h] at k; rw [hN.2.2.2.2 3 (by decide)]; exact k
  · rw [h] at k; rw [hN.2.2.2.2 5 (by decide)]; exact k
  · rw [h] at k; rw [hN.2.2.2.2 6 (by decide)]; exact k
  · rw [h] at k; rw [hB.2.1]; exact k
  · rw [h] at k; rw [hS.2.2.2.2.2 0 (by decide)]; exact k
  · rw [h] at k; rw [hS.2.2.2.2.2 1 (by decide)]; exact k
  · rw [h] at k; rw [hS.2.2.2.2.2 2 (by decide)]; exact k
  · rw [h] at k; rw [hS.2.2.2.2.2 3 (by decide)]; exact k
theorem M_count {ex : sm_O} {d : Nat} {g : GG} {a : Int32} (hd : 2 ≤ d) (hw : Wf g) : MM ex d 238 [some (.ref 123), some (.int a)] g (f_count g a.toInt) g := by
  intro n y I L R Q hG hm k
  have k := k _ L (MI_thr hm) (mKeep_thr I)
  have ⟨hS, hP, hB, hU, hT, hN, _⟩ := hm
  have tm : ∀ i : Nat, i < 4 → a.toInt = 14 + i → Q (some (.int (nI (sTerm (gS g) i)))) (n, y, sm_st I 123 0 0, L, R) → vp_in ((4 + a) - 14) 5450 ∧ Q (some (.int (I 125 ((4 + a) - 14).toNatClampNeg))) (n, y, sm_st I 123 0 0, L, R) := by
    intro i hi h hk
    have e : a = nI (14 + i) := Int32.toInt_inj.mp (by rw [h, nI_toInt (by omega)]; omega)
    have e2 : (4 : Int32) + a - 14 = nI (4 + i) := by
      rw [e, sm_of 4, sm_of 14, nI_add, pk_sub (by omega)]
      congr 1
      omega
    rw [e2, nI_clamp (by omega), hS.2.2.2.2 i hi]
    exact ⟨vp_in_nI (by omega) (by decide), hk⟩
  refine w_X11_count_0 (d1 := 1) hG (by omega) (by omega) ⟨fun h => ?_, fun h => ?_, fun h => ?_, fun h => ?_, fun h => ?_, fun h => ?_, fun h => ?_, fun h => ?_, fun h => ?_, fun h => ?_, fun h => ?_, fun h => ?_, fun h => ?_, fun h => ?_, fun h => ?_⟩
  · have e : ((14 : Int64) ≤ a.toInt64 ∧ a.toInt64 ≤ (17 : Int64)) ↔ (14 ≤ a ∧ a ≤ 17) := sm_in64 (lo := 14) (hi := 17)
    simp only [e]
    by_cases q : 14 ≤ a ∧ a ≤ 17
    · rw [if_pos q]
      rw [Int32.le_iff_toInt_le, Int32.le_iff_toInt_le] at q
      have z1 : (14 : Int32).toInt = 14 := rfl
      have z2 : (17 : Int32).toInt = 17 := rfl
      rcases (by omega : a.toInt = 14 ∨ a.toInt = 15 ∨ a.toInt = 16 ∨ a.toInt = 17) with w | w | w | w
      · rw [w] at k; exact tm 0 (by decide) (by rw [w]; rfl) k
      · rw [w] at k; exact tm 1 (by decide) (by rw [w]; rfl) k
      · rw [w] at k; exact tm 2 (by decide) (by rw [w]; rfl) k
      · rw [w] at k; exact tm 3 (by decide) (by rw [w]; rfl) k
    · rw [if_neg q]
      rw [f_count_no g (by
        rw [Int32.le_iff_toInt_le, Int32.le_iff_toInt_le] at q
        have z1 : (14 : Int32).toInt = 14 := rfl
        have z2 : (17 : Int32).toInt = 17 := rfl
        omega)] at k
      exact k
  · rw [h] at k; rw [hS.1]; exact k
  · rw [h] at k
    refine c_X11_fitBits (s := gS g) (Nat.le_refl 1) hG hS hw.1.1.1.1 ?_
    refine w_X11_count_87 (d1 := 1) (by omega) ?_
    refine c_X11_many hw.1.1.1.1 ?_
    exact w_X11_count_90 k
  · rw [h] at k; rw [hS.2.2.1]; exact k
  · rw [h] at k; rw [hS.2.2.2.1]; exact k
  · rw [h] at k; rw [hP.1]; exact k
  · rw [h] at k; rw [hB.1]; exact k
  · rw [h] at k; rw [hU.1]; exact k
  · rw [h] at k; rw [hT.1]; exact k
  · rw [h] at k; rw [hN.2.2.2.2.2 1 (by decide)]; exact k
  · rw [h] at k; rw [hN.2.2.2.2.2 2 (by decide)]; exact k
  · rw [h] at k; rw [hN.2.2.2.2.2 3 (by decide)]; exact k
  · rw [h] at k; rw [hN.2.2.2.2.2 5 (by decide)]; exact k
  · rw [h] at k; rw [hN.2.2.2.2.2 6 (by decide)]; exact k
  · rw [h] at k; rw [hB.2.1]; exact k

