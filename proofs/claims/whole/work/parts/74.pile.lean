set_option maxRecDepth 100000 in
theorem w_X11_emit_0 {ex : sm_O} {d n : Nat} {y : sm_Y} {I : Nat → Nat → Int32} {L : Nat → Nat → Int64} {R : Nat → Nat → Option Nat} {Q : sm_Q} {a1 : Int32} {a2 : Int32} (hG : sm_G y R) (k : vp_in (I 123 23) 400 ∧ Q none (n, y, sm_st (sm_st (sm_st I 134 ((I 123 23).toNatClampNeg) a1) 135 ((I 123 23).toNatClampNeg) a2) 123 23 ((I 123 23) + 1), L, R)) : sm_W ex d 0 0 160 0 [some (.ref 123), some (.int a1), some (.int a2)] [] (n, y, I, L, R) Q := sm_in (sm_in (And.intro (hG.1 123 (Nat.le_of_ble_eq_true rfl)) (sm_gfr rfl (hG.2 123 24 rfl) (sm_in (sm_in (And.intro (hG.1 123 (Nat.le_of_ble_eq_true rfl)) (sm_in ((have e1 := k.1; have k1 := k.2; sm_in (Exists.intro 400 (And.intro (hG.1 134 (Nat.le_of_ble_eq_true rfl)) (And.intro e1 (sm_in (sm_in (And.intro (hG.1 123 (Nat.le_of_ble_eq_true rfl)) (sm_gfr rfl (hG.2 123 25 rfl) (sm_in (sm_in (And.intro (hG.1 123 (Nat.le_of_ble_eq_true rfl)) (sm_in (sm_in (Exists.intro 400 (And.intro (hG.1 135 (Nat.le_of_ble_eq_true rfl)) (And.intro e1 (sm_in (sm_in (And.intro rfl (sm_in (And.intro (hG.1 123 (Nat.le_of_ble_eq_true rfl)) (sm_in (sm_in (sm_in (And.intro (hG.1 123 (Nat.le_of_ble_eq_true rfl)) (sm_in (And.intro rfl (And.intro rfl k1))))))))))))))))))))))))))))))))))))
set_option maxRecDepth 100000 in
theorem w_X11_push_0 {ex : sm_O} {d n : Nat} {y : sm_Y} {I : Nat → Nat → Int32} {L : Nat → Nat → Int64} {R : Nat → Nat → Option Nat} {Q : sm_Q} {a1 : Int32} {a2 : Int32} (hG : sm_G y R) (k : vp_in (I 123 29) 400 ∧ Q none (n, y, sm_st (sm_st (sm_st I 136 ((I 123 29).toNatClampNeg) a1) 137 ((I 123 29).toNatClampNeg) a2) 123 29 ((I 123 29) + 1), L, R)) : sm_W ex d 0 0 161 0 [some (.ref 123), some (.int a1), some (.int a2)] [] (n, y, I, L, R) Q := sm_in (sm_in (And.intro (hG.1 123 (Nat.le_of_ble_eq_true rfl)) (sm_gfr rfl (hG.2 123 27 rfl) (sm_in (sm_in (And.intro (hG.1 123 (Nat.le_of_ble_eq_true rfl)) (sm_in ((have e1 := k.1; have k1 := k.2; sm_in (Exists.intro 400 (And.intro (hG.1 136 (Nat.le_of_ble_eq_true rfl)) (And.intro e1 (sm_in (sm_in (And.intro (hG.1 123 (Nat.le_of_ble_eq_true rfl)) (sm_gfr rfl (hG.2 123 28 rfl) (sm_in (sm_in (And.intro (hG.1 123 (Nat.le_of_ble_eq_true rfl)) (sm_in (sm_in (Exists.intro 400 (And.intro (hG.1 137 (Nat.le_of_ble_eq_true rfl)) (And.intro e1 (sm_in (sm_in (And.intro rfl (sm_in (And.intro (hG.1 123 (Nat.le_of_ble_eq_true rfl)) (sm_in (sm_in (sm_in (And.intro (hG.1 123 (Nat.le_of_ble_eq_true rfl)) (sm_in (And.intro rfl (And.intro rfl k1))))))))))))))))))))))))))))))))))))
set_option maxRecDepth 100000 in
theorem w_X11_binds_0 {ex : sm_O} {d n : Nat} {y : sm_Y} {I : Nat → Nat → Int32} {L : Nat → Nat → Int64} {R : Nat → Nat → Option Nat} {Q : sm_Q} {a0 : Int32} (k : if a0 < 31 then (if a0 = 30 then (Q (some (.int 1)) (n, y, I, L, R)) else (if a0 = 29 then (Q (some (.int 2)) (n, y, I, L, R)) else (if a0 = 28 then (Q (some (.int 3)) (n, y, I, L, R)) else (if a0 < 25 then (if a0 < 22 then (Q (some (.int 5)) (n, y, I, L, R)) else (Q (some (.int 6)) (n, y, I, L, R))) else (Q (some (.int 4)) (n, y, I, L, R)))))) else (Q (some (.int 0)) (n, y, I, L, R))) : sm_W ex d 0 0 162 0 [some (.int a0)] [] (n, y, I, L, R) Q := sm_in (sm_in (sm_in (And.intro (fun c1 => have k1t := Eq.mp (if_pos c1) k; sm_in (sm_in (sm_in (And.intro (fun c2 => have k2f := Eq.mp (if_neg c2) k1t; sm_in (sm_in (sm_in (And.intro (fun c3 => have k3f := Eq.mp (if_neg c3) k2f; sm_in (sm_in (sm_in (And.intro (fun c4 => have k4f := Eq.mp (if_neg c4) k3f; sm_in (sm_in (sm_in (And.intro (fun c5 => have k5t := Eq.mp (if_pos c5) k4f; sm_in (sm_in (sm_in (And.intro (fun c6 => have k6t := Eq.mp (if_pos c6) k5t; sm_in (sm_in (And.intro rfl k6t))) (fun c6 => have k6f := Eq.mp (if_neg c6) k5t; sm_in (sm_in (sm_in (And.intro rfl k6f)))))))) (fun c5 => have k5f := Eq.mp (if_neg c5) k4f; sm_in (sm_in (sm_in (And.intro rfl k5f)))))))) (fun c4 => have k4t := Eq.mp (if_pos c4) k3f; sm_in (sm_in (sm_in (And.intro rfl k4t)))))))) (fun c3 => have k3t := Eq.mp (if_pos c3) k2f; sm_in (sm_in (sm_in (And.intro rfl k3t)))))))) (fun c2 => have k2t := Eq.mp (if_pos c2) k1t; sm_in (sm_in (sm_in (And.intro rfl k2t)))))))) (fun c1 => have k1f := Eq.mp (if_neg c1) k; sm_in (sm_in (sm_in (And.intro rfl k1f)))))))
set_option maxRecDepth 100000 in
theorem w_X11_settle_0 {ex : sm_O} {d n : Nat} {y : sm_Y} {I : Nat → Nat → Int32} {L : Nat → Nat → Int64} {R : Nat → Nat → Option Nat} {Q : sm_Q} {w1 : Option Value} {d1 : Nat} (hG : sm_G y R) (h1 : d1 < d) (k : if (I 123 29) ≤ 0 then (Q none (n, y, I, L, R)) else (vp_in ((I 123 29) - 1) 400 ∧ sm_W ex d1 0 0 162 0 [some (.int (I 136 ((I 123 29) - 1).toNatClampNeg))] [] (n, y, I, L, R) (fun r μ1 => sm_W ex d 0 0 163 21 [some (.ref 123), w1] (r.toList ++ []) μ1 Q))) : sm_W ex d 0 0 163 0 [some (.ref 123), w1] [] (n, y, I, L, R) Q := sm_in (sm_in (And.intro (hG.1 123 (Nat.le_of_ble_eq_true rfl)) (sm_in (And.intro (fun c1 => have k1t := Eq.mp (if_pos c1) k; sm_in (And.intro rfl (And.intro rfl k1t))) (fun c1 => have k1f := Eq.mp (if_neg c1) k; sm_in (sm_in (And.intro (hG.1 123 (Nat.le_of_ble_eq_true rfl)) (sm_gfr rfl (hG.2 123 27 rfl) (sm_in (sm_in (And.intro (hG.1 123 (Nat.le_of_ble_eq_true rfl)) (sm_in (sm_in ((have e2 := k1f.1; have k2 := k1f.2; sm_in (Exists.intro 400 (And.intro (hG.1 136 (Nat.le_of_ble_eq_true rfl)) (And.intro e2 (sm_in (And.intro (Nat.le_of_ble_eq_true rfl) (sm_calln h1 (Nat.le_of_ble_eq_true rfl) (Nat.le_of_ble_eq_true rfl) k2)))))))))))))))))))))
set_option maxRecDepth 100000 in
theorem w_X11_settle_21 {ex : sm_O} {d n : Nat} {y : sm_Y} {I : Nat → Nat → Int32} {L : Nat → Nat → Int64} {R : Nat → Nat → Option Nat} {Q : sm_Q} {a1 : Int32} {s0 : Int32} {d1 : Nat} (hG : sm_G y R) (h1 : d1 < d) (k : if s0 < a1 then (Q none (n, y, I, L, R)) else (vp_in ((I 123 29) - 1) 400 ∧ (if (I 136 ((I 123 29) - 1).toNatClampNeg) = 29 then (vp_in (I 137 ((I 123 29) - 1).toNatClampNeg) 400 ∧ (if ((I 123 29) - 1) ≤ 0 then (Q none (n, y, sm_st (sm_st I 123 29 ((I 123 29) - 1)) 135 ((I 137 ((I 123 29) - 1).toNatClampNeg).toNatClampNeg) (I 123 23), L, R)) else (vp_in (((I 123 29) - 1) - 1) 400 ∧ sm_W ex d1 0 0 162 0 [some (.int (I 136 (((I 123 29) - 1) - 1).toNatClampNeg))] [] (n, y, sm_st (sm_st I 123 29 ((I 123 29) - 1)) 135 ((I 137 ((I 123 29) - 1).toNatClampNeg).toNatClampNeg) (I 123 23), L, R) (fun r μ1 => sm_W ex d 0 0 163 21 [some (.ref 123), some (.int a1)] (r.toList ++ []) μ1 Q)))) else (if (I 136 ((I 123 29) - 1).toNatClampNeg) = 30 then (vp_in (I 137 ((I 123 29) - 1).toNatClampNeg) 400 ∧ (if ((I 123 29) - 1) ≤ 0 then (Q none (n, y, sm_st (sm_st I 123 29 ((I 123 29) - 1)) 135 ((I 137 ((I 123 29) - 1).toNatClampNeg).toNatClampNeg) (I 123 23), L, R)) else (vp_in (((I 123 29) - 1) - 1) 400 ∧ sm_W ex d1 0 0 162 0 [some (.int (I 136 (((I 123 29) - 1) - 1).toNatClampNeg))] [] (n, y, sm_st (sm_st I 123 29 ((I 123 29) - 1)) 135 ((I 137 ((I 123 29) - 1).toNatClampNeg).toNatClampNeg) (I 123 23), L, R) (fun r μ1 => sm_W ex d 0 0 163 21 [some (.ref 123), some (.int a1)] (r.toList ++ []) μ1 Q)))) else (sm_W ex d1 0 0 160 0 [some (.ref 123), some (.int (I 136 ((I 123 29) - 1).toNatClampNeg)), some (.int 0)] [] (n, y, sm_st I 123 29 ((I 123 29) - 1), L, R) (fun r μ1 => sm_W ex d 0 0 163 98 [some (.ref 123), some (.int a1)] (r.toList ++ []) μ1 Q)))))) : sm_W ex d 0 0 163 21 [some (.ref 123), some (.int a1)] [.int s0] (n, y, I, L, R) Q := sm_in (sm_in (And.intro (fun c1 => have k1t := Eq.mp (if_pos c1) k; sm_in (And.intro rfl (And.intro rfl k1t))) (fun c1 => have k1f := Eq.mp (if_neg c1) k; sm_in (sm_in (And.intro rfl (sm_in (And.intro (hG.1 123 (Nat.le_of_ble_eq_true rfl)) (sm_in (sm_in (sm_in (And.intro (hG.1 123 (Nat.le_of_ble_eq_true rfl)) (sm_in (sm_in (And.intro (hG.1 123 (Nat.le_of_ble_eq_true rfl)) (sm_gfr rfl (hG.2 123 27 rfl) (sm_in (sm_in (And.intro (hG.1 123 (Nat.le_of_ble_eq_true rfl)) ((have e2 := k1f.1; have k2 := k1f.2; sm_in (Exists.intro 400 (And.intro (hG.1 136 (Nat.le_of_ble_eq_true rfl)) (And.intro e2 (sm_in (sm_in (And.intro (fun c3 => have k3t := Eq.mp (if_pos c3) k2; sm_in (sm_in (And.intro (hG.1 123 (Nat.le_of_ble_eq_true rfl)) (sm_gfr rfl (hG.2 123 25 rfl) (sm_in (sm_in (And.intro (hG.1 123 (Nat.le_of_ble_eq_true rfl)) (sm_gfr rfl (hG.2 123 28 rfl) (sm_in (sm_in (And.intro (hG.1 123 (Nat.le_of_ble_eq_true rfl)) (sm_in (Exists.intro 400 (And.intro (hG.1 137 (Nat.le_of_ble_eq_true rfl)) (And.intro e2 (sm_in (sm_in (And.intro (hG.1 123 (Nat.le_of_ble_eq_true rfl)) ((have e4 := k3t.1; have k4 := k3t.2; sm_in (Exists.intro 400 (And.intro (hG.1 135 (Nat.le_of_ble_eq_true rfl)) (And.intro e4 (sm_in (sm_in (sm_in (And.intro (hG.1 123 (Nat.le_of_ble_eq_true rfl)) (sm_in (And.intro (fun c5 => have k5t := Eq.mp (if_pos c5) k4; sm_in (And.intro rfl (And.intro rfl k5t))) (fun c5 => have k5f := Eq.mp (if_neg c5) k4; sm_in (sm_in (And.intro (hG.1 123 (Nat.le_of_ble_eq_true rfl)) (sm_gfr rfl (hG.2 123 27 rfl) (sm_in (sm_in (And.intro (hG.1 123 (Nat.le_of_ble_eq_true rfl)) (sm_in (sm_in ((have e6 := k5f.1; have k6 := k5f.2; sm_in (Exists.intro 400 (And.intro (hG.1 136 (Nat.le_of_ble_eq_true rfl)) (And.intro e6 (sm_in (And.intro (Nat.le_of_ble_eq_true rfl) (sm_calln h1 (Nat.le_of_ble_eq_true rfl) (Nat.le_of_ble_eq_true rfl) k6)))))))))))))))))))))))))))))))))))))))))))))) (fun c3 => have k3f := Eq.mp (if_neg c3) k2; sm_in (sm_in (And.intro (hG.1 123 (Nat.le_of_ble_eq_true rfl)) (sm_gfr rfl (hG.2 123 27 rfl) (sm_in (sm_in (And.intro (hG.1 123 (Nat.le_of_ble_eq_true rfl)) (sm_in (Exists.intro 400 (And.intro (hG.1 136 (Nat.le_of_ble_eq_true rfl)) (And.intro e2 (sm_in (sm_in (And.intro (fun c7 => have k7f := Eq.mp (if_neg c7) k3f; sm_in (sm_in (sm_in (And.intro (hG.1 123 (Nat.le_of_ble_eq_true rfl)) (sm_gfr rfl (hG.2 123 27 rfl) (sm_in (sm_in (And.intro (hG.1 123 (Nat.le_of_ble_eq_true rfl)) (sm_in (Exists.intro 400 (And.intro (hG.1 136 (Nat.le_of_ble_eq_true rfl)) (And.intro e2 (sm_in (sm_in (Exists.intro 11 (And.intro (hG.1 123 (Nat.le_of_ble_eq_true rfl)) (And.intro rfl (sm_calln h1 (Nat.le_of_ble_eq_true rfl) (Nat.le_of_ble_eq_true rfl) k7f)))))))))))))))))) (fun c7 => have k7t := Eq.mp (if_pos c7) k3f; sm_in (sm_in (And.intro (hG.1 123 (Nat.le_of_ble_eq_true rfl)) (sm_gfr rfl (hG.2 123 25 rfl) (sm_in (sm_in (And.intro (hG.1 123 (Nat.le_of_ble_eq_true rfl)) (sm_gfr rfl (hG.2 123 28 rfl) (sm_in (sm_in (And.intro (hG.1 123 (Nat.le_of_ble_eq_true rfl)) (sm_in (Exists.intro 400 (And.intro (hG.1 137 (Nat.le_of_ble_eq_true rfl)) (And.intro e2 (sm_in (sm_in (And.intro (hG.1 123 (Nat.le_of_ble_eq_true rfl)) ((have e8 := k7t.1; have k8 := k7t.2; sm_in (Exists.intro 400 (And.intro (hG.1 135 (Nat.le_of_ble_eq_true rfl)) (And.intro e8 (sm_in (sm_in (sm_in (And.intro (hG.1 123 (Nat.le_of_ble_eq_true rfl)) (sm_in (And.intro (fun c9 => have k9t := Eq.mp (if_pos c9) k8; sm_in (And.intro rfl (And.intro rfl k9t))) (fun c9 => have k9f := Eq.mp (if_neg c9) k8; sm_in (sm_in (And.intro (hG.1 123 (Nat.le_of_ble_eq_true rfl)) (sm_gfr rfl (hG.2 123 27 rfl) (sm_in (sm_in (And.intro (hG.1 123 (Nat.le_of_ble_eq_true rfl)) (sm_in (sm_in ((have e10 := k9f.1; have k10 := k9f.2; sm_in (Exists.intro 400 (And.intro (hG.1 136 (Nat.le_of_ble_eq_true rfl)) (And.intro e10 (sm_in (And.intro (Nat.le_of_ble_eq_true rfl) (sm_calln h1 (Nat.le_of_ble_eq_true rfl) (Nat.le_of_ble_eq_true rfl) k10))))))))))))))))))))))))))))))))))))))))))))))))))))))))))))))))))))))))))))))))))))))
set_option maxRecDepth 100000 in
theorem w_X11_settle_98 {ex : sm_O} {d n : Nat} {y : sm_Y} {I : Nat → Nat → Int32} {L : Nat → Nat → Int64} {R : Nat → Nat → Option Nat} {Q : sm_Q} {w1 : Option Value} {d1 : Nat} (hG : sm_G y R) (h1 : d1 < d) (k : if (I 123 29) ≤ 0 then (Q none (n, y, I, L, R)) else (vp_in ((I 123 29) - 1) 400 ∧ sm_W ex d1 0 0 162 0 [some (.int (I 136 ((I 123 29) - 1).toNatClampNeg))] [] (n, y, I, L, R) (fun r μ1 => sm_W ex d 0 0 163 21 [some (.ref 123), w1] (r.toList ++ []) μ1 Q))) : sm_W ex d 0 0 163 98 [some (.ref 123), w1] [] (n, y, I, L, R) Q := sm_in (sm_in (sm_in (And.intro (hG.1 123 (Nat.le_of_ble_eq_true rfl)) (sm_in (And.intro (fun c1 => have k1t := Eq.mp (if_pos c1) k; sm_in (And.intro rfl (And.intro rfl k1t))) (fun c1 => have k1f := Eq.mp (if_neg c1) k; sm_in (sm_in (And.intro (hG.1 123 (Nat.le_of_ble_eq_true rfl)) (sm_gfr rfl (hG.2 123 27 rfl) (sm_in (sm_in (And.intro (hG.1 123 (Nat.le_of_ble_eq_true rfl)) (sm_in (sm_in ((have e2 := k1f.1; have k2 := k1f.2; sm_in (Exists.intro 400 (And.intro (hG.1 136 (Nat.le_of_ble_eq_true rfl)) (And.intro e2 (sm_in (And.intro (Nat.le_of_ble_eq_true rfl) (sm_calln h1 (Nat.le_of_ble_eq_true rfl) (Nat.le_of_ble_eq_true rfl) k2))))))))))))))))))))))
set_option maxRecDepth 100000 in
theorem w_X11_inner_0 {ex : sm_O} {d n : Nat} {y : sm_Y} {I : Nat → Nat → Int32} {L : Nat → Nat → Int64} {R : Nat → Nat → Option Nat} {Q : sm_Q} {w1 : Option Value} {w2 : Option Value} (k : sm_W ex d 0 0 164 4 [some (.ref 123), some (.int (-1)), some (.int 0)] [] (n, y, I, L, R) Q) : sm_W ex d 0 0 164 0 [some (.ref 123), w1, w2] [] (n, y, I, L, R) Q := sm_in (sm_in (And.intro (Nat.le_of_ble_eq_true rfl) (sm_in (sm_in (And.intro (Nat.le_of_ble_eq_true rfl) (k))))))
set_option maxRecDepth 100000 in
theorem w_X11_inner_4 {ex : sm_O} {d n : Nat} {y : sm_Y} {I : Nat → Nat → Int32} {L : Nat → Nat → Int64} {R : Nat → Nat → Option Nat} {Q : sm_Q} {a1 : Int32} {a2 : Int32} (hG : sm_G y R) (k : if (I 123 29) ≤ a2 then (Q (some (.int a1)) (n, y, I, L, R)) else (vp_in a2 400 ∧ (if (I 136 a2.toNatClampNeg) < 31 then (sm_W ex d 0 0 164 4 [some (.ref 123), some (.int a1), some (.int (a2 + 1))] [] (n, y, I, L, R) Q) else (sm_W ex d 0 0 164 4 [some (.ref 123), some (.int (I 136 a2.toNatClampNeg)), some (.int (a2 + 1))] [] (n, y, I, L, R) Q)))) : sm_W ex d 0 0 164 4 [some (.ref 123), some (.int a1), some (.int a2)] [] (n, y, I, L, R) Q := sm_in (sm_in (sm_in (And.intro (hG.1 123 (Nat.le_of_ble_eq_true rfl)) (sm_in (And.intro (fun c1 => have k1t := Eq.mp (if_pos c1) k; sm_in (sm_in (And.intro rfl k1t))) (fun c1 => have k1f := Eq.mp (if_neg c1) k; sm_in (sm_in (And.intro (hG.1 123 (Nat.le_of_ble_eq_true rfl)) (sm_gfr rfl (hG.2 123 27 rfl) (sm_in ((have e2 := k1f.1; have k2 := k1f.2; sm_in (Exists.intro 400 (And.intro (hG.1 136 (Nat.le_of_ble_eq_true rfl)) (And.intro e2 (sm_in (sm_in (And.intro (fun c3 => have k3t := Eq.mp (if_pos c3) k2; sm_in (sm_in (And.intro (Nat.le_of_ble_eq_true rfl) (sm_in (And.intro (Nat.le_of_ble_eq_true rfl) (sm_in (k3t))))))) (fun c3 => have k3f := Eq.mp (if_neg c3) k2; sm_in (sm_in (And.intro (hG.1 123 (Nat.le_of_ble_eq_true rfl)) (sm_gfr rfl (hG.2 123 27 rfl) (sm_in (sm_in (Exists.intro 400 (And.intro (hG.1 136 (Nat.le_of_ble_eq_true rfl)) (And.intro e2 (sm_in (sm_in (And.intro (Nat.le_of_ble_eq_true rfl) (sm_in (And.intro (Nat.le_of_ble_eq_true rfl) (sm_in (k3f))))))))))))))))))))))))))))))))))
set_option maxRecDepth 100000 in
theorem w_X11_isCompared_0 {ex : sm_O} {d n : Nat} {y : sm_Y} {I : Nat → Nat → Int32} {L : Nat → Nat → Int64} {R : Nat → Nat → Option Nat} {Q : sm_Q} {w1 : Option Value} (hG : sm_G y R) (k : sm_W ex d 0 0 165 7 [some (.ref 123), some (.int ((I 123 29) - 1))] [] (n, y, I, L, R) Q) : sm_W ex d 0 0 165 0 [some (.ref 123), w1] [] (n, y, I, L, R) Q := sm_in (sm_in (And.intro (hG.1 123 (Nat.le_of_ble_eq_true rfl)) (sm_in (sm_in (sm_in (And.intro (Nat.le_of_ble_eq_true rfl) (k)))))))
set_option maxRecDepth 100000 in
theorem w_X11_isCompared_7 {ex : sm_O} {d n : Nat} {y : sm_Y} {I : Nat → Nat → Int32} {L : Nat → Nat → Int64} {R : Nat → Nat → Option Nat} {Q : sm_Q} {a1 : Int32} {d1 : Nat} (hG : sm_G y R) (h1 : d1 < d) (k : if a1 < 0 then (Q (some (.int 0)) (n, y, I, L, R)) else (vp_in a1 400 ∧ sm_W ex d1 0 0 124 0 [some (.long ((I 136 a1.toNatClampNeg).toInt64)), none, some (.long 20), none, some (.long 24), none] [] (n, y, I, L, R) (fun r μ1 => sm_W ex d 0 0 165 27 [some (.ref 123), some (.int a1)] (r.toList ++ []) μ1 Q))) : sm_W ex d 0 0 165 7 [some (.ref 123), some (.int a1)] [] (n, y, I, L, R) Q := sm_in (sm_in (And.intro (fun c1 => have k1t := Eq.mp (if_pos c1) k; sm_in (sm_in (And.intro (fun _ => sm_in (sm_in (And.intro rfl (And.intro (Or.inl rfl) k1t)))) (fun c => absurd c1 c)))) (fun c1 => have k1f := Eq.mp (if_neg c1) k; sm_in (sm_in (And.intro (hG.1 123 (Nat.le_of_ble_eq_true rfl)) (sm_gfr rfl (hG.2 123 27 rfl) (sm_in ((have e2 := k1f.1; have k2 := k1f.2; sm_in (Exists.intro 400 (And.intro (hG.1 136 (Nat.le_of_ble_eq_true rfl)) (And.intro e2 (sm_in (sm_in (sm_in (sm_in (And.intro (Nat.le_of_ble_eq_true rfl) (sm_calln h1 (Nat.le_of_ble_eq_true rfl) (Nat.le_of_ble_eq_true rfl) k2))))))))))))))))))
set_option maxRecDepth 100000 in
theorem w_X11_isCompared_27 {ex : sm_O} {d n : Nat} {y : sm_Y} {I : Nat → Nat → Int32} {L : Nat → Nat → Int64} {R : Nat → Nat → Option Nat} {Q : sm_Q} {a1 : Int32} {s0 : Int32} {d1 : Nat} (hG : sm_G y R) (h1 : d1 < d) (k : if s0 = 0 then (if a1 < 0 then (Q (some (.int 0)) (n, y, I, L, R)) else (vp_in a1 400 ∧ sm_W ex d1 0 0 124 0 [some (.long ((I 136 a1.toNatClampNeg).toInt64)), none, some (.long 25), none, some (.long 27), none] [] (n, y, I, L, R) (fun r μ1 => sm_W ex d 0 0 165 56 [some (.ref 123), some (.int a1)] (r.toList ++ []) μ1 Q))) else (sm_W ex d 0 0 165 7 [some (.ref 123), some (.int (a1 + (-1)))] [] (n, y, I, L, R) Q)) : sm_W ex d 0 0 165 27 [some (.ref 123), some (.int a1)] [.int s0] (n, y, I, L, R) Q := sm_in (And.intro (fun c1 => have k1t := Eq.mp (if_pos c1) k; sm_in (sm_in (And.intro (fun c2 => have k2t := Eq.mp (if_pos c2) k1t; sm_in (sm_in (And.intro rfl (And.intro (Or.inl rfl) k2t)))) (fun c2 => have k2f := Eq.mp (if_neg c2) k1t; sm_in (sm_in (And.intro (hG.1 123 (Nat.le_of_ble_eq_true rfl)) (sm_gfr rfl (hG.2 123 27 rfl) (sm_in ((have e3 := k2f.1; have k3 := k2f.2; sm_in (Exists.intro 400 (And.intro (hG.1 136 (Nat.le_of_ble_eq_true rfl)) (And.intro e3 (sm_in (sm_in (sm_in (sm_in (And.intro (Nat.le_of_ble_eq_true rfl) (sm_calln h1 (Nat.le_of_ble_eq_true rfl) (Nat.le_of_ble_eq_true rfl) k3))))))))))))))))))) (fun c1 => have k1f := Eq.mp (if_neg c1) k; sm_in (And.intro (Nat.le_of_ble_eq_true rfl) (sm_in (k1f)))))
set_option maxRecDepth 100000 in
theorem w_X11_isCompared_56 {ex : sm_O} {d n : Nat} {y : sm_Y} {I : Nat → Nat → Int32} {L : Nat → Nat → Int64} {R : Nat → Nat → Option Nat} {Q : sm_Q} {w0 : Option Value} {w1 : Option Value} {s0 : Int32} (k : if s0 = 0 then (Q (some (.int 0)) (n, y, I, L, R)) else (Q (some (.int 1)) (n, y, I, L, R))) : sm_W ex d 0 0 165 56 [w0, w1] [.int s0] (n, y, I, L, R) Q := sm_in (And.intro (fun c1 => have k1t := Eq.mp (if_pos c1) k; sm_in (sm_in (And.intro rfl (And.intro (Or.inl rfl) k1t)))) (fun c1 => have k1f := Eq.mp (if_neg c1) k; sm_in (sm_in (sm_in (And.intro rfl (And.intro (Or.inr rfl) k1f))))))
-- THE PILE
abbrev Pl : Type := List (Nat × Nat)
def bnd (op : Nat) : Nat := if 31 ≤ op then 0 else if op = 30 then 1 else if op = 29 then 2 else if op = 28 then 3 else if op < 25 then (if op < 22 then 5 else 6) else 4
theorem bnd_le (op : Nat) : bnd op ≤ 6 := by
  unfold bnd
  repeat (split; omega)
  split
  · split <;> omega
  · omega
/-- the pile, its top first -/
def mPl (I : Nat → Nat → Int32) : Pl → Prop
  | [] => True
  | x :: r => I 136 r.length = nI x.1 ∧ I 137 r.length = nI x.2 ∧ mPl I r
theorem mPl_kept {I I' : Nat → Nat → Int32} : ∀ (B : Pl), (∀ j, j < B.length → I' 136 j = I 136 j ∧ I' 137 j = I 137 j) → mPl I B → mPl I' B
  | [], _, _ => trivial
  | x :: r, h, hB => ⟨((h r.length (by simp)).1).trans hB.1, ((h r.length (by simp)).2).trans hB.2.1, mPl_kept r (fun j hj => h j (by simp; omega)) hB.2.2⟩
theorem mPl_app {I : Nat → Nat → Int32} : ∀ (q : Pl) {B : Pl}, mPl I (q ++ B) → mPl I B
  | [], _, h => h
  | _ :: r, _, h => mPl_app r h.2.2
abbrev Cd : Type := Nat → Int32 × Int32
def cdW (cd : Cd) (i : Nat) (v : Int32 × Int32) : Cd := fun k => if k = i then v else cd k
def cdP (cd : Cd) (i : Nat) (v : Int32) : Cd := fun k => if k = i then ((cd k).1, v) else cd k
def popX (x : Nat × Nat) (s : Cd × Nat) : Cd × Nat := if x.1 = 29 ∨ x.1 = 30 then (cdP s.1 x.2 (nI s.2), s.2) else (cdW s.1 s.2 (nI x.1, 0), s.2 + 1)
def clo : Pl → Cd × Nat → Cd × Nat
  | [], s => s
  | x :: q, s => clo q (popX x s)
theorem clo_app : ∀ (q r : Pl) (s : Cd × Nat), clo (q ++ r) s = clo r (clo q s)
  | [], _, _ => rfl
  | x :: q, r, s => clo_app q r (popX x s)
def oX (a : Nat) (x : Nat × Nat) : Prop := x.1 = 29 ∨ x.1 = 30 → a ≤ x.2
theorem popX_low {a : Nat} {x : Nat × Nat} {s : Cd × Nat} (ha : a ≤ s.2) (hx : oX a x) : (∀ k, k < a → (popX x s).1 k = s.1 k) ∧ a ≤ (popX x s).2 ∧ s.2 ≤ (popX x s).2 ∧ (popX x s).2 ≤ s.2 + 1 := by
  unfold popX
  by_cases e : x.1 = 29 ∨ x.1 = 30
  · rw [if_pos e]
    have := hx e
    exact ⟨fun k hk => if_neg (by omega), ha, Nat.le_refl _, by show s.2 ≤ s.2 + 1; omega⟩
  · rw [if_neg e]
    exact ⟨fun k hk => if_neg (by omega), by show a ≤ s.2 + 1; omega, by show s.2 ≤ s.2 + 1; omega, Nat.le_refl _⟩
theorem clo_low {a : Nat} : ∀ (q : Pl) (s : Cd × Nat), a ≤ s.2 → (∀ x ∈ q, oX a x) → (∀ k, k < a → (clo q s).1 k = s.1 k) ∧ s.2 ≤ (clo q s).2 ∧ (clo q s).2 ≤ s.2 + q.length
  | [], s, _, _ => ⟨fun _ _ => rfl, Nat.le_refl _, by show s.2 ≤ s.2 + 0; omega⟩
  | x :: q, s, h, hx => by
    have h1 := popX_low h (hx x List.mem_cons_self)
    have h2 := clo_low q (popX x s) h1.2.1 (fun z hz => hx z (List.mem_cons_of_mem _ hz))
    refine ⟨fun k hk => (h2.1 k hk).trans (h1.1 k hk), ?_, ?_⟩
    · show s.2 ≤ (clo q (popX x s)).2
      omega
    · show (clo q (popX x s)).2 ≤ s.2 + (q.length + 1)
      omega
def vX (x : Nat × Nat) : Prop := 20 ≤ x.1 ∧ x.1 ≤ 32 ∧ x.2 < 400
/-- what the pile and the code touch -/
def mFs (I I' : Nat → Nat → Int32) : Prop := ∀ a j, ¬ (a = 123 ∧ (j = 23 ∨ j = 29)) → a ≠ 134 → a ≠ 135 → I' a j = I a j
theorem m_binds {ex : sm_O} {n : Nat} {y : sm_Y} {I : Nat → Nat → Int32} {L : Nat → Nat → Int64} {R : Nat → Nat → Option Nat} {Q : sm_Q} {d op : Nat} (h : op < 1000) (k : Q (some (.int (nI (bnd op)))) (n, y, I, L, R)) : sm_W ex d 0 0 162 0 [some (.int (nI op))] [] (n, y, I, L, R) Q := by
  refine w_X11_binds_0 ?_
  have f31 : nI op < 31 ↔ op < 31 := nI_ltI (b := 31) (by omega) (by decide)
  have f30 : nI op = 30 ↔ op = 30 := nI_eq (b := 30) (by omega) (by decide)
  have f29 : nI op = 29 ↔ op = 29 := nI_eq (b := 29) (by omega) (by decide)
  have f28 : nI op = 28 ↔ op = 28 := nI_eq (b := 28) (by omega) (by decide)
  have f25 : nI op < 25 ↔ op < 25 := nI_ltI (b := 25) (by omega) (by decide)
  have f22 : nI op < 22 ↔ op < 22 := nI_ltI (b := 22) (by omega) (by decide)
  simp only [f31, f30, f29, f28, f25, f22]
  unfold bnd at k
  by_cases h31 : op < 31
  · rw [if_pos h31]
    rw [if_neg (by omega)] at k
    by_cases h30 : op = 30
    · rw [if_pos h30] at k ⊢; exact k
    · rw [if_neg h30] at k ⊢
      by_cases h29 : op = 29
      · rw [if_pos h29] at k ⊢; exact k
      · rw [if_neg h29] at k ⊢
        by_cases h28 : op = 28
        · rw [if_pos h28] at k ⊢; exact k
        · rw [if_neg h28] at k ⊢
          by_cases h25 : op < 25
          · rw [if_pos h25] at k ⊢
            by_cases h22 : op < 22
            · rw [if_pos h22] at k ⊢; exact k
            · rw [if_neg h22] at k ⊢; exact k
          · rw [if_neg h25] at k ⊢; exact k
  · rw [if_neg h31]
    rw [if_pos (by omega)] at k
    exact k
theorem m_emit {ex : sm_O} {n : Nat} {y : sm_Y} {I : Nat → Nat → Int32} {L : Nat → Nat → Int64} {R : Nat → Nat → Option Nat} {Q : sm_Q} {d len : Nat} {a b : Int32} (hG : sm_G y R) (hl : I 123 23 = nI len) (h : len < 400) (k : ∀ (I' : Nat → Nat → Int32), (∀ c j, ¬ (c = 123 ∧ j = 23) → c ≠ 134 → c ≠ 135 → I' c j = I c j) → I' 123 23 = nI (len + 1) → cdO I' = cdW (cdO I) len (a, b) → Q none (n, y, I', L, R)) : sm_W ex d 0 0 160 0 [some (.ref 123), some (.int a), some (.int b)] [] (n, y, I, L, R) Q := by
  refine w_X11_emit_0 hG ?_
  rw [hl, nI_clamp (by omega), sm_n1]
  refine ⟨vp_in_nI (by omega) (by decide), k _ (fun c j q1 q2 q3 => ?_) (sm_st_s _ _ _ _) ?_⟩
  · rw [sm_st_or _ _ (by omega), sm_st_o _ _ q3, sm_st_o _ _ q2]
  · funext i
    have h134 : sm_st (sm_st (sm_st I 134 len a) 135 len b) 123 23 (nI (len + 1)) 134 i = sm_st I 134 len a 134 i := by rw [sm_st_o _ _ (by decide), sm_st_o _ _ (by decide)]
    have h135 : sm_st (sm_st (sm_st I 134 len a) 135 len b) 123 23 (nI (len + 1)) 135 i = sm_st (sm_st I 134 len a) 135 len b 135 i := by rw [sm_st_o _ _ (by decide)]
    show (sm_st (sm_st (sm_st I 134 len a) 135 len b) 123 23 (nI (len + 1)) 134 i, sm_st (sm_st (sm_st I 134 len a) 135 len b) 123 23 (nI (len + 1)) 135 i) = (if i = len then (a, b) else (I 134 i, I 135 i))
    rw [h134, h135]
    by_cases e : i = len
    · rw [if_pos e, e, sm_st_s, sm_st_s]
    · rw [if_neg e, sm_st_j _ _ e, sm_st_j _ _ e, sm_st_o _ _ (by decide)]
theorem m_push {ex : sm_O} {n : Nat} {y : sm_Y} {I : Nat → Nat → Int32} {L : Nat → Nat → Int64} {R : Nat → Nat → Option Nat} {Q : sm_Q} {d op at_ : Nat} {B : Pl} (hG : sm_G y R) (hp : I 123 29 = nI B.length) (hB : mPl I B) (h : B.length < 400) (k : ∀ (I' : Nat → Nat → Int32), (∀ c j, ¬ (c = 123 ∧ j = 29) → c ≠ 136 → c ≠ 137 → I' c j = I c j) → I' 123 29 = nI ((op, at_) :: B).length → mPl I' ((op, at_) :: B) → Q none (n, y, I', L, R)) : sm_W ex d 0 0 161 0 [some (.ref 123), some (.int (nI op)), some (.int (nI at_))] [] (n, y, I, L, R) Q := by
  refine w_X11_push_0 hG ?_
  rw [hp, nI_clamp (by omega), sm_n1]
  refine ⟨vp_in_nI (by omega) (by decide), k _ (fun c j q1 q2 q3 => ?_) (sm_st_s _ _ _ _) ⟨?_, ?_, mPl_kept B (fun j hj => ⟨?_, ?_⟩) hB⟩⟩
  · rw [sm_st_or _ _ (by omega), sm_st_o _ _ q3, sm_st_o _ _ q2]
  · rw [sm_st_o _ _ (by decide), sm_st_o _ _ (by decide), sm_st_s]
  · rw [sm_st_o _ _ (by decide), sm_st_s]
  · rw [sm_st_o _ _ (by decide), sm_st_o _ _ (by decide), sm_st_j _ _ (by omega)]
  · rw [sm_st_o _ _ (by decide), sm_st_j _ _ (by omega), sm_st_o _ _ (by decide)]
def tB (l : Nat) (B : Pl) : Prop := ∀ x r, B = x :: r → bnd x.1 < l
theorem tB.mono {l l' : Nat} {B : Pl} (h : tB l B) (hl : l ≤ l') : tB l' B := fun x r e => Nat.lt_of_lt_of_le (h x r e) hl
theorem tB7 (B : Pl) : tB 7 B := fun x _ _ => by have := bnd_le x.1; omega
theorem tB_cons {l : Nat} {x : Nat × Nat} {r : Pl} (h : bnd x.1 < l) : tB l (x :: r) := fun z s e => by cases e; exact h
set_option maxHeartbeats 1000000 in
theorem m_settleG {ex : sm_O} {d n lv : Nat} {y : sm_Y} {L : Nat → Nat → Int64} {R : Nat → Nat → Option Nat} {Q : sm_Q} {B : Pl} (hd : 1 ≤ d) (hG : sm_G y R) (hlv : lv ≤ 6) (hB : tB lv B) :
    ∀ (q : Pl) (I : Nat → Nat → Int32) (len : Nat), (∀ x ∈ q, lv ≤ bnd x.1) → (∀ x ∈ q ++ B, vX x) → I 123 23 = nI len → I 123 29 = nI (q ++ B).length → mPl I (q ++ B) → len + (q ++ B).length ≤ 400 →
    (∀ (I' : Nat → Nat → Int32), mFs I I' → cdO I' = (clo q (cdO I, len)).1 → I' 123 23 = nI (clo q (cdO I, len)).2 → I' 123 29 = nI B.length → mPl I' B → Q none (n, y, I', L, R)) →
    (if I 123 29 ≤ 0 then Q none (n, y, I, L, R) else vp_in (I 123 29 - 1) 400 ∧ sm_W ex 0 0 0 162 0 [some (.int (I 136 (I 123 29 - 1).toNatClampNeg))] [] (n, y, I, L, R) (fun r μ1 => sm_W ex d 0 0 163 21 [some (.ref 123), some (.int (nI lv))] (r.toList ++ []) μ1 Q)) := by
  intro q
  induction q with
  | nil =>
    intro I len hq hv h23 h29 hp hb k
    have fin : Q none (n, y, I, L, R) := k I (fun _ _ _ _ _ => rfl) rfl h23 h29 hp
    cases B with
    | nil =>
      have h29 : I 123 29 = nI 0 := h29
      rw [h29, if_pos (show nI 0 ≤ 0 by decide)]
      exact fin
    | cons x r =>
      have hx := hv x (by simp)
      have hl : (([] : Pl) ++ x :: r).length = r.length + 1 := rfl
      rw [hl] at h29 hb
      rw [h29, if_neg (show ¬ nI (r.length + 1) ≤ 0 from fun z => by have := (nI_leI (b := 0) (by omega) (by decide)).mp z; omega), sm_sub1, pk_m1, nI_clamp (by omega)]
      refine ⟨vp_in_nI (by omega) (by decide), ?_⟩
      have h136 : I 136 r.length = nI x.1 := hp.1
      rw [h136]
      refine m_binds (by have := hx.2.1; omega) ?_
      refine w_X11_settle_21 (d1 := 0) hG (by omega) ?_
      have := hB x r rfl
      rw [if_pos ((nI_ltI (by omega) (by omega)).mpr this)]
      exact fin
  | cons x q ih =>
    intro I len hq hv h23 h29 hp hb k
    have hx := hv x (by simp)
    have hbx := hq x List.mem_cons_self
    have hb6 := bnd_le x.1
    have hx1 := hx.1
    have hx2 := hx.2.1
    have hx3 := hx.2.2
    have hl : ((x :: q) ++ B).length = (q ++ B).length + 1 := rfl
    rw [hl] at h29 hb
    generalize hm : (q ++ B).length = m at *
    have h136 : I 136 m = nI x.1 := by have := hp.1; rw [← hm]; exact this
    have h137 : I 137 m = nI x.2 := by have := hp.2.1; rw [← hm]; exact this
    rw [h29, if_neg (show ¬ nI (m + 1) ≤ 0 from fun z => by have := (nI_leI (b := 0) (by omega) (by decide)).mp z; omega), sm_sub1, pk_m1, nI_clamp (by omega), h136]
    refine ⟨vp_in_nI (by omega) (by decide), ?_⟩
    refine m_binds (by omega) ?_
    refine w_X11_settle_21 (d1 := 0) hG (by omega) ?_
    rw [if_neg (show ¬ nI (bnd x.1) < nI lv from fun z => by have := (nI_ltI (by omega) (by omega)).mp z; omega), h29, sm_sub1, pk_m1, nI_clamp (by omega), h136, h137, nI_clamp (by omega)]
    refine ⟨vp_in_nI (by omega) (by decide), ?_⟩
    have f29 : nI x.1 = 29 ↔ x.1 = 29 := nI_eq (b := 29) (by omega) (by decide)
    have f30 : nI x.1 = 30 ↔ x.1 = 30 := nI_eq (b := 30) (by omega) (by decide)
    simp only [f29, f30]
    -- and, or: the skip is closed
    have skip : (x.1 = 29 ∨ x.1 = 30) → (vp_in (nI x.2) 400 ∧ (if nI m ≤ 0 then Q none (n, y, sm_st (sm_st I 123 29 (nI m)) 135 x.2 (I 123 23), L, R) else (vp_in (nI m - 1) 400 ∧ sm_W ex 0 0 0 162 0 [some (.int (I 136 (nI m - 1).toNatClampNeg))] [] (n, y, sm_st (sm_st I 123 29 (nI m)) 135 x.2 (I 123 23), L, R) (fun r μ1 => sm_W ex d 0 0 163 21 [some (.ref 123), some (.int (nI lv))] (r.toList ++ []) μ1 Q)))) := by
      intro e
      refine ⟨vp_in_nI (by omega) (by decide), ?_⟩
      have hc : cdO (sm_st (sm_st I 123 29 (nI m)) 135 x.2 (I 123 23)) = cdP (cdO I) x.2 (nI len) := by
        funext i
        unfold cdO cdP
        rw [sm_st_o _ _ (by decide), sm_st_o _ _ (by decide), h23]
        by_cases ei : i = x.2
        · rw [if_pos ei, ei, sm_st_s]
        · rw [if_neg ei, sm_st_j _ _ ei, sm_st_o _ _ (by decide)]
      have e136 : ∀ j, sm_st (sm_st I 123 29 (nI m)) 135 x.2 (I 123 23) 136 j = I 136 j := fun j => by rw [sm_st_o _ _ (by decide), sm_st_o _ _ (by decide)]
      have e137 : ∀ j, sm_st (sm_st I 123 29 (nI m)) 135 x.2 (I 123 23) 137 j = I 137 j := fun j => by rw [sm_st_o _ _ (by decide), sm_st_o _ _ (by decide)]
      have e23 : sm_st (sm_st I 123 29 (nI m)) 135 x.2 (I 123 23) 123 23 = nI len := by rw [sm_st_o _ _ (by decide), sm_st_j _ _ (by decide)]; exact h23
      have e29 : sm_st (sm_st I 123 29 (nI m)) 135 x.2 (I 123 23) 123 29 = nI m := by rw [sm_st_o _ _ (by decide), sm_st_s]
      have ef : mFs I (sm_st (sm_st I 123 29 (nI m)) 135 x.2 (I 123 23)) := fun a j q1 q2 q3 => by rw [sm_st_o _ _ q3, sm_st_or _ _ (by omega)]
      rw [← e136]
      generalize sm_st (sm_st I 123 29 (nI m)) 135 x.2 (I 123 23) = J at *
      have ep : popX x (cdO I, len) = (cdO J, len) := by
        unfold popX
        rw [if_pos e, hc]
      have ih := (ih J len (fun z hz => hq z (List.mem_cons_of_mem _ hz)) (fun z hz => hv z (List.mem_cons_of_mem _ hz)) e23 e29 (mPl_kept _ (fun j _ => ⟨e136 j, e137 j⟩) hp.2.2) (by omega) (fun I' g1 g2 g3 g4 g5 => k I' (fun a j q1 q2 q3 => (g1 a j q1 q2 q3).trans (ef a j q1 q2 q3)) (by rw [g2]; show _ = (clo q (popX x (cdO I, len))).1; rw [ep]) (by rw [g3]; show _ = nI (clo q (popX x (cdO I, len))).2; rw [ep]) g4 g5))
      rw [e29] at ih
      exact ih
    by_cases h9 : x.1 = 29
    · rw [if_pos h9]
      exact skip (Or.inl h9)
    · rw [if_neg h9]
      by_cases h0 : x.1 = 30
      · rw [if_pos h0]
        exact skip (Or.inr h0)
      · rw [if_neg h0]
        have e23 : sm_st I 123 29 (nI m) 123 23 = nI len := by rw [sm_st_j _ _ (by decide)]; exact h23
        have ecd : cdO (sm_st I 123 29 (nI m)) = cdO I := by
          funext i
          unfold cdO
          rw [sm_st_o _ _ (by decide), sm_st_o _ _ (by decide)]
        refine m_emit hG e23 (by omega) ?_
        intro J g1 g2 g3
        have ep : popX x (cdO I, len) = (cdO J, len + 1) := by
          unfold popX
          rw [if_neg (by omega), g3, ecd]
        refine w_X11_settle_98 (d1 := 0) hG (by omega) ?_
        exact ih J (len + 1) (fun z hz => hq z (List.mem_cons_of_mem _ hz)) (fun z hz => hv z (List.mem_cons_of_mem _ hz)) g2 (by rw [g1 123 29 (by omega) (by decide) (by decide), sm_st_s]) (mPl_kept _ (fun j _ => ⟨by rw [g1 136 j (by omega) (by decide) (by decide), sm_st_o _ _ (by decide)], by rw [g1 137 j (by omega) (by decide) (by decide), sm_st_o _ _ (by decide)]⟩) hp.2.2) (by omega) (fun I' f1 f2 f3 f4 f5 => k I' (fun a j q1 q2 q3 => by rw [f1 a j q1 q2 q3, g1 a j (by omega) q2 q3, sm_st_or _ _ (by omega)]) (by rw [f2]; show _ = (clo q (popX x (cdO I, len))).1; rw [ep]) (by rw [f3]; show _ = nI (clo q (popX x (cdO I, len))).2; rw [ep]) f4 f5)
theorem m_settle {ex : sm_O} {n : Nat} {y : sm_Y} {I : Nat → Nat → Int32} {L : Nat → Nat → Int64} {R : Nat → Nat → Option Nat} {Q : sm_Q} {d lv len : Nat} {q B : Pl} (hd : 1 ≤ d) (hG : sm_G y R) (hlv : lv ≤ 6) (hB : tB lv B) (hq : ∀ x ∈ q, lv ≤ bnd x.1) (hv : ∀ x ∈ q ++ B, vX x) (h23 : I 123 23 = nI len) (h29 : I 123 29 = nI (q ++ B).length) (hp : mPl I (q ++ B)) (hl : len + (q ++ B).length ≤ 400)
    (k : ∀ (I' : Nat → Nat → Int32), mFs I I' → cdO I' = (clo q (cdO I, len)).1 → I' 123 23 = nI (clo q (cdO I, len)).2 → I' 123 29 = nI B.length → mPl I' B → Q none (n, y, I', L, R)) : sm_W ex d 0 0 163 0 [some (.ref 123), some (.int (nI lv))] [] (n, y, I, L, R) Q := w_X11_settle_0 (d1 := 0) hG (by omega) (m_settleG hd hG hlv hB q I len hq hv h23 h29 hp hl k)
/-- the innermost bracket -/
def inn : Pl → Int32
  | [] => -1
  | x :: r => if 31 ≤ x.1 then nI x.1 else inn r
theorem inn_app : ∀ (q B : Pl), (∀ x ∈ q, 1 ≤ bnd x.1) → inn (q ++ B) = inn B
  | [], _, _ => rfl
  | x :: q, B, h => by
    have hx := h x List.mem_cons_self
    show (if 31 ≤ x.1 then nI x.1 else inn (q ++ B)) = inn B
    rw [if_neg (fun z => by unfold bnd at hx; rw [if_pos z] at hx; omega)]
    exact inn_app q B (fun z hz => h z (List.mem_cons_of_mem _ hz))
theorem mPl_get {I : Nat → Nat → Int32} : ∀ (a : Pl) (x : Nat × Nat) (b : Pl), mPl I (a ++ x :: b) → I 136 b.length = nI x.1
  | [], _, _, h => h.1
  | _ :: a, x, b, h => mPl_get a x b h.2.2
theorem m_inner {ex : sm_O} {n : Nat} {y : sm_Y} {I : Nat → Nat → Int32} {L : Nat → Nat → Int64} {R : Nat → Nat → Option Nat} {Q : sm_Q} {d : Nat} {B : Pl} {w1 w2 : Option Value} (hG : sm_G y R) (h29 : I 123 29 = nI B.length) (hp : mPl I B) (hl : B.length ≤ 400) (hv : ∀ x ∈ B, vX x) (k : Q (some (.int (inn B))) (n, y, I, L, R)) : sm_W ex d 0 0 164 0 [some (.ref 123), w1, w2] [] (n, y, I, L, R) Q := by
  have lp : ∀ (a b : Pl), B = a ++ b → sm_W ex d 0 0 164 4 [some (.ref 123), some (.int (inn b)), some (.int (nI b.length))] [] (n, y, I, L, R) Q := by
    intro a
    have key : ∀ (m : Nat) (a b : Pl), a.length = m → B = a ++ b → sm_W ex d 0 0 164 4 [some (.ref 123), some (.int (inn b)), some (.int (nI b.length))] [] (n, y, I, L, R) Q := by
      intro m
      induction m with
      | zero =>
        intro a b ha hb
        have : a = [] := List.length_eq_zero_iff.mp ha
        subst this
        refine w_X11_inner_4 hG ?_
        have hb : B = b := hb
        rw [h29, hb, if_pos (Int32.le_refl _), ← hb]
        exact k
      | succ m ih =>
        intro a b ha hb
        have hne : a ≠ [] := fun z => by rw [z] at ha; cases ha
        have hda : a = a.dropLast ++ [a.getLast hne] := (List.dropLast_concat_getLast hne).symm
        generalize a.getLast hne = x at hda
        generalize hc : a.dropLast = c at hda
        have hlen : c.length = m := by rw [hda] at ha; simp at ha; exact ha
        have hB2 : B = c ++ x :: b := by rw [hb, hda]; simp
        have hx := mPl_get c x b (hB2 ▸ hp)
        have hvx := hv x (by rw [hB2]; simp)
        have hv2 := hvx.2.1
        have hbl : b.length < B.length := by rw [hB2]; simp; omega
        refine w_X11_inner_4 hG ?_
        rw [h29, if_neg (by rw [nI_leI (by omega) (by omega)]; omega), nI_clamp (by omega), hx, sm_n1]
        refine ⟨vp_in_nI (by omega) (by decide), ?_⟩
        have ih := ih c (x :: b) hlen hB2
        have f31 : nI x.1 < 31 ↔ x.1 < 31 := nI_ltI (b := 31) (by omega) (by decide)
        simp only [f31]
        have ei : inn (x :: b) = if 31 ≤ x.1 then nI x.1 else inn b := rfl
        rw [ei] at ih
        by_cases h : x.1 < 31
        · rw [if_neg (by omega)] at ih
          rw [if_pos h]
          exact ih
        · rw [if_pos (by omega)] at ih
          rw [if_neg h]
          exact ih
    intro b
    exact key a.length a b rfl
  refine w_X11_inner_0 ?_
  exact lp B [] (List.append_nil B).symm
def cmpd : Pl → Bool
  | [] => false
  | x :: r => if 20 ≤ x.1 ∧ x.1 ≤ 24 then cmpd r else decide (25 ≤ x.1 ∧ x.1 ≤ 27)
theorem m_in3 {ex : sm_O} {n : Nat} {y : sm_Y} {I : Nat → Nat → Int32} {L : Nat → Nat → Int64} {R : Nat → Nat → Option Nat} {Q : sm_Q} {d a lo hi : Nat} (ha : a < 1000) (hlo : lo < 1000) (hhi : hi < 1000) (k : Q (some (.int (if lo ≤ a ∧ a ≤ hi then 1 else 0))) (n, y, I, L, R)) : sm_W ex d 0 0 124 0 [some (.long (nI a).toInt64), none, some (.long (lN lo)), none, some (.long (lN hi)), none] [] (n, y, I, L, R) Q := by
  refine w_X11_in ?_
  have l : ∀ {u v : Nat}, u < 1000 → v < 1000 → (lg_cmp (lN u) (lN v) < 0 ↔ u < v) := fun h1 h2 => by rw [sm_cmp_lt, Int64.lt_iff_toInt_lt, pk_lT (by omega), pk_lT (by omega)]; omega
  have g : ∀ {u v : Nat}, u < 1000 → v < 1000 → (0 < lg_cmp (lN u) (lN v) ↔ v < u) := fun h1 h2 => by rw [sm_cmp_gt, Int64.lt_iff_toInt_lt, pk_lT (by omega), pk_lT (by omega)]; omega
  rw [nI_l (by omega)]
  simp only [l ha hlo, g ha hhi]
  by_cases h1 : a < lo
  · rw [if_pos h1]; rw [if_neg (by omega)] at k; exact k
  · rw [if_neg h1]
    by_cases h2 : hi < a
    · rw [if_pos h2]; rw [if_neg (by omega)] at k; exact k
    · rw [if_neg h2]; rw [if_pos (by omega)] at k; exact k
theorem m_compared {ex : sm_O} {n : Nat} {y : sm_Y} {I : Nat → Nat → Int32} {L : Nat → Nat → Int64} {R : Nat → Nat → Option Nat} {Q : sm_Q} {d : Nat} {w1 : Option Value} (hd : 1 ≤ d) (hG : sm_G y R) (B : Pl) (h29 : I 123 29 = nI B.length) (hp : mPl I B) (hl : B.length ≤ 400) (hv : ∀ x ∈ B, vX x) (k : Q (some (.int (if cmpd B = true then 1 else 0))) (n, y, I, L, R)) : sm_W ex d 0 0 165 0 [some (.ref 123), w1] [] (n, y, I, L, R) Q := by
  have lp : ∀ (b : Pl), mPl I b → b.length ≤ 400 → (∀ x ∈ b, vX x) → cmpd b = cmpd B → sm_W ex d 0 0 165 7 [some (.ref 123), some (.int (nI b.length + (-1)))] [] (n, y, I, L, R) Q := by
    intro b
    induction b with
    | nil =>
      intro _ _ _ e
      refine w_X11_isCompared_7 (d1 := 0) hG (by omega) ?_
      rw [← e] at k
      rw [if_pos (by decide)]
      exact k
    | cons x b ih =>
      intro hp hl hv e
      have hl : b.length + 1 ≤ 400 := hl
      have hx := hv x List.mem_cons_self
      have hx2 := hx.2.1
      refine w_X11_isCompared_7 (d1 := 0) hG (by omega) ?_
      have hm : nI (x :: b).length + (-1) = nI b.length := pk_m1 b.length
      rw [hm, if_neg (nI_pos (by omega)), nI_clamp (by omega), hp.1]
      refine ⟨vp_in_nI (by omega) (by decide), ?_⟩
      refine m_in3 (lo := 20) (hi := 24) (by omega) (by decide) (by decide) ?_
      refine w_X11_isCompared_27 (d1 := 0) hG (by omega) ?_
      have e : (if 20 ≤ x.1 ∧ x.1 ≤ 24 then cmpd b else decide (25 ≤ x.1 ∧ x.1 ≤ 27)) = cmpd B := e
      by_cases h : 20 ≤ x.1 ∧ x.1 ≤ 24
      · rw [if_pos h] at e ⊢
        rw [if_neg (by decide)]
        exact ih hp.2.2 (by omega) (fun z hz => hv z (List.mem_cons_of_mem _ hz)) e
      · rw [if_neg h] at e ⊢
        rw [if_pos rfl, if_neg (nI_pos (by omega)), nI_clamp (by omega), hp.1]
        refine ⟨vp_in_nI (by omega) (by decide), ?_⟩
        refine m_in3 (lo := 25) (hi := 27) (by omega) (by decide) (by decide) ?_
        refine w_X11_isCompared_56 ?_
        rw [← e] at k
        by_cases h2 : 25 ≤ x.1 ∧ x.1 ≤ 27
        · rw [if_pos h2, if_neg (by decide)]
          rw [decide_eq_true h2] at k
          exact k
        · rw [if_neg h2, if_pos rfl]
          rw [decide_eq_false h2] at k
          exact k
  refine w_X11_isCompared_0 hG ?_
  rw [h29, sm_sub1]
  exact lp B hp hl hv rfl

