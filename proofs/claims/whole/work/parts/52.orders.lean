set_option maxRecDepth 100000 in
theorem w_X1_setWords_0 {ex : sm_O} {d n : Nat} {y : sm_Y} {I : Nat → Nat → Int32} {L : Nat → Nat → Int64} {R : Nat → Nat → Option Nat} {Q : sm_Q} {w1 : Option Value} {w2 : Option Value} {d1 : Nat} (hG : sm_G y R) (h1 : d1 < d) (k : sm_W ex d1 0 0 66 0 [some (.ref 1)] [] (n, y, sm_st (sm_st (sm_st (sm_st (sm_st I 56 0 (I 5 0)) 56 1 (I 54 7)) 56 2 (I 54 8)) 56 3 (I 1 6)) 56 4 (I 1 7), L, R) (fun r μ1 => sm_W ex d 0 0 9 63 [some (.ref 54), some (.ref 56), w2] (r.toList ++ [.int 5, .ref 56]) μ1 Q)) : sm_W ex d 0 0 9 0 [some (.ref 54), w1, w2] [] (n, y, I, L, R) Q := sm_in (sm_in (And.intro (hG.1 54 (Nat.le_of_ble_eq_true rfl)) (sm_gfr rfl (hG.2 54 2 rfl) (sm_in (And.intro (hG.1 55 (Nat.le_of_ble_eq_true rfl)) (sm_gfr rfl (hG.2 55 0 rfl) (sm_in (And.intro (Nat.le_of_ble_eq_true rfl) (sm_in (sm_in (sm_in (sm_in (And.intro (hG.1 54 (Nat.le_of_ble_eq_true rfl)) (sm_gfr rfl (hG.2 54 0 rfl) (sm_in (And.intro (hG.1 1 (Nat.le_of_ble_eq_true rfl)) (sm_gfr rfl (hG.2 1 3 rfl) (sm_in (sm_in (Exists.intro 4 (And.intro (hG.1 5 (Nat.le_of_ble_eq_true rfl)) (And.intro (sm_lin (by decide)) (sm_in (Exists.intro 13 (And.intro (hG.1 56 (Nat.le_of_ble_eq_true rfl)) (And.intro (sm_lin (by decide)) (sm_in (sm_in (sm_in (sm_in (And.intro (hG.1 54 (Nat.le_of_ble_eq_true rfl)) (sm_in (Exists.intro 13 (And.intro (hG.1 56 (Nat.le_of_ble_eq_true rfl)) (And.intro (sm_lin (by decide)) (sm_in (sm_in (sm_in (sm_in (And.intro (hG.1 54 (Nat.le_of_ble_eq_true rfl)) (sm_in (Exists.intro 13 (And.intro (hG.1 56 (Nat.le_of_ble_eq_true rfl)) (And.intro (sm_lin (by decide)) (sm_in (sm_in (sm_in (sm_in (And.intro (hG.1 54 (Nat.le_of_ble_eq_true rfl)) (sm_gfr rfl (hG.2 54 0 rfl) (sm_in (And.intro (hG.1 1 (Nat.le_of_ble_eq_true rfl)) (sm_in (Exists.intro 13 (And.intro (hG.1 56 (Nat.le_of_ble_eq_true rfl)) (And.intro (sm_lin (by decide)) (sm_in (sm_in (sm_in (sm_in (And.intro (hG.1 54 (Nat.le_of_ble_eq_true rfl)) (sm_gfr rfl (hG.2 54 0 rfl) (sm_in (And.intro (hG.1 1 (Nat.le_of_ble_eq_true rfl)) (sm_in (Exists.intro 13 (And.intro (hG.1 56 (Nat.le_of_ble_eq_true rfl)) (And.intro (sm_lin (by decide)) (sm_in (sm_in (sm_in (sm_in (And.intro (hG.1 54 (Nat.le_of_ble_eq_true rfl)) (sm_gfr rfl (hG.2 54 0 rfl) (sm_in (Exists.intro 9 (And.intro (hG.1 1 (Nat.le_of_ble_eq_true rfl)) (And.intro rfl (sm_calln h1 (Nat.le_of_ble_eq_true rfl) (Nat.le_of_ble_eq_true rfl) k)))))))))))))))))))))))))))))))))))))))))))))))))))))))))))))))))))))))))))))))
set_option maxRecDepth 100000 in
theorem w_X1_setWords_63 {ex : sm_O} {d n : Nat} {y : sm_Y} {I : Nat → Nat → Int32} {L : Nat → Nat → Int64} {R : Nat → Nat → Option Nat} {Q : sm_Q} {w0 : Option Value} {w2 : Option Value} {s0 : Int32} {s1 : Int32} (hG : sm_G y R) (k : vp_in s1 13 ∧ sm_W ex d 0 0 9 66 [w0, some (.ref 56), some (.int 0)] [] (n, y, sm_st I 56 s1.toNatClampNeg s0, L, R) Q) : sm_W ex d 0 0 9 63 [w0, some (.ref 56), w2] [.int s0, .int s1, .ref 56] (n, y, I, L, R) Q := (have e1 := k.1; have k1 := k.2; sm_in (Exists.intro 13 (And.intro (hG.1 56 (Nat.le_of_ble_eq_true rfl)) (And.intro e1 (sm_in (sm_in (And.intro (Nat.le_of_ble_eq_true rfl) (k1))))))))
set_option maxRecDepth 100000 in
theorem w_X1_setWords_66 {ex : sm_O} {d n : Nat} {y : sm_Y} {I : Nat → Nat → Int32} {L : Nat → Nat → Int64} {R : Nat → Nat → Option Nat} {Q : sm_Q} {a2 : Int32} (hG : sm_G y R) (k : if 7 ≤ a2 then (Q none (n, y, I, L, R)) else (if (I 1 4) ≤ a2 then (vp_in (6 + a2) 13 ∧ sm_W ex d 0 0 9 66 [some (.ref 54), some (.ref 56), some (.int (a2 + 1))] [] (n, y, sm_st I 56 ((6 + a2).toNatClampNeg) (-1), L, R) Q) else (vp_in a2 7 ∧ vp_in (6 + a2) 13 ∧ sm_W ex d 0 0 9 66 [some (.ref 54), some (.ref 56), some (.int (a2 + 1))] [] (n, y, sm_st I 56 ((6 + a2).toNatClampNeg) (I 4 a2.toNatClampNeg), L, R) Q))) : sm_W ex d 0 0 9 66 [some (.ref 54), some (.ref 56), some (.int a2)] [] (n, y, I, L, R) Q := sm_in (sm_in (sm_in (And.intro (fun c1 => have k1t := Eq.mp (if_pos c1) k; sm_in (And.intro rfl (And.intro rfl k1t))) (fun c1 => have k1f := Eq.mp (if_neg c1) k; sm_in (sm_in (sm_in (sm_in (sm_in (sm_in (sm_in (And.intro (hG.1 54 (Nat.le_of_ble_eq_true rfl)) (sm_gfr rfl (hG.2 54 0 rfl) (sm_in (And.intro (hG.1 1 (Nat.le_of_ble_eq_true rfl)) (sm_in (And.intro (fun c2 => have k2t := Eq.mp (if_pos c2) k1f; sm_in ((have e3 := k2t.1; have k3 := k2t.2; sm_in (Exists.intro 13 (And.intro (hG.1 56 (Nat.le_of_ble_eq_true rfl)) (And.intro e3 (sm_in (And.intro (Nat.le_of_ble_eq_true rfl) (sm_in (k3)))))))))) (fun c2 => have k2f := Eq.mp (if_neg c2) k1f; sm_in (sm_in (And.intro (hG.1 54 (Nat.le_of_ble_eq_true rfl)) (sm_gfr rfl (hG.2 54 0 rfl) (sm_in (And.intro (hG.1 1 (Nat.le_of_ble_eq_true rfl)) (sm_gfr rfl (hG.2 1 2 rfl) (sm_in ((have e4 := k2f.1; have k4 := k2f.2; sm_in (Exists.intro 7 (And.intro (hG.1 4 (Nat.le_of_ble_eq_true rfl)) (And.intro e4 (sm_in ((have e5 := k4.1; have k5 := k4.2; sm_in (Exists.intro 13 (And.intro (hG.1 56 (Nat.le_of_ble_eq_true rfl)) (And.intro e5 (sm_in (And.intro (Nat.le_of_ble_eq_true rfl) (sm_in (k5)))))))))))))))))))))))))))))))))))))))
set_option maxRecDepth 100000 in
theorem w_X1_runOnce_0 {ex : sm_O} {d n : Nat} {y : sm_Y} {I : Nat → Nat → Int32} {L : Nat → Nat → Int64} {R : Nat → Nat → Option Nat} {Q : sm_Q} {w1 : Option Value} {w2 : Option Value} {d1 : Nat} (hG : sm_G y R) (h1 : d1 < d) (k : sm_W ex d1 0 0 9 0 [some (.ref 54), none, none] [] (n, y, I, L, R) (fun r μ1 => sm_W ex d 0 0 8 4 [some (.ref 54), w1, w2] (r.toList ++ []) μ1 Q)) : sm_W ex d 0 0 8 0 [some (.ref 54), w1, w2] [] (n, y, I, L, R) Q := sm_in (sm_in (Exists.intro 1 (And.intro (hG.1 54 (Nat.le_of_ble_eq_true rfl)) (And.intro rfl (sm_calln h1 (Nat.le_of_ble_eq_true rfl) (Nat.le_of_ble_eq_true rfl) k)))))
set_option maxRecDepth 100000 in
theorem w_X1_runOnce_4 {ex : sm_O} {d n : Nat} {y : sm_Y} {I : Nat → Nat → Int32} {L : Nat → Nat → Int64} {R : Nat → Nat → Option Nat} {Q : sm_Q} {w2 : Option Value} {a1 : Int32} {d1 : Nat} (hG : sm_G y R) (h1 : d1 < d) (k : vp_in a1 12 ∧ (if (I 71 a1.toNatClampNeg) = (-1) then (sm_W ex d 0 0 8 53 [some (.ref 54), some (.int a1), w2] [] (n, y, I, L, R) Q) else (sm_W ex d1 0 0 11 0 [some (.ref 55), some (.ref 67), some (.int (I 71 a1.toNatClampNeg)), none, none, none] [] (n, y, I, L, R) (fun r μ1 => sm_W ex d 0 0 8 37 [some (.ref 54), some (.int a1), w2] (r.toList ++ []) μ1 Q)))) : sm_W ex d 0 0 8 4 [some (.ref 54), some (.int a1), w2] [] (n, y, I, L, R) Q := sm_in (sm_in (And.intro (hG.1 54 (Nat.le_of_ble_eq_true rfl)) (sm_gfr rfl (hG.2 54 6 rfl) (sm_in (And.intro (hG.1 67 (Nat.le_of_ble_eq_true rfl)) (sm_gfr rfl (hG.2 67 3 rfl) (sm_in ((have e1 := k.1; have k1 := k.2; sm_in (Exists.intro 12 (And.intro (hG.1 71 (Nat.le_of_ble_eq_true rfl)) (And.intro e1 (sm_in (sm_in (And.intro (fun c2 => have k2t := Eq.mp (if_pos c2) k1; k2t) (fun c2 => have k2f := Eq.mp (if_neg c2) k1; sm_in (sm_in (And.intro (hG.1 54 (Nat.le_of_ble_eq_true rfl)) (sm_gfr rfl (hG.2 54 2 rfl) (sm_in (sm_in (And.intro (hG.1 54 (Nat.le_of_ble_eq_true rfl)) (sm_gfr rfl (hG.2 54 6 rfl) (sm_in (sm_in (And.intro (hG.1 54 (Nat.le_of_ble_eq_true rfl)) (sm_gfr rfl (hG.2 54 6 rfl) (sm_in (And.intro (hG.1 67 (Nat.le_of_ble_eq_true rfl)) (sm_gfr rfl (hG.2 67 3 rfl) (sm_in (sm_in (Exists.intro 12 (And.intro (hG.1 71 (Nat.le_of_ble_eq_true rfl)) (And.intro e1 (sm_in (Exists.intro 2 (And.intro (hG.1 55 (Nat.le_of_ble_eq_true rfl)) (And.intro rfl (sm_calln h1 (Nat.le_of_ble_eq_true rfl) (Nat.le_of_ble_eq_true rfl) k2f))))))))))))))))))))))))))))))))))))))))
set_option maxRecDepth 100000 in
theorem w_X1_runOnce_37 {ex : sm_O} {d n : Nat} {y : sm_Y} {I : Nat → Nat → Int32} {L : Nat → Nat → Int64} {R : Nat → Nat → Option Nat} {Q : sm_Q} {w1 : Option Value} {w2 : Option Value} {s0 : Int32} (hG : sm_G y R) (k : if s0 = 0 then (Q (some (.int 1)) (n, y, I, L, R)) else (if (I 55 3) = 1 then (sm_W ex d 0 0 8 53 [some (.ref 54), w1, w2] [] (n, y, I, L, R) Q) else (Q (some (.int 1)) (n, y, I, L, R)))) : sm_W ex d 0 0 8 37 [some (.ref 54), w1, w2] [.int s0] (n, y, I, L, R) Q := sm_in (And.intro (fun c1 => have k1t := Eq.mp (if_pos c1) k; sm_in (sm_in (And.intro rfl (And.intro (Or.inr rfl) k1t)))) (fun c1 => have k1f := Eq.mp (if_neg c1) k; sm_in (sm_in (And.intro (hG.1 54 (Nat.le_of_ble_eq_true rfl)) (sm_gfr rfl (hG.2 54 2 rfl) (sm_in (And.intro (hG.1 55 (Nat.le_of_ble_eq_true rfl)) (sm_in (sm_in (And.intro (fun c2 => have k2t := Eq.mp (if_pos c2) k1f; k2t) (fun c2 => have k2f := Eq.mp (if_neg c2) k1f; sm_in (sm_in (And.intro rfl (And.intro (Or.inr rfl) k2f))))))))))))))
set_option maxRecDepth 100000 in
theorem w_X1_runOnce_53 {ex : sm_O} {d n : Nat} {y : sm_Y} {I : Nat → Nat → Int32} {L : Nat → Nat → Int64} {R : Nat → Nat → Option Nat} {Q : sm_Q} {w2 : Option Value} {a1 : Int32} {d1 : Nat} (hG : sm_G y R) (h1 : d1 < d) (k : vp_in a1 12 ∧ (if (I 70 a1.toNatClampNeg) = (-1) then (sm_W ex d 0 0 8 91 [some (.ref 54), some (.int a1), w2] [] (n, y, I, L, R) Q) else (sm_W ex d1 0 0 11 0 [some (.ref 55), some (.ref 67), some (.int (I 70 a1.toNatClampNeg)), none, none, none] [] (n, y, I, L, R) (fun r μ1 => sm_W ex d 0 0 8 86 [some (.ref 54), some (.int a1), w2] (r.toList ++ []) μ1 Q)))) : sm_W ex d 0 0 8 53 [some (.ref 54), some (.int a1), w2] [] (n, y, I, L, R) Q := sm_in (sm_in (And.intro (hG.1 54 (Nat.le_of_ble_eq_true rfl)) (sm_gfr rfl (hG.2 54 6 rfl) (sm_in (And.intro (hG.1 67 (Nat.le_of_ble_eq_true rfl)) (sm_gfr rfl (hG.2 67 2 rfl) (sm_in ((have e1 := k.1; have k1 := k.2; sm_in (Exists.intro 12 (And.intro (hG.1 70 (Nat.le_of_ble_eq_true rfl)) (And.intro e1 (sm_in (sm_in (And.intro (fun c2 => have k2t := Eq.mp (if_pos c2) k1; k2t) (fun c2 => have k2f := Eq.mp (if_neg c2) k1; sm_in (sm_in (And.intro (hG.1 54 (Nat.le_of_ble_eq_true rfl)) (sm_gfr rfl (hG.2 54 2 rfl) (sm_in (sm_in (And.intro (hG.1 54 (Nat.le_of_ble_eq_true rfl)) (sm_gfr rfl (hG.2 54 6 rfl) (sm_in (sm_in (And.intro (hG.1 54 (Nat.le_of_ble_eq_true rfl)) (sm_gfr rfl (hG.2 54 6 rfl) (sm_in (And.intro (hG.1 67 (Nat.le_of_ble_eq_true rfl)) (sm_gfr rfl (hG.2 67 2 rfl) (sm_in (sm_in (Exists.intro 12 (And.intro (hG.1 70 (Nat.le_of_ble_eq_true rfl)) (And.intro e1 (sm_in (Exists.intro 2 (And.intro (hG.1 55 (Nat.le_of_ble_eq_true rfl)) (And.intro rfl (sm_calln h1 (Nat.le_of_ble_eq_true rfl) (Nat.le_of_ble_eq_true rfl) k2f))))))))))))))))))))))))))))))))))))))))
set_option maxRecDepth 100000 in
theorem w_X1_runOnce_86 {ex : sm_O} {d n : Nat} {y : sm_Y} {I : Nat → Nat → Int32} {L : Nat → Nat → Int64} {R : Nat → Nat → Option Nat} {Q : sm_Q} {w0 : Option Value} {w1 : Option Value} {w2 : Option Value} {s0 : Int32} (k : if s0 = 0 then (Q (some (.int 0)) (n, y, I, L, R)) else (sm_W ex d 0 0 8 91 [w0, w1, w2] [] (n, y, I, L, R) Q)) : sm_W ex d 0 0 8 86 [w0, w1, w2] [.int s0] (n, y, I, L, R) Q := sm_in (And.intro (fun c1 => have k1f := Eq.mp (if_neg c1) k; k1f) (fun c1 => have k1t := Eq.mp (if_pos c1) k; sm_in (sm_in (And.intro rfl (And.intro (Or.inl rfl) k1t)))))
set_option maxRecDepth 100000 in
theorem w_X1_runOnce_91 {ex : sm_O} {d n : Nat} {y : sm_Y} {I : Nat → Nat → Int32} {L : Nat → Nat → Int64} {R : Nat → Nat → Option Nat} {Q : sm_Q} {w2 : Option Value} {a1 : Int32} {d1 : Nat} (hG : sm_G y R) (h1 : d1 < d) (k : vp_in a1 12 ∧ (if (I 70 a1.toNatClampNeg) = (-1) then (sm_W ex d1 0 0 6 0 [some (.ref 54), some (.int (I 69 a1.toNatClampNeg)), some (.int (-1))] [] (n, y, I, L, R) (fun r μ1 => sm_W ex d 0 0 8 128 [some (.ref 54), some (.int a1), w2] (r.toList ++ []) μ1 Q)) else (sm_W ex d1 0 0 6 0 [some (.ref 54), some (.int (I 69 a1.toNatClampNeg)), some (.int (I 55 3))] [] (n, y, I, L, R) (fun r μ1 => sm_W ex d 0 0 8 128 [some (.ref 54), some (.int a1), w2] (r.toList ++ []) μ1 Q)))) : sm_W ex d 0 0 8 91 [some (.ref 54), some (.int a1), w2] [] (n, y, I, L, R) Q := sm_in (sm_in (sm_in (And.intro (hG.1 54 (Nat.le_of_ble_eq_true rfl)) (sm_gfr rfl (hG.2 54 6 rfl) (sm_in (And.intro (hG.1 67 (Nat.le_of_ble_eq_true rfl)) (sm_gfr rfl (hG.2 67 1 rfl) (sm_in ((have e1 := k.1; have k1 := k.2; sm_in (Exists.intro 12 (And.intro (hG.1 69 (Nat.le_of_ble_eq_true rfl)) (And.intro e1 (sm_in (sm_in (And.intro (hG.1 54 (Nat.le_of_ble_eq_true rfl)) (sm_gfr rfl (hG.2 54 6 rfl) (sm_in (And.intro (hG.1 67 (Nat.le_of_ble_eq_true rfl)) (sm_gfr rfl (hG.2 67 2 rfl) (sm_in (sm_in (Exists.intro 12 (And.intro (hG.1 70 (Nat.le_of_ble_eq_true rfl)) (And.intro e1 (sm_in (sm_in (And.intro (fun c2 => have k2t := Eq.mp (if_pos c2) k1; sm_in (sm_in (Exists.intro 1 (And.intro (hG.1 54 (Nat.le_of_ble_eq_true rfl)) (And.intro rfl (sm_calln h1 (Nat.le_of_ble_eq_true rfl) (Nat.le_of_ble_eq_true rfl) k2t)))))) (fun c2 => have k2f := Eq.mp (if_neg c2) k1; sm_in (sm_in (And.intro (hG.1 54 (Nat.le_of_ble_eq_true rfl)) (sm_gfr rfl (hG.2 54 2 rfl) (sm_in (And.intro (hG.1 55 (Nat.le_of_ble_eq_true rfl)) (sm_in (sm_in (Exists.intro 1 (And.intro (hG.1 54 (Nat.le_of_ble_eq_true rfl)) (And.intro rfl (sm_calln h1 (Nat.le_of_ble_eq_true rfl) (Nat.le_of_ble_eq_true rfl) k2f))))))))))))))))))))))))))))))))))))))))
set_option maxRecDepth 100000 in
theorem w_X1_runOnce_128 {ex : sm_O} {d n : Nat} {y : sm_Y} {I : Nat → Nat → Int32} {L : Nat → Nat → Int64} {R : Nat → Nat → Option Nat} {Q : sm_Q} {w2 : Option Value} {a1 : Int32} {s0 : Int32} (hG : sm_G y R) (k : if 0 ≤ s0 then (vp_in a1 12 ∧ (if (I 69 a1.toNatClampNeg) = 0 then (Q (some (.int 1)) (n, y, sm_st (sm_st I 54 8 s0) 54 7 ((I 54 7) + 1), L, R)) else (Q (some (.int 1)) (n, y, sm_st I 54 7 ((I 54 7) + 1), L, R)))) else (Q (some (.int 0)) (n, y, I, L, R))) : sm_W ex d 0 0 8 128 [some (.ref 54), some (.int a1), w2] [.int s0] (n, y, I, L, R) Q := sm_in (And.intro (Nat.le_of_ble_eq_true rfl) (sm_in (sm_in (And.intro (fun c1 => have k1t := Eq.mp (if_pos c1) k; sm_in (sm_in (And.intro (hG.1 54 (Nat.le_of_ble_eq_true rfl)) (sm_gfr rfl (hG.2 54 6 rfl) (sm_in (And.intro (hG.1 67 (Nat.le_of_ble_eq_true rfl)) (sm_gfr rfl (hG.2 67 1 rfl) (sm_in ((have e2 := k1t.1; have k2 := k1t.2; sm_in (Exists.intro 12 (And.intro (hG.1 69 (Nat.le_of_ble_eq_true rfl)) (And.intro e2 (sm_in (And.intro (fun c3 => have k3f := Eq.mp (if_neg c3) k2; sm_in (sm_in (And.intro rfl (sm_in (And.intro (hG.1 54 (Nat.le_of_ble_eq_true rfl)) (sm_in (sm_in (sm_in (And.intro (hG.1 54 (Nat.le_of_ble_eq_true rfl)) (sm_in (sm_in (And.intro rfl (And.intro (Or.inr rfl) k3f))))))))))))) (fun c3 => have k3t := Eq.mp (if_pos c3) k2; sm_in (sm_in (sm_in (And.intro (hG.1 54 (Nat.le_of_ble_eq_true rfl)) (sm_in (sm_in (And.intro rfl (sm_in (And.intro (hG.1 54 (Nat.le_of_ble_eq_true rfl)) (sm_in (sm_in (sm_in (And.intro (hG.1 54 (Nat.le_of_ble_eq_true rfl)) (sm_in (sm_in (And.intro rfl (And.intro (Or.inr rfl) k3t)))))))))))))))))))))))))))))))) (fun c1 => have k1f := Eq.mp (if_neg c1) k; sm_in (sm_in (And.intro rfl (And.intro (Or.inl rfl) k1f))))))))
set_option maxRecDepth 100000 in
theorem w_X1_run_0 {ex : sm_O} {d n : Nat} {y : sm_Y} {I : Nat → Nat → Int32} {L : Nat → Nat → Int64} {R : Nat → Nat → Option Nat} {Q : sm_Q} {w1 : Option Value} {w2 : Option Value} {d1 : Nat} (hG : sm_G y R) (h1 : d1 < d) (k : sm_W ex d1 0 0 62 0 [some (.ref 58), some (.ref 1)] [] (n, y, I, L, R) (fun r μ1 => sm_W ex d 0 0 7 11 [some (.ref 54), w1, w2] (r.toList ++ []) μ1 Q)) : sm_W ex d 0 0 7 0 [some (.ref 54), w1, w2] [] (n, y, I, L, R) Q := sm_in (sm_in (And.intro (hG.1 54 (Nat.le_of_ble_eq_true rfl)) (sm_gfr rfl (hG.2 54 3 rfl) (sm_in (sm_in (And.intro (hG.1 54 (Nat.le_of_ble_eq_true rfl)) (sm_gfr rfl (hG.2 54 0 rfl) (sm_in (Exists.intro 9 (And.intro (hG.1 58 (Nat.le_of_ble_eq_true rfl)) (And.intro rfl (sm_calln h1 (Nat.le_of_ble_eq_true rfl) (Nat.le_of_ble_eq_true rfl) k))))))))))))
set_option maxRecDepth 100000 in
theorem w_X1_run_11 {ex : sm_O} {d n : Nat} {y : sm_Y} {I : Nat → Nat → Int32} {L : Nat → Nat → Int64} {R : Nat → Nat → Option Nat} {Q : sm_Q} {w1 : Option Value} {w2 : Option Value} {d1 : Nat} (hG : sm_G y R) (h1 : d1 < d) (k : sm_W ex d1 0 0 22 0 [some (.ref 63), some (.ref 65)] [] (n, y, I, L, R) (fun r μ1 => sm_W ex d 0 0 7 22 [some (.ref 54), w1, w2] (r.toList ++ []) μ1 Q)) : sm_W ex d 0 0 7 11 [some (.ref 54), w1, w2] [] (n, y, I, L, R) Q := sm_in (sm_in (And.intro (hG.1 54 (Nat.le_of_ble_eq_true rfl)) (sm_gfr rfl (hG.2 54 4 rfl) (sm_in (sm_in (And.intro (hG.1 54 (Nat.le_of_ble_eq_true rfl)) (sm_gfr rfl (hG.2 54 5 rfl) (sm_in (Exists.intro 4 (And.intro (hG.1 63 (Nat.le_of_ble_eq_true rfl)) (And.intro rfl (sm_calln h1 (Nat.le_of_ble_eq_true rfl) (Nat.le_of_ble_eq_true rfl) k))))))))))))
set_option maxRecDepth 100000 in
theorem w_X1_run_22 {ex : sm_O} {d n : Nat} {y : sm_Y} {I : Nat → Nat → Int32} {L : Nat → Nat → Int64} {R : Nat → Nat → Option Nat} {Q : sm_Q} {w1 : Option Value} {w2 : Option Value} (hG : sm_G y R) (k : sm_W ex d 0 0 7 34 [some (.ref 54), some (.int 0), w2] [] (n, y, sm_st (sm_st I 54 7 0) 54 8 (-1), L, R) Q) : sm_W ex d 0 0 7 22 [some (.ref 54), w1, w2] [] (n, y, I, L, R) Q := sm_in (sm_in (sm_in (And.intro (hG.1 54 (Nat.le_of_ble_eq_true rfl)) (sm_in (sm_in (sm_in (And.intro (hG.1 54 (Nat.le_of_ble_eq_true rfl)) (sm_in (sm_in (And.intro (Nat.le_of_ble_eq_true rfl) (k)))))))))))
set_option maxRecDepth 100000 in
theorem w_X1_run_34 {ex : sm_O} {d n : Nat} {y : sm_Y} {I : Nat → Nat → Int32} {L : Nat → Nat → Int64} {R : Nat → Nat → Option Nat} {Q : sm_Q} {w2 : Option Value} {a1 : Int32} (hG : sm_G y R) (k : if (I 67 5) ≤ a1 then (Q (some (.int (I 54 7))) (n, y, I, L, R)) else (sm_W ex d 0 0 7 47 [some (.ref 54), some (.int a1), some (.int 0)] [] (n, y, I, L, R) Q)) : sm_W ex d 0 0 7 34 [some (.ref 54), some (.int a1), w2] [] (n, y, I, L, R) Q := sm_in (sm_in (sm_in (And.intro (hG.1 54 (Nat.le_of_ble_eq_true rfl)) (sm_gfr rfl (hG.2 54 6 rfl) (sm_in (And.intro (hG.1 67 (Nat.le_of_ble_eq_true rfl)) (sm_in (And.intro (fun c1 => have k1t := Eq.mp (if_pos c1) k; sm_in (sm_in (And.intro (hG.1 54 (Nat.le_of_ble_eq_true rfl)) (sm_in (And.intro rfl k1t))))) (fun c1 => have k1f := Eq.mp (if_neg c1) k; sm_in (sm_in (And.intro (Nat.le_of_ble_eq_true rfl) (k1f))))))))))))
set_option maxRecDepth 100000 in
theorem w_X1_run_47 {ex : sm_O} {d n : Nat} {y : sm_Y} {I : Nat → Nat → Int32} {L : Nat → Nat → Int64} {R : Nat → Nat → Option Nat} {Q : sm_Q} {a1 : Int32} {a2 : Int32} {d1 : Nat} (hG : sm_G y R) (h1 : d1 < d) (k : vp_in a1 12 ∧ (if (I 72 a1.toNatClampNeg) ≤ a2 then (sm_W ex d 0 0 7 34 [some (.ref 54), some (.int (a1 + 1)), some (.int a2)] [] (n, y, I, L, R) Q) else (sm_W ex d1 0 0 8 0 [some (.ref 54), some (.int a1), none] [] (n, y, I, L, R) (fun r μ1 => sm_W ex d 0 0 7 65 [some (.ref 54), some (.int a1), some (.int a2)] (r.toList ++ []) μ1 Q)))) : sm_W ex d 0 0 7 47 [some (.ref 54), some (.int a1), some (.int a2)] [] (n, y, I, L, R) Q := sm_in (sm_in (sm_in (And.intro (hG.1 54 (Nat.le_of_ble_eq_true rfl)) (sm_gfr rfl (hG.2 54 6 rfl) (sm_in (And.intro (hG.1 67 (Nat.le_of_ble_eq_true rfl)) (sm_gfr rfl (hG.2 67 4 rfl) (sm_in ((have e1 := k.1; have k1 := k.2; sm_in (Exists.intro 12 (And.intro (hG.1 72 (Nat.le_of_ble_eq_true rfl)) (And.intro e1 (sm_in (And.intro (fun c2 => have k2t := Eq.mp (if_pos c2) k1; sm_in (And.intro (Nat.le_of_ble_eq_true rfl) (sm_in (k2t)))) (fun c2 => have k2f := Eq.mp (if_neg c2) k1; sm_in (sm_in (sm_in (Exists.intro 1 (And.intro (hG.1 54 (Nat.le_of_ble_eq_true rfl)) (And.intro rfl (sm_calln h1 (Nat.le_of_ble_eq_true rfl) (Nat.le_of_ble_eq_true rfl) k2f))))))))))))))))))))))
set_option maxRecDepth 100000 in
theorem w_X1_run_65 {ex : sm_O} {d n : Nat} {y : sm_Y} {I : Nat → Nat → Int32} {L : Nat → Nat → Int64} {R : Nat → Nat → Option Nat} {Q : sm_Q} {a1 : Int32} {a2 : Int32} {s0 : Int32} {d1 : Nat} (hG : sm_G y R) (h1 : d1 < d) (k : if s0 = 0 then (sm_W ex d1 0 0 62 0 [some (.ref 1), some (.ref 58)] [] (n, y, I, L, R) (fun r μ1 => sm_W ex d 0 0 7 79 [some (.ref 54), some (.int a1), some (.int a2)] (r.toList ++ []) μ1 Q)) else (sm_W ex d 0 0 7 47 [some (.ref 54), some (.int a1), some (.int (a2 + 1))] [] (n, y, I, L, R) Q)) : sm_W ex d 0 0 7 65 [some (.ref 54), some (.int a1), some (.int a2)] [.int s0] (n, y, I, L, R) Q := sm_in (And.intro (fun c1 => have k1f := Eq.mp (if_neg c1) k; sm_in (And.intro (Nat.le_of_ble_eq_true rfl) (sm_in (k1f)))) (fun c1 => have k1t := Eq.mp (if_pos c1) k; sm_in (sm_in (And.intro (hG.1 54 (Nat.le_of_ble_eq_true rfl)) (sm_gfr rfl (hG.2 54 0 rfl) (sm_in (sm_in (And.intro (hG.1 54 (Nat.le_of_ble_eq_true rfl)) (sm_gfr rfl (hG.2 54 3 rfl) (sm_in (Exists.intro 9 (And.intro (hG.1 1 (Nat.le_of_ble_eq_true rfl)) (And.intro rfl (sm_calln h1 (Nat.le_of_ble_eq_true rfl) (Nat.le_of_ble_eq_true rfl) k1t))))))))))))))
set_option maxRecDepth 100000 in
theorem w_X1_run_79 {ex : sm_O} {d n : Nat} {y : sm_Y} {I : Nat → Nat → Int32} {L : Nat → Nat → Int64} {R : Nat → Nat → Option Nat} {Q : sm_Q} {w1 : Option Value} {w2 : Option Value} {d1 : Nat} (hG : sm_G y R) (h1 : d1 < d) (k : sm_W ex d1 0 0 22 0 [some (.ref 65), some (.ref 63)] [] (n, y, I, L, R) (fun r μ1 => sm_W ex d 0 0 7 90 [some (.ref 54), w1, w2] (r.toList ++ []) μ1 Q)) : sm_W ex d 0 0 7 79 [some (.ref 54), w1, w2] [] (n, y, I, L, R) Q := sm_in (sm_in (And.intro (hG.1 54 (Nat.le_of_ble_eq_true rfl)) (sm_gfr rfl (hG.2 54 5 rfl) (sm_in (sm_in (And.intro (hG.1 54 (Nat.le_of_ble_eq_true rfl)) (sm_gfr rfl (hG.2 54 4 rfl) (sm_in (Exists.intro 4 (And.intro (hG.1 65 (Nat.le_of_ble_eq_true rfl)) (And.intro rfl (sm_calln h1 (Nat.le_of_ble_eq_true rfl) (Nat.le_of_ble_eq_true rfl) k))))))))))))
set_option maxRecDepth 100000 in
theorem w_X1_run_90 {ex : sm_O} {d n : Nat} {y : sm_Y} {I : Nat → Nat → Int32} {L : Nat → Nat → Int64} {R : Nat → Nat → Option Nat} {Q : sm_Q} {w2 : Option Value} {a1 : Int32} (hG : sm_G y R) (k : Q (some (.int (-3))) (n, y, sm_st I 54 9 a1, L, R)) : sm_W ex d 0 0 7 90 [some (.ref 54), some (.int a1), w2] [] (n, y, I, L, R) Q := sm_in (sm_in (sm_in (And.intro (hG.1 54 (Nat.le_of_ble_eq_true rfl)) (sm_in (sm_in (And.intro rfl k))))))
set_option maxRecDepth 100000 in
theorem w_X4_copyFrom_0 {ex : sm_O} {d n : Nat} {y : sm_Y} {I : Nat → Nat → Int32} {L : Nat → Nat → Int64} {R : Nat → Nat → Option Nat} {Q : sm_Q} {a0 : Nat} {a1 : Nat} (ho0 : ok4 y R a1) (ho1 : ok4 y R a0) (h1 : 1 ≤ d) (k : ¬ (nI 192) < 0 ∧ (0 : Int32).toNatClampNeg + (nI 192).toNatClampNeg ≤ 192 ∧ Q none (n, y, sm_st (sm_cp I (a1 + 1) (0 : Int32).toNatClampNeg (a0 + 1) (0 : Int32).toNatClampNeg (nI 192).toNatClampNeg) a0 1 ((sm_cp I (a1 + 1) (0 : Int32).toNatClampNeg (a0 + 1) (0 : Int32).toNatClampNeg (nI 192).toNatClampNeg) a1 1), L, R)) : sm_W ex d 0 0 22 0 [some (.ref a0), some (.ref a1)] [] (n, y, I, L, R) Q := sm_in (sm_in (And.intro (ok4_y0 ho0) (sm_gfr rfl (ok4_r0 ho0) (sm_in (sm_in (sm_in (And.intro (ok4_y0 ho1) (sm_gfr rfl (ok4_r0 ho1) (sm_in (sm_in (sm_in (And.intro (ok4_y0 ho1) (sm_gfr rfl (ok4_r0 ho1) (sm_in (Exists.intro 192 (Exists.intro 0 (And.intro (ok4_a1 ho1) ((have e1 := k.1; have k1 := k.2; (have e2 := k1.1; have k2 := k1.2; sm_in (And.intro h1 (And.intro (Nat.le_of_ble_eq_true rfl) (Exists.intro 192 (Exists.intro 192 (And.intro (ok4_a1 ho0) (And.intro (ok4_a1 ho1) (And.intro (by decide) (And.intro (by decide) (And.intro e1 (And.intro e2 (And.intro e2 (sm_in (sm_in (sm_in (And.intro (ok4_y0 ho0) (sm_in (And.intro (ok4_y0 ho1) (sm_in (And.intro rfl (And.intro rfl k2))))))))))))))))))))))))))))))))))))))))
-- ORDERS: how they run
/-- an order: what, with which sum, if so; how often -/
abbrev OC : Type := (Nat × DD × Option DD) × Nat
/-- how far: men, undo, how many were done, what the latest relief told -/
abbrev ZZ : Type := St × List (Nat × St) × Nat × Option Nat
def oenv (s : St) (dn : Nat) (la : Option Nat) (i : Nat) : Int := if i = 0 then (sTerm s 0 : Int) else if i = 1 then (dn : Int) else if i = 2 then sp_otherI la else if i = 3 then sp_otherI (sUp s) else if i = 4 then (sHeld s : Int) else if i = 5 then (sp_fit s : Int) else if i < 13 then (if i - 6 < sMen s then (sTired s (i - 6) : Int) else -1) else 0
def or_do (F : Option (Nat × Law)) (kd : Nat) (v : Int) (z : ZZ) : Option ZZ := if (sp_act F z.1 z.2.1 kd (Int32.ofInt v)).1 < 0 then none else some ((sp_act F z.1 z.2.1 kd (Int32.ofInt v)).2.1, (sp_act F z.1 z.2.1 kd (Int32.ofInt v)).2.2, z.2.2.1 + 1, if kd = 0 then some (sp_act F z.1 z.2.1 kd (Int32.ofInt v)).1.toNatClampNeg else z.2.2.2)
def or_sum (x : Nat × DD × Option DD) (env : Nat → Int) : Option Int := if x.1 = 3 then some (-1) else x.2.1 env
def or_one (F : Option (Nat × Law)) (x : Nat × DD × Option DD) (z : ZZ) : Option ZZ := if sp_tb x.2.2 (oenv z.1 z.2.2.1 z.2.2.2) = true then (or_sum x (oenv z.1 z.2.2.1 z.2.2.2)).bind (fun v => or_do F x.1 v z) else some z
def or_times (F : Option (Nat × Law)) (x : Nat × DD × Option DD) : Nat → ZZ → Option ZZ
  | 0, z => some z
  | t + 1, z => (or_one F x z).bind (or_times F x t)
def or_all (F : Option (Nat × Law)) : List OC → Nat → ZZ → Nat ⊕ ZZ
  | [], _, z => .inr z
  | x :: t, c, z => match or_times F x.1 x.2 z with
    | none => .inl c
    | some z' => or_all F t (c + 1) z'
/-- what it can be -/
def wZ (s0 : St) (b : Nat) (z : ZZ) : Prop := wS z.1 ∧ wU z.1 z.2.1 ∧ sp_same s0 z.1 ∧ z.2.2.1 ≤ b ∧ ∀ r, z.2.2.2 = some r → r ≤ 99
theorem or_do_w {F : Option (Nat × Law)} {kd b : Nat} {v : Int} {s0 : St} {z z' : ZZ} (h : wZ s0 b z) (hz : or_do F kd v z = some z') : wZ s0 (b + 1) z' := by
  unfold or_do at hz
  obtain ⟨h1, h2, h3, h4, h5⟩ := h
  have hw := sp_act_w (F := F) kd (Int32.ofInt v) h1 h2
  have hr := sp_act_r (F := F) (u := z.2.1) kd (Int32.ofInt v) h1.1.1
  split at hz
  · cases hz
  · rename_i hn
    cases hz
    refine ⟨hw.1, hw.2.1, sp_same_trans h3 hw.2.2, Nat.succ_le_succ h4, fun r hr2 => ?_⟩
    have hr2 : (if kd = 0 then some (sp_act F z.1 z.2.1 kd (Int32.ofInt v)).1.toNatClampNeg else z.2.2.2) = some r := hr2
    by_cases e : kd = 0
    · rw [if_pos e] at hr2
      cases hr2
      rcases hr with (q | q) | ⟨r, q1, q2⟩
      · rw [q] at hn
        exact absurd (show (-2 : Int32) < 0 by decide) hn
      · rw [q] at hn
        exact absurd (show (-3 : Int32) < 0 by decide) hn
      · rw [q2, nI_clamp (by omega)]
        exact q1
    · rw [if_neg e] at hr2
      exact h5 r hr2
theorem or_one_w {F : Option (Nat × Law)} {x : Nat × DD × Option DD} {b : Nat} {s0 : St} {z z' : ZZ} (h : wZ s0 b z) (hz : or_one F x z = some z') : wZ s0 (b + 1) z' := by
  unfold or_one at hz
  split at hz
  · cases hs : or_sum x (oenv z.1 z.2.2.1 z.2.2.2) with
    | none => rw [hs] at hz; cases hz
    | some v =>
      rw [hs] at hz
      exact or_do_w h hz
  · cases hz
    exact ⟨h.1, h.2.1, h.2.2.1, Nat.le_succ_of_le h.2.2.2.1, h.2.2.2.2⟩
-- the class
def cOc (I : Nat → Nat → Int32) (cd : Nat → Nat × Nat) (len c : Nat) (x : OC) : Prop := I 69 c = nI x.1.1 ∧ x.1.1 ≤ 3 ∧ (x.1.1 ≠ 3 → cSg 13 cd len (I 70 c) x.1.2.1) ∧ (x.1.1 = 3 → I 70 c = -1) ∧ (match x.1.2.2 with
  | none => I 71 c = -1
  | some T => sp_01 T ∧ cSg 13 cd len (I 71 c) T) ∧ I 72 c = nI x.2 ∧ x.2 ≤ 20
def cOrd (I : Nat → Nat → Int32) (l : List OC) : Prop := I 67 5 = nI l.length ∧ l.length ≤ 12 ∧ ∃ (cd : Nat → Nat × Nat) (len : Nat), cPr I 67 cd len ∧ ∀ (c : Nat) (x : OC), l[c]? = some x → cOc I cd len c x
theorem cOrd_kept {I I' : Nat → Nat → Int32} {l : List OC} (h : ∀ a j, 67 ≤ a → a ≤ 72 → I' a j = I a j) (hl : cOrd I l) : cOrd I' l := by
  obtain ⟨h1, h2, cd, len, h3, h4⟩ := hl
  refine ⟨by rw [h 67 5 (by omega) (by omega)]; exact h1, h2, cd, len, ⟨by rw [h 67 6 (by omega) (by omega)]; exact h3.1, h3.2.1, fun k hk => by rw [h 68 k (by omega) (by omega)]; exact h3.2.2 k hk⟩, fun c x hx => ?_⟩
  unfold cOc
  rw [h 69 c (by omega) (by omega), h 70 c (by omega) (by omega), h 71 c (by omega) (by omega), h 72 c (by omega) (by omega)]
  exact h4 c x hx
theorem sp_up_toInt {o : Option Nat} (h : ∀ r, o = some r → r ≤ 99) : (sp_up o).toInt = sp_otherI o := by
  cases o with
  | none => rfl
  | some q =>
    have := h q rfl
    exact nI_toInt (by omega)
set_option maxHeartbeats 1000000 in
theorem c_X1_setWords {ex : sm_O} {n : Nat} {y : sm_Y} {I : Nat → Nat → Int32} {L : Nat → Nat → Int64} {R : Nat → Nat → Option Nat} {Q : sm_Q} {d dn : Nat} {w1 w2 : Option Value} {s : St} {la : Option Nat} (hd : 2 ≤ d) (hG : sm_G y R) (hs : cS s 1 I) (hw : wS s) (hdn : I 54 7 = nI dn) (hdn2 : dn ≤ 500) (hla : I 54 8 = sp_up la) (hla2 : ∀ r, la = some r → r ≤ 99)
    (k : ∀ (I' : Nat → Nat → Int32), (∀ a j, a ≠ 56 → I' a j = I a j) → cW 13 (I' 56) = oenv s dn la → Q none (n, y, I', L, R)) : sm_W ex d 0 0 9 0 [some (.ref 54), w1, w2] [] (n, y, I, L, R) Q := by
  have hok := hw.1
  have h7 := hok.1
  have hfit := sp_fit_le s
  refine w_X1_setWords_0 (d1 := 1) hG (by omega) ?_
  generalize hI1 : sm_st (sm_st (sm_st (sm_st (sm_st I 56 0 (I 5 0)) 56 1 (I 54 7)) 56 2 (I 54 8)) 56 3 (I 1 6)) 56 4 (I 1 7) = I1
  have f1 : ∀ a j, a ≠ 56 → I1 a j = I a j := fun a j q => by rw [← hI1]; (repeat (refine (sm_st_or _ _ (by omega)).trans ?_)); rfl
  have v0 : I1 56 0 = I 5 0 := by rw [← hI1]; (repeat (refine (sm_st_or _ _ (by omega)).trans ?_)); exact sm_st_s _ _ _ _
  have v1 : I1 56 1 = I 54 7 := by rw [← hI1]; (repeat (refine (sm_st_or _ _ (by omega)).trans ?_)); exact sm_st_s _ _ _ _
  have v2 : I1 56 2 = I 54 8 := by rw [← hI1]; (repeat (refine (sm_st_or _ _ (by omega)).trans ?_)); exact sm_st_s _ _ _ _
  have v3 : I1 56 3 = I 1 6 := by rw [← hI1]; (repeat (refine (sm_st_or _ _ (by omega)).trans ?_)); exact sm_st_s _ _ _ _
  have v4 : I1 56 4 = I 1 7 := by rw [← hI1]; exact sm_st_s _ _ _ _
  have hs1 : cS s 1 I1 := cS_kept2 (fun a j q => f1 a j (by omega)) hs
  refine c_X9_fit (Nat.le_refl 1) (mk1 hG).1 hs1 h7 ?_
  refine w_X1_setWords_63 hG ?_
  refine ⟨sm_lin (by decide), ?_⟩
  rw [show (5 : Int32).toNatClampNeg = 5 from rfl]
  generalize hI2 : sm_st I1 56 5 (nI (sp_fit s)) = I2
  have f2 : ∀ a j, ¬ (a = 56 ∧ j = 5) → I2 a j = I1 a j := fun a j q => by rw [← hI2]; exact sm_st_or _ _ (by omega)
  have v5 : I2 56 5 = nI (sp_fit s) := by rw [← hI2, sm_st_s]
  have loop : ∀ (q j : Nat) (I3 : Nat → Nat → Int32), j + q = 7 → (∀ a i, ¬ (a = 56 ∧ 6 ≤ i) → I3 a i = I2 a i) → (∀ i, i < j → I3 56 (6 + i) = if i < sMen s then nI (sTired s i) else -1) → sm_W ex d 0 0 9 66 [some (.ref 54), some (.ref 56), some (.int (nI j))] [] (n, y, I3, L, R) Q := by
    intro q
    induction q with
    | zero =>
      intro j I3 hj f3 h3
      obtain rfl : j = 7 := by omega
      refine w_X1_setWords_66 hG ?_
      rw [if_pos (show (7 : Int32) ≤ nI 7 by decide)]
      refine k I3 (fun a j q => (f3 a j (by omega)).trans ((f2 a j (by omega)).trans (f1 a j q))) ?_
      have g : ∀ i, i < 5 → I3 56 i = I1 56 i := fun i hi => (f3 56 i (by omega)).trans (f2 56 i (by omega))
      funext i
      unfold cW oenv
      by_cases e0 : i = 0
      · subst e0
        rw [if_pos (by decide), if_pos rfl, g 0 (by decide), v0]
        have := hs.2.2.2.2.2 0 (by decide)
        rw [show I 5 0 = nI (sTerm s 0) from this]
        exact nI_toInt (by have := hw.2.1; omega)
      rw [if_neg e0]
      by_cases e1 : i = 1
      · subst e1
        rw [if_pos (by decide), if_pos rfl, g 1 (by decide), v1, hdn]
        exact nI_toInt (by omega)
      rw [if_neg e1]
      by_cases e2 : i = 2
      · subst e2
        rw [if_pos (by decide), if_pos rfl, g 2 (by decide), v2, hla]
        exact sp_up_toInt hla2
      rw [if_neg e2]
      by_cases e3 : i = 3
      · subst e3
        rw [if_pos (by decide), if_pos rfl, g 3 (by decide), v3, hs.2.2.2.1]
        exact sp_up_toInt (fun r hr => by have := hok.2.2.1 r hr; omega)
      rw [if_neg e3]
      by_cases e4 : i = 4
      · subst e4
        rw [if_pos (by decide), if_pos rfl, g 4 (by decide), v4, hs.2.2.2.2.1]
        exact nI_toInt (by have := hok.2.2.2.1; omega)
      rw [if_neg e4]
      by_cases e5 : i = 5
      · subst e5
        rw [if_pos (by decide), if_pos rfl, f3 56 5 (by omega), v5]
        exact nI_toInt (by omega)
      rw [if_neg e5]
      by_cases e6 : i < 13
      · rw [if_pos e6, if_pos e6]
        obtain ⟨m, rfl⟩ : ∃ m, i = 6 + m := ⟨i - 6, by omega⟩
        rw [h3 m (by omega), show 6 + m - 6 = m by omega]
        by_cases e7 : m < sMen s
        · rw [if_pos e7, if_pos e7]
          exact nI_toInt (by have := (hok.2.1 m e7).2.2.2; omega)
        · rw [if_neg e7, if_neg e7]
          rfl
      · rw [if_neg e6, if_neg e6]
    | succ q ih =>
      intro j I3 hj f3 h3
      have hj7 : j < 7 := by omega
      refine w_X1_setWords_66 hG ?_
      have e6 : 6 + nI j = nI (6 + j) := by rw [show (6 : Int32) = nI 6 from rfl, nI_add]
      have e4 : I3 1 4 = nI (sMen s) := (f3 1 4 (by omega)).trans ((f2 1 4 (by omega)).trans ((f1 1 4 (by omega)).trans hs.1))
      rw [if_neg (by rw [sm_of 7, nI_leI (by decide) (by omega)]; omega), e4, e6, nI_clamp (by omega), nI_clamp (by omega), sm_n1]
      have nx : ∀ v, v = (if j < sMen s then nI (sTired s j) else -1) → sm_W ex d 0 0 9 66 [some (.ref 54), some (.ref 56), some (.int (nI (j + 1)))] [] (n, y, sm_st I3 56 (6 + j) v, L, R) Q := fun v hv => ih (j + 1) _ (by omega) (fun a i q => by rw [sm_st_or _ _ (by omega)]; exact f3 a i q) (fun i hi => by
        by_cases e : i = j
        · subst e
          rw [sm_st_s, hv]
        · rw [sm_st_j _ _ (by omega)]
          exact h3 i (by omega))
      by_cases e : sMen s ≤ j
      · rw [if_pos (by rw [nI_leI (by omega) (by omega)]; exact e)]
        exact ⟨vp_in_nI (by omega) (by decide), nx (-1) (by rw [if_neg (by omega)])⟩
      · rw [if_neg (by rw [nI_leI (by omega) (by omega)]; exact e)]
        refine ⟨vp_in_nI (by omega) (by decide), vp_in_nI (by omega) (by decide), nx _ ?_⟩
        rw [if_pos (by omega)]
        have := (hs.2.1 j (by omega)).2.2
        exact (f3 4 j (by omega)).trans ((f2 4 j (by omega)).trans ((f1 4 j (by omega)).trans this))
  exact loop 7 0 I2 (by omega) (fun _ _ _ => rfl) (fun i hi => absurd hi (by omega))

