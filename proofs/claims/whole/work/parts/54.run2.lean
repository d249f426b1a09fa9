set_option maxRecDepth 100000 in
theorem w_X11_sumOf_0 {ex : sm_O} {d n : Nat} {y : sm_Y} {I : Nat → Nat → Int32} {L : Nat → Nat → Int64} {R : Nat → Nat → Option Nat} {Q : sm_Q} {a1 : Int32} {d1 : Nat} (hG : sm_G y R) (h1 : d1 < d) (k : if (I 123 56) = 0 then (vp_in a1 96 ∧ vp_in (a1 + 1) 96 ∧ (if (I 154 a1.toNatClampNeg) = (I 154 (a1 + 1).toNatClampNeg) then (Q (some (.int (-1))) (n, y, I, L, R)) else (sm_W ex d1 0 0 182 0 [some (.ref 123), some (.int (I 154 a1.toNatClampNeg)), some (.int (I 154 (a1 + 1).toNatClampNeg)), none, none, none, none] [] (n, y, sm_st I 123 20 1, L, R) (fun r μ1 => sm_W ex d 0 0 228 49 [some (.ref 123), some (.int a1)] (r.toList ++ []) μ1 Q)))) else (Q (some (.int (-1))) (n, y, I, L, R))) : sm_W ex d 0 0 228 0 [some (.ref 123), some (.int a1)] [] (n, y, I, L, R) Q := sm_in (sm_in (And.intro (hG.1 123 (Nat.le_of_ble_eq_true rfl)) (sm_in (And.intro (fun c1 => have k1f := Eq.mp (if_neg c1) k; sm_in (sm_in (And.intro rfl k1f))) (fun c1 => have k1t := Eq.mp (if_pos c1) k; sm_in (sm_in (And.intro (hG.1 123 (Nat.le_of_ble_eq_true rfl)) (sm_gfr rfl (hG.2 123 52 rfl) (sm_in ((have e2 := k1t.1; have k2 := k1t.2; sm_in (Exists.intro 96 (And.intro (hG.1 154 (Nat.le_of_ble_eq_true rfl)) (And.intro e2 (sm_in (sm_in (And.intro (hG.1 123 (Nat.le_of_ble_eq_true rfl)) (sm_gfr rfl (hG.2 123 52 rfl) (sm_in (sm_in (sm_in ((have e3 := k2.1; have k3 := k2.2; sm_in (Exists.intro 96 (And.intro (hG.1 154 (Nat.le_of_ble_eq_true rfl)) (And.intro e3 (sm_in (And.intro (fun c4 => have k4f := Eq.mp (if_neg c4) k3; sm_in (sm_in (sm_in (And.intro (hG.1 123 (Nat.le_of_ble_eq_true rfl)) (And.intro (Or.inr rfl) (sm_in (sm_in (sm_in (And.intro (hG.1 123 (Nat.le_of_ble_eq_true rfl)) (sm_gfr rfl (hG.2 123 52 rfl) (sm_in (sm_in (Exists.intro 96 (And.intro (hG.1 154 (Nat.le_of_ble_eq_true rfl)) (And.intro e2 (sm_in (sm_in (And.intro (hG.1 123 (Nat.le_of_ble_eq_true rfl)) (sm_gfr rfl (hG.2 123 52 rfl) (sm_in (sm_in (sm_in (sm_in (Exists.intro 96 (And.intro (hG.1 154 (Nat.le_of_ble_eq_true rfl)) (And.intro e3 (sm_in (Exists.intro 11 (And.intro (hG.1 123 (Nat.le_of_ble_eq_true rfl)) (And.intro rfl (sm_calln h1 (Nat.le_of_ble_eq_true rfl) (Nat.le_of_ble_eq_true rfl) k4f))))))))))))))))))))))))))))))) (fun c4 => have k4t := Eq.mp (if_pos c4) k3; sm_in (sm_in (And.intro rfl k4t)))))))))))))))))))))))))))))))
set_option maxRecDepth 100000 in
theorem w_X11_sumOf_49 {ex : sm_O} {d n : Nat} {y : sm_Y} {I : Nat → Nat → Int32} {L : Nat → Nat → Int64} {R : Nat → Nat → Option Nat} {Q : sm_Q} {w1 : Option Value} (hG : sm_G y R) (k : ((I 123 38) = 0 ∨ (I 123 38) = 1) ∧ Q (some (.int ((L 123 39).toInt32))) (n, y, sm_st (sm_st I 123 20 0) 123 56 (I 123 38), L, R)) : sm_W ex d 0 0 228 49 [some (.ref 123), w1] [] (n, y, I, L, R) Q := sm_in (sm_in (sm_in (And.intro (hG.1 123 (Nat.le_of_ble_eq_true rfl)) (And.intro (Or.inl rfl) (sm_in (sm_in (sm_in (And.intro (hG.1 123 (Nat.le_of_ble_eq_true rfl)) ((have e1 := k.1; have k1 := k.2; sm_in (And.intro (hG.1 123 (Nat.le_of_ble_eq_true rfl)) (And.intro e1 (sm_in (sm_in (And.intro (hG.1 123 (Nat.le_of_ble_eq_true rfl)) (sm_in (sm_in (And.intro rfl k1))))))))))))))))))
set_option maxRecDepth 100000 in
theorem w_X11_act_0 {ex : sm_O} {d n : Nat} {y : sm_Y} {I : Nat → Nat → Int32} {L : Nat → Nat → Int64} {R : Nat → Nat → Option Nat} {Q : sm_Q} {a1 : Int32} {a2 : Int32} {d1 : Nat} (hG : sm_G y R) (h1 : d1 < d) (k : ((a1.toInt < 0 ∨ 2 < a1.toInt) → (sm_W ex d1 0 0 200 0 [some (.ref 123)] [] (n, y, I, L, R) (fun r μ1 => sm_W ex d 0 0 229 50 [some (.ref 123), some (.int a1), some (.int a2)] (r.toList ++ []) μ1 Q))) ∧ (a1.toInt = 0 → (sm_W ex d1 0 0 191 0 [some (.ref 123), some (.int a2)] [] (n, y, I, L, R) (fun r μ1 => sm_W ex d 0 0 229 33 [some (.ref 123), some (.int a1), some (.int a2)] (r.toList ++ []) μ1 Q))) ∧ (a1.toInt = 1 → (sm_W ex d1 0 0 194 0 [some (.ref 123), some (.int a2)] [] (n, y, I, L, R) (fun r μ1 => sm_W ex d 0 0 229 39 [some (.ref 123), some (.int a1), some (.int a2)] (r.toList ++ []) μ1 Q))) ∧ (a1.toInt = 2 → (sm_W ex d1 0 0 197 0 [some (.ref 123), some (.int a2)] [] (n, y, I, L, R) (fun r μ1 => sm_W ex d 0 0 229 45 [some (.ref 123), some (.int a1), some (.int a2)] (r.toList ++ []) μ1 Q)))) : sm_W ex d 0 0 229 0 [some (.ref 123), some (.int a1), some (.int a2)] [] (n, y, I, L, R) Q := sm_in (sm_in (And.intro (fun hd => have kds1_ := k.1 hd; sm_in (sm_in (Exists.intro 11 (And.intro (hG.1 123 (Nat.le_of_ble_eq_true rfl)) (And.intro rfl (sm_calln h1 (Nat.le_of_ble_eq_true rfl) (Nat.le_of_ble_eq_true rfl) kds1_)))))) (fun j off ho hj => match j, ho, hj with | 0, ho, hj => by cases ho; exact (have ks1_0 := k.2.1 hj; sm_in (sm_in (sm_in (Exists.intro 11 (And.intro (hG.1 123 (Nat.le_of_ble_eq_true rfl)) (And.intro rfl (sm_calln h1 (Nat.le_of_ble_eq_true rfl) (Nat.le_of_ble_eq_true rfl) ks1_0))))))) | 1, ho, hj => by cases ho; exact (have ks1_1 := k.2.2.1 hj; sm_in (sm_in (sm_in (Exists.intro 11 (And.intro (hG.1 123 (Nat.le_of_ble_eq_true rfl)) (And.intro rfl (sm_calln h1 (Nat.le_of_ble_eq_true rfl) (Nat.le_of_ble_eq_true rfl) ks1_1))))))) | 2, ho, hj => by cases ho; exact (have ks1_2 := k.2.2.2 hj; sm_in (sm_in (sm_in (Exists.intro 11 (And.intro (hG.1 123 (Nat.le_of_ble_eq_true rfl)) (And.intro rfl (sm_calln h1 (Nat.le_of_ble_eq_true rfl) (Nat.le_of_ble_eq_true rfl) ks1_2))))))) | j + 3, ho, _ => by cases ho)))
set_option maxRecDepth 100000 in
theorem w_X11_act_33 {ex : sm_O} {d n : Nat} {y : sm_Y} {I : Nat → Nat → Int32} {L : Nat → Nat → Int64} {R : Nat → Nat → Option Nat} {Q : sm_Q} {w0 : Option Value} {w1 : Option Value} {w2 : Option Value} {s0 : Int32} (k : Q (some (.int s0)) (n, y, I, L, R)) : sm_W ex d 0 0 229 33 [w0, w1, w2] [.int s0] (n, y, I, L, R) Q := sm_in (And.intro rfl k)
set_option maxRecDepth 100000 in
theorem w_X11_act_39 {ex : sm_O} {d n : Nat} {y : sm_Y} {I : Nat → Nat → Int32} {L : Nat → Nat → Int64} {R : Nat → Nat → Option Nat} {Q : sm_Q} {w0 : Option Value} {w1 : Option Value} {w2 : Option Value} {s0 : Int32} (k : Q (some (.int s0)) (n, y, I, L, R)) : sm_W ex d 0 0 229 39 [w0, w1, w2] [.int s0] (n, y, I, L, R) Q := sm_in (And.intro rfl k)
set_option maxRecDepth 100000 in
theorem w_X11_act_45 {ex : sm_O} {d n : Nat} {y : sm_Y} {I : Nat → Nat → Int32} {L : Nat → Nat → Int64} {R : Nat → Nat → Option Nat} {Q : sm_Q} {w0 : Option Value} {w1 : Option Value} {w2 : Option Value} {s0 : Int32} (k : Q (some (.int s0)) (n, y, I, L, R)) : sm_W ex d 0 0 229 45 [w0, w1, w2] [.int s0] (n, y, I, L, R) Q := sm_in (And.intro rfl k)
set_option maxRecDepth 100000 in
theorem w_X11_act_50 {ex : sm_O} {d n : Nat} {y : sm_Y} {I : Nat → Nat → Int32} {L : Nat → Nat → Int64} {R : Nat → Nat → Option Nat} {Q : sm_Q} {w0 : Option Value} {w1 : Option Value} {w2 : Option Value} {s0 : Int32} (k : Q (some (.int s0)) (n, y, I, L, R)) : sm_W ex d 0 0 229 50 [w0, w1, w2] [.int s0] (n, y, I, L, R) Q := sm_in (And.intro rfl k)
set_option maxRecDepth 100000 in
theorem w_X11_run_0 {ex : sm_O} {d n : Nat} {y : sm_Y} {I : Nat → Nat → Int32} {L : Nat → Nat → Int64} {R : Nat → Nat → Option Nat} {Q : sm_Q} {w1 : Option Value} {w2 : Option Value} {w3 : Option Value} {d1 : Nat} (hG : sm_G y R) (h1 : d1 < d) (k : sm_W ex d1 0 0 139 0 [some (.ref 123), none, none] [] (n, y, I, sm_st (sm_st (sm_st (sm_st (sm_st L 142 1 ((I 125 4).toInt64)) 142 2 ((I 123 53).toInt64)) 142 3 ((I 123 54).toInt64)) 142 4 ((I 125 8).toInt64)) 142 5 ((I 125 9).toInt64), R) (fun r μ1 => sm_W ex d 0 0 230 73 [some (.ref 123), w1, w2, w3] (r.toList ++ [.int 6, .ref 142]) μ1 Q)) : sm_W ex d 0 0 230 0 [some (.ref 123), w1, w2, w3] [] (n, y, I, L, R) Q := sm_in (sm_in (And.intro (hG.1 123 (Nat.le_of_ble_eq_true rfl)) (sm_gfr rfl (hG.2 123 36 rfl) (sm_in (sm_in (sm_in (And.intro (hG.1 123 (Nat.le_of_ble_eq_true rfl)) (sm_gfr rfl (hG.2 123 3 rfl) (sm_in (sm_in (Exists.intro 5450 (And.intro (hG.1 125 (Nat.le_of_ble_eq_true rfl)) (And.intro (sm_lin (by decide)) (sm_in (sm_in (Exists.intro 13 (And.intro (hG.1 142 (Nat.le_of_ble_eq_true rfl)) (And.intro (sm_lin (by decide)) (sm_in (sm_in (And.intro (hG.1 123 (Nat.le_of_ble_eq_true rfl)) (sm_gfr rfl (hG.2 123 36 rfl) (sm_in (sm_in (sm_in (And.intro (hG.1 123 (Nat.le_of_ble_eq_true rfl)) (sm_in (sm_in (Exists.intro 13 (And.intro (hG.1 142 (Nat.le_of_ble_eq_true rfl)) (And.intro (sm_lin (by decide)) (sm_in (sm_in (And.intro (hG.1 123 (Nat.le_of_ble_eq_true rfl)) (sm_gfr rfl (hG.2 123 36 rfl) (sm_in (sm_in (sm_in (And.intro (hG.1 123 (Nat.le_of_ble_eq_true rfl)) (sm_in (sm_in (Exists.intro 13 (And.intro (hG.1 142 (Nat.le_of_ble_eq_true rfl)) (And.intro (sm_lin (by decide)) (sm_in (sm_in (And.intro (hG.1 123 (Nat.le_of_ble_eq_true rfl)) (sm_gfr rfl (hG.2 123 36 rfl) (sm_in (sm_in (sm_in (And.intro (hG.1 123 (Nat.le_of_ble_eq_true rfl)) (sm_gfr rfl (hG.2 123 3 rfl) (sm_in (sm_in (Exists.intro 5450 (And.intro (hG.1 125 (Nat.le_of_ble_eq_true rfl)) (And.intro (sm_lin (by decide)) (sm_in (sm_in (Exists.intro 13 (And.intro (hG.1 142 (Nat.le_of_ble_eq_true rfl)) (And.intro (sm_lin (by decide)) (sm_in (sm_in (And.intro (hG.1 123 (Nat.le_of_ble_eq_true rfl)) (sm_gfr rfl (hG.2 123 36 rfl) (sm_in (sm_in (sm_in (And.intro (hG.1 123 (Nat.le_of_ble_eq_true rfl)) (sm_gfr rfl (hG.2 123 3 rfl) (sm_in (sm_in (Exists.intro 5450 (And.intro (hG.1 125 (Nat.le_of_ble_eq_true rfl)) (And.intro (sm_lin (by decide)) (sm_in (sm_in (Exists.intro 13 (And.intro (hG.1 142 (Nat.le_of_ble_eq_true rfl)) (And.intro (sm_lin (by decide)) (sm_in (sm_in (And.intro (hG.1 123 (Nat.le_of_ble_eq_true rfl)) (sm_gfr rfl (hG.2 123 36 rfl) (sm_in (sm_in (sm_in (Exists.intro 11 (And.intro (hG.1 123 (Nat.le_of_ble_eq_true rfl)) (And.intro rfl (sm_calln h1 (Nat.le_of_ble_eq_true rfl) (Nat.le_of_ble_eq_true rfl) k)))))))))))))))))))))))))))))))))))))))))))))))))))))))))))))))))))))))))))))))))))))))))))))
set_option maxRecDepth 100000 in
theorem w_X11_run_73 {ex : sm_O} {d n : Nat} {y : sm_Y} {I : Nat → Nat → Int32} {L : Nat → Nat → Int64} {R : Nat → Nat → Option Nat} {Q : sm_Q} {w0 : Option Value} {w1 : Option Value} {w2 : Option Value} {w3 : Option Value} {s0 : Int32} {s1 : Int32} {d1 : Nat} (h1 : d1 < d) (k : sm_W ex d1 0 0 127 0 [some (.int s0), none, none] [] (n, y, I, L, R) (fun r μ1 => sm_W ex d 0 0 230 76 [w0, w1, w2, w3] (r.toList ++ [.int s1, .ref 142]) μ1 Q)) : sm_W ex d 0 0 230 73 [w0, w1, w2, w3] [.int s0, .int s1, .ref 142] (n, y, I, L, R) Q := sm_in (And.intro (Nat.le_of_ble_eq_true rfl) (sm_calln h1 (Nat.le_of_ble_eq_true rfl) (Nat.le_of_ble_eq_true rfl) k))
set_option maxRecDepth 100000 in
theorem w_X11_run_76 {ex : sm_O} {d n : Nat} {y : sm_Y} {I : Nat → Nat → Int32} {L : Nat → Nat → Int64} {R : Nat → Nat → Option Nat} {Q : sm_Q} {w2 : Option Value} {w3 : Option Value} {a1 : Int32} {s0 : Int32} {s1 : Int32} {d1 : Nat} (hG : sm_G y R) (h1 : d1 < d) (k : vp_in s1 13 ∧ vp_in (a1 + 5) 96 ∧ vp_in (a1 + 6) 96 ∧ (if (I 154 (a1 + 6).toNatClampNeg) ≤ (I 154 (a1 + 5).toNatClampNeg) then (sm_W ex d1 0 0 228 0 [some (.ref 123), some (.int (a1 + 1))] [] (n, y, sm_st I 123 56 0, sm_st L 142 s1.toNatClampNeg s0.toInt64, R) (fun r μ1 => sm_W ex d 0 0 230 131 [some (.ref 123), some (.int a1), w2, w3] (r.toList ++ []) μ1 Q)) else (sm_W ex d1 0 0 228 0 [some (.ref 123), some (.int (a1 + 5))] [] (n, y, sm_st I 123 56 0, sm_st L 142 s1.toNatClampNeg s0.toInt64, R) (fun r μ1 => sm_W ex d 0 0 230 110 [some (.ref 123), some (.int a1), w2, w3] (r.toList ++ []) μ1 Q)))) : sm_W ex d 0 0 230 76 [some (.ref 123), some (.int a1), w2, w3] [.int s0, .int s1, .ref 142] (n, y, I, L, R) Q := sm_in ((have e1 := k.1; have k1 := k.2; sm_in (Exists.intro 13 (And.intro (hG.1 142 (Nat.le_of_ble_eq_true rfl)) (And.intro e1 (sm_in (sm_in (sm_in (And.intro (hG.1 123 (Nat.le_of_ble_eq_true rfl)) (And.intro (Or.inl rfl) (sm_in (sm_in (And.intro (hG.1 123 (Nat.le_of_ble_eq_true rfl)) (sm_gfr rfl (hG.2 123 52 rfl) (sm_in (sm_in (sm_in ((have e2 := k1.1; have k2 := k1.2; sm_in (Exists.intro 96 (And.intro (hG.1 154 (Nat.le_of_ble_eq_true rfl)) (And.intro e2 (sm_in (sm_in (And.intro (hG.1 123 (Nat.le_of_ble_eq_true rfl)) (sm_gfr rfl (hG.2 123 52 rfl) (sm_in (sm_in (sm_in ((have e3 := k2.1; have k3 := k2.2; sm_in (Exists.intro 96 (And.intro (hG.1 154 (Nat.le_of_ble_eq_true rfl)) (And.intro e3 (sm_in (And.intro (fun c4 => have k4t := Eq.mp (if_pos c4) k3; sm_in (sm_in (sm_in (sm_in (sm_in (Exists.intro 11 (And.intro (hG.1 123 (Nat.le_of_ble_eq_true rfl)) (And.intro rfl (sm_calln h1 (Nat.le_of_ble_eq_true rfl) (Nat.le_of_ble_eq_true rfl) k4t))))))))) (fun c4 => have k4f := Eq.mp (if_neg c4) k3; sm_in (sm_in (sm_in (sm_in (sm_in (Exists.intro 11 (And.intro (hG.1 123 (Nat.le_of_ble_eq_true rfl)) (And.intro rfl (sm_calln h1 (Nat.le_of_ble_eq_true rfl) (Nat.le_of_ble_eq_true rfl) k4f)))))))))))))))))))))))))))))))))))))))))))))
set_option maxRecDepth 100000 in
theorem w_X11_run_110 {ex : sm_O} {d n : Nat} {y : sm_Y} {I : Nat → Nat → Int32} {L : Nat → Nat → Int64} {R : Nat → Nat → Option Nat} {Q : sm_Q} {w2 : Option Value} {w3 : Option Value} {a1 : Int32} {s0 : Int32} {d1 : Nat} (hG : sm_G y R) (h1 : d1 < d) (k : if (I 123 56) = 0 then (if s0 = 0 then (Q (some (.int 0)) (n, y, I, L, R)) else (sm_W ex d1 0 0 228 0 [some (.ref 123), some (.int (a1 + 1))] [] (n, y, I, L, R) (fun r μ1 => sm_W ex d 0 0 230 131 [some (.ref 123), some (.int a1), some (.int s0), w3] (r.toList ++ []) μ1 Q))) else (Q (some (.int 0)) (n, y, I, L, R))) : sm_W ex d 0 0 230 110 [some (.ref 123), some (.int a1), w2, w3] [.int s0] (n, y, I, L, R) Q := sm_in (And.intro (Nat.le_of_ble_eq_true rfl) (sm_in (sm_in (And.intro (hG.1 123 (Nat.le_of_ble_eq_true rfl)) (sm_in (And.intro (fun c1 => have k1f := Eq.mp (if_neg c1) k; sm_in (sm_in (And.intro rfl k1f))) (fun c1 => have k1t := Eq.mp (if_pos c1) k; sm_in (sm_in (And.intro (fun c2 => have k2f := Eq.mp (if_neg c2) k1t; sm_in (sm_in (sm_in (sm_in (sm_in (Exists.intro 11 (And.intro (hG.1 123 (Nat.le_of_ble_eq_true rfl)) (And.intro rfl (sm_calln h1 (Nat.le_of_ble_eq_true rfl) (Nat.le_of_ble_eq_true rfl) k2f))))))))) (fun c2 => have k2t := Eq.mp (if_pos c2) k1t; sm_in (sm_in (And.intro rfl k2t))))))))))))
set_option maxRecDepth 100000 in
theorem w_X11_run_131 {ex : sm_O} {d n : Nat} {y : sm_Y} {I : Nat → Nat → Int32} {L : Nat → Nat → Int64} {R : Nat → Nat → Option Nat} {Q : sm_Q} {w2 : Option Value} {w3 : Option Value} {a1 : Int32} {s0 : Int32} {d1 : Nat} (hG : sm_G y R) (h1 : d1 < d) (k : if (I 123 56) = 0 then (vp_in a1 96 ∧ sm_W ex d1 0 0 229 0 [some (.ref 123), some (.int (I 154 a1.toNatClampNeg)), some (.int s0)] [] (n, y, I, L, R) (fun r μ1 => sm_W ex d 0 0 230 153 [some (.ref 123), some (.int a1), some (.int s0), w3] (r.toList ++ []) μ1 Q)) else (Q (some (.int (-3))) (n, y, I, L, R))) : sm_W ex d 0 0 230 131 [some (.ref 123), some (.int a1), w2, w3] [.int s0] (n, y, I, L, R) Q := sm_in (And.intro (Nat.le_of_ble_eq_true rfl) (sm_in (sm_in (And.intro (hG.1 123 (Nat.le_of_ble_eq_true rfl)) (sm_in (And.intro (fun c1 => have k1t := Eq.mp (if_pos c1) k; sm_in (sm_in (sm_in (And.intro (hG.1 123 (Nat.le_of_ble_eq_true rfl)) (sm_gfr rfl (hG.2 123 52 rfl) (sm_in ((have e2 := k1t.1; have k2 := k1t.2; sm_in (Exists.intro 96 (And.intro (hG.1 154 (Nat.le_of_ble_eq_true rfl)) (And.intro e2 (sm_in (sm_in (Exists.intro 11 (And.intro (hG.1 123 (Nat.le_of_ble_eq_true rfl)) (And.intro rfl (sm_calln h1 (Nat.le_of_ble_eq_true rfl) (Nat.le_of_ble_eq_true rfl) k2))))))))))))))))) (fun c1 => have k1f := Eq.mp (if_neg c1) k; sm_in (sm_in (And.intro rfl k1f)))))))))
set_option maxRecDepth 100000 in
theorem w_X11_run_153 {ex : sm_O} {d n : Nat} {y : sm_Y} {I : Nat → Nat → Int32} {L : Nat → Nat → Int64} {R : Nat → Nat → Option Nat} {Q : sm_Q} {w3 : Option Value} {a1 : Int32} {a2 : Int32} {s0 : Int32} (hG : sm_G y R) (k : if 0 ≤ s0 then (vp_in a1 96 ∧ (if (I 154 a1.toNatClampNeg) = 0 then (Q (some (.int 0)) (n, y, sm_st (sm_st I 123 54 s0) 123 53 ((I 123 53) + 1), L, R)) else (Q (some (.int 0)) (n, y, sm_st (sm_st I 123 54 (I 123 54)) 123 53 ((I 123 53) + 1), L, R)))) else (Q (some (.int (-3))) (n, y, I, L, R))) : sm_W ex d 0 0 230 153 [some (.ref 123), some (.int a1), some (.int a2), w3] [.int s0] (n, y, I, L, R) Q := sm_in (And.intro (Nat.le_of_ble_eq_true rfl) (sm_in (sm_in (And.intro (fun c1 => have k1t := Eq.mp (if_pos c1) k; sm_in (sm_in (sm_in (And.intro (hG.1 123 (Nat.le_of_ble_eq_true rfl)) (sm_gfr rfl (hG.2 123 52 rfl) (sm_in ((have e2 := k1t.1; have k2 := k1t.2; sm_in (Exists.intro 96 (And.intro (hG.1 154 (Nat.le_of_ble_eq_true rfl)) (And.intro e2 (sm_in (And.intro (fun c3 => have k3f := Eq.mp (if_neg c3) k2; sm_in (sm_in (And.intro (hG.1 123 (Nat.le_of_ble_eq_true rfl)) (sm_in (And.intro (hG.1 123 (Nat.le_of_ble_eq_true rfl)) (sm_in (sm_in (And.intro rfl (sm_in (And.intro (hG.1 123 (Nat.le_of_ble_eq_true rfl)) (sm_in (sm_in (sm_in (And.intro (hG.1 123 (Nat.le_of_ble_eq_true rfl)) (sm_in (sm_in (And.intro rfl k3f))))))))))))))))) (fun c3 => have k3t := Eq.mp (if_pos c3) k2; sm_in (sm_in (sm_in (And.intro (hG.1 123 (Nat.le_of_ble_eq_true rfl)) (sm_in (sm_in (And.intro rfl (sm_in (And.intro (hG.1 123 (Nat.le_of_ble_eq_true rfl)) (sm_in (sm_in (sm_in (And.intro (hG.1 123 (Nat.le_of_ble_eq_true rfl)) (sm_in (sm_in (And.intro rfl k3t))))))))))))))))))))))))))))) (fun c1 => have k1f := Eq.mp (if_neg c1) k; sm_in (sm_in (And.intro rfl k1f)))))))
-- ORDERS: the model runs one
def mWo (lf : Int32 → Int32 → Int64) (i : Nat) : Int := if i < 6 then (lf (nI (i + 1)) 0).toInt else if i < 13 then (lf 7 (nI (i - 6))).toInt else 0
def mDo (D : DD) : (Int32 → Int32 → Int64) → Option Int64 := fun lf => (D (mWo lf)).map Int64.ofInt
def cdO (I : Nat → Nat → Int32) (k : Nat) : Int32 × Int32 := (I 134 k, I 135 k)
def mOc (I : Nat → Nat → Int32) (A : Nat) (x : OC) : Prop := ∃ a a' t t' : Nat, I 154 A = nI x.1.1 ∧ x.1.1 ≤ 3 ∧ I 154 (A + 1) = nI a ∧ I 154 (A + 2) = nI a' ∧ I 154 (A + 5) = nI t ∧ I 154 (A + 6) = nI t' ∧ a' ≤ 400 ∧ t' ≤ 400 ∧ a ≤ a' ∧ t ≤ t' ∧ (x.1.1 ≠ 3 → a < a' ∧ sp_inB x.1.2.1 ∧ mSeg (cdO I) a a' (mDo x.1.2.1)) ∧ (x.1.1 = 3 → a' = a) ∧ (match x.1.2.2 with
  | none => t' = t
  | some T => t < t' ∧ sp_in T ∧ mSeg (cdO I) t t' (mDo T)) ∧ I 154 (A + 7) = nI x.2 ∧ x.2 ≤ 20
def mOrd (I : Nat → Nat → Int32) (l : List OC) : Prop := I 123 21 = nI l.length ∧ l.length ≤ 12 ∧ ∀ (c : Nat) (x : OC), l[c]? = some x → mOc I (8 * c) x
theorem mOc_kept {I I' : Nat → Nat → Int32} {A : Nat} {x : OC} (h : ∀ a j, a = 134 ∨ a = 135 ∨ a = 154 → I' a j = I a j) (hx : mOc I A x) : mOc I' A x := by
  have e1 : ∀ j, I' 154 j = I 154 j := fun j => h 154 j (by omega)
  have e2 : cdO I' = cdO I := by
    funext k
    unfold cdO
    rw [h 134 k (by omega), h 135 k (by omega)]
  unfold mOc
  simp only [e1, e2]
  exact hx
theorem mOrd_kept {I I' : Nat → Nat → Int32} {l : List OC} (h : ∀ a j, a = 134 ∨ a = 135 ∨ a = 154 ∨ (a = 123 ∧ j = 21) → I' a j = I a j) (hl : mOrd I l) : mOrd I' l := ⟨by rw [h 123 21 (by omega)]; exact hl.1, hl.2.1, fun c x hx => mOc_kept (fun a j q => h a j (by omega)) (hl.2.2 c x hx)⟩
theorem ofI_toInt {v : Int} (h : -1000000000 ≤ v ∧ v ≤ 1000000000) : (Int32.ofInt v).toInt = v := Int32.toInt_ofInt_of_le (by omega) (by omega)
theorem ofI_0 {v : Int} (h : -1000000000 ≤ v ∧ v ≤ 1000000000) : Int32.ofInt v = 0 ↔ v = 0 := by
  rw [← Int32.toInt_inj, ofI_toInt h]
  exact Iff.rfl
theorem ofI_l {v : Int} : (Int64.ofInt v).toInt32 = Int32.ofInt v := Int64.toInt32_ofInt
def oE (I : Nat → Nat → Int32) (L : Nat → Nat → Int64) (env : Nat → Int) : Prop := ∀ I' L', (∀ j, I' 125 j = I 125 j) → (∀ j, L' 142 j = L 142 j) → I' 123 20 = 1 → mWo (mLf I' L') = env
theorem c_X11_sumOf {ex : sm_O} {n : Nat} {y : sm_Y} {I : Nat → Nat → Int32} {L : Nat → Nat → Int64} {R : Nat → Nat → Option Nat} {Q : sm_Q} {d A a a' : Nat} {D : DD} {env : Nat → Int} (hd : 3 ≤ d) (hG : sm_G y R) (hA : A + 1 < 96) (h56 : I 123 56 = 0) (hm : ∃ m, m ≤ 7 ∧ I 125 0 = nI m) (h1 : I 154 A = nI a) (h2 : I 154 (A + 1) = nI a') (h3 : a < a') (h4 : a' ≤ 400) (hs : mSeg (cdO I) a a' (mDo D)) (he : oE I L env)
    (k : ∀ (I' : Nat → Nat → Int32) (L' : Nat → Nat → Int64) (x : Int32), (∀ a j, ¬ (a = 123 ∧ (j = 38 ∨ j = 20 ∨ j = 56)) → I' a j = I a j) → (∀ a j, a ≠ 143 → ¬ (a = 123 ∧ (j = 39 ∨ j = 40)) → L' a j = L a j) → I' 123 20 = 0 → (match D env with
      | some v => I' 123 56 = 0 ∧ x = Int32.ofInt v
      | none => I' 123 56 = 1) → Q (some (.int x)) (n, y, I', L', R)) : sm_W ex d 0 0 228 0 [some (.ref 123), some (.int (nI A))] [] (n, y, I, L, R) Q := by
  refine w_X11_sumOf_0 (d1 := 2) hG (by omega) ?_
  rw [h56, if_pos rfl, sm_n1, nI_clamp (by omega), nI_clamp (by omega), h1, h2]
  refine ⟨vp_in_nI (by omega) (by decide), vp_in_nI (by omega) (by decide), ?_⟩
  rw [if_neg (by rw [nI_eq (by omega) (by omega)]; omega)]
  have e20 : sm_st I 123 20 1 123 20 = 1 := sm_st_s _ _ _ _
  have ecd : mCd (sm_st I 123 20 1) = cdO I := by
    funext k
    unfold mCd cdO
    rw [e20, if_neg (show ¬ (1 : Int32) = 0 by decide), sm_st_o _ _ (by decide), sm_st_o _ _ (by decide)]
  refine c_X11_reckonAll (B := 0) (Nat.le_refl 2) hG h4 (by decide) (fun h => by rw [e20] at h; exact absurd h (by decide)) (by rw [sm_st_o _ _ (by decide)]; exact hm) (by rw [ecd]; exact hs) ?_
  intro I1 L1 f1 v1
  refine w_X11_sumOf_49 hG ?_
  have hev : mWo (mLf (sm_st I 123 20 1) L) = env := he _ L (fun j => sm_st_o _ _ (by decide)) (fun _ => rfl) e20
  have hDe : mDo D (mLf (sm_st I 123 20 1) L) = (D env).map Int64.ofInt := by
    unfold mDo
    rw [hev]
  rw [hDe] at v1
  have fr : ∀ v a j, ¬ (a = 123 ∧ (j = 38 ∨ j = 20 ∨ j = 56)) → sm_st (sm_st I1 123 20 0) 123 56 v a j = I a j := fun v a j q => by
    rw [sm_st_or _ _ (by omega), sm_st_or _ _ (by omega), f1.1 a j (by omega), sm_st_or _ _ (by omega)]
  have z20 : ∀ v, sm_st (sm_st I1 123 20 0) 123 56 v 123 20 = 0 := fun v => by rw [sm_st_j _ _ (by decide), sm_st_s]
  cases hD : D env with
  | none =>
    rw [hD] at v1
    have e : I1 123 38 = 1 := v1
    refine ⟨Or.inr e, k _ _ _ (fr _) (fun a j q1 q2 => f1.2 a j q1 q2) (z20 _) ?_⟩
    rw [hD]
    show sm_st (sm_st I1 123 20 0) 123 56 (I1 123 38) 123 56 = 1
    rw [sm_st_s]
    exact e
  | some v =>
    rw [hD] at v1
    have e : I1 123 38 = 0 ∧ L1 123 39 = Int64.ofInt v := v1
    refine ⟨Or.inl e.1, k _ _ _ (fr _) (fun a j q1 q2 => f1.2 a j q1 q2) (z20 _) ?_⟩
    rw [hD]
    exact ⟨by rw [sm_st_s]; exact e.1, by rw [e.2]; exact ofI_l⟩
theorem c_X11_act {ex : sm_O} {n : Nat} {y : sm_Y} {I : Nat → Nat → Int32} {L : Nat → Nat → Int64} {R : Nat → Nat → Option Nat} {Q : sm_Q} {d k : Nat} {a : Int32} {s : St} {u : List (Nat × St)} {F : Option (Nat × Law)} (hd : 9 ≤ d) (hG : sm_G y R) (hs : mS s (I 125)) (hw : wS s) (hu : mU u I) (hwu : wU s u) (h20 : I 123 20 = 0) (hF : mForce I F) (hk : k ≤ 3) (kk : mAct n y I L R F s u k a Q) : sm_W ex d 0 0 229 0 [some (.ref 123), some (.int (nI k)), some (.int a)] [] (n, y, I, L, R) Q := by
  have e : (nI k).toInt = k := nI_toInt (by omega)
  refine w_X11_act_0 (d1 := 8) hG (by omega) ?_
  rw [e]
  refine ⟨fun h => ?_, fun h => ?_, fun h => ?_, fun h => ?_⟩
  · obtain rfl : k = 3 := by omega
    exact c_X11_passNow (a := a) (Nat.le_refl 8) hG hs hw hu hwu h20 hF (fun I' L' f s' u' => w_X11_act_50 (kk I' L' f s' u'))
  · obtain rfl : k = 0 := by omega
    exact c_X11_relieveNow (Nat.le_refl 8) hG hs hw hu hwu h20 hF (fun I' L' f s' u' => w_X11_act_33 (kk I' L' f s' u'))
  · obtain rfl : k = 1 := by omega
    exact c_X11_sneezeNow (F := F) (Nat.le_refl 8) hG hs hw hu hwu (fun I' L' f s' u' => w_X11_act_39 (kk I' L' f s' u'))
  · obtain rfl : k = 2 := by omega
    exact c_X11_pardonNow (F := F) (Nat.le_refl 8) hG hs hw hu hwu (fun I' L' f s' u' => w_X11_act_45 (kk I' L' f s' u'))

def mRf (I I' : Nat → Nat → Int32) (L L' : Nat → Nat → Int64) : Prop := (∀ a j, ¬ (a = 123 ∧ (j = 38 ∨ j = 34 ∨ j = 8 ∨ j = 20 ∨ j = 56 ∨ j = 53 ∨ j = 54)) → a ≠ 144 → ¬ (a = 125 ∧ 4 ≤ j ∧ j < 24) → a ≠ 129 → ¬ (a = 128 ∧ j < 320) → I' a j = I a j) ∧ (∀ a j, a ≠ 143 → a ≠ 141 → a ≠ 142 → ¬ (a = 123 ∧ (j = 39 ∨ j = 40)) → L' a j = L a j) ∧ I' 123 20 = 0
theorem mRf.trans {I I' I2 : Nat → Nat → Int32} {L L' L2 : Nat → Nat → Int64} (h1 : mRf I I' L L') (h2 : mRf I' I2 L' L2) : mRf I I2 L L2 := ⟨fun a j q1 q2 q3 q4 q5 => (h2.1 a j q1 q2 q3 q4 q5).trans (h1.1 a j q1 q2 q3 q4 q5), fun a j q1 q2 q3 q4 => (h2.2.1 a j q1 q2 q3 q4).trans (h1.2.1 a j q1 q2 q3 q4), h2.2.2⟩
theorem sp_up_l {o : Option Nat} (h : ∀ r, o = some r → r ≤ 99) : (sp_up o).toInt64.toInt = sp_otherI o := by
  cases o with
  | none => rfl
  | some q =>
    have := h q rfl
    exact sm_ni64 (by omega)
theorem oE_of {I : Nat → Nat → Int32} {L : Nat → Nat → Int64} {s : St} {dn : Nat} {la : Option Nat} (hs : mS s (I 125)) (hw : wS s) (hdn : dn ≤ 500) (hla : ∀ r, la = some r → r ≤ 99) (l1 : L 142 1 = (nI (sTerm s 0)).toInt64) (l2 : L 142 2 = (nI dn).toInt64) (l3 : L 142 3 = (sp_up la).toInt64) (l4 : L 142 4 = (sp_up (sUp s)).toInt64) (l5 : L 142 5 = (nI (sHeld s)).toInt64) (l6 : L 142 6 = (nI (sp_fit s)).toInt64) : oE I L (oenv s dn la) := by
  intro I' L' e125 e142 e20
  have hok := hw.1
  have h7 := hok.1
  have hfit := sp_fit_le s
  have hlf : ∀ i, i < 6 → mLf I' L' (nI (i + 1)) 0 = L 142 (i + 1) := fun i hi => by
    unfold mLf
    rw [e20, if_neg (show ¬ (1 : Int32) = 0 by decide), if_neg (by rw [sm_of 7, nI_leI (by decide) (by omega)]; omega), nI_clamp (by omega)]
    exact e142 (i + 1)
  have hl7 : ∀ m, m < 7 → mLf I' L' 7 (nI m) = if m < sMen s then (nI (sTired s m)).toInt64 else -1 := fun m hm => by
    unfold mLf
    rw [e20, if_neg (show ¬ (1 : Int32) = 0 by decide), if_pos (show (7 : Int32) ≤ 7 by decide), e125 0, hs.1]
    by_cases e : m < sMen s
    · rw [if_pos ⟨nI_pos' (by omega), (nI_ltI (by omega) (by omega)).mpr e⟩, if_pos e, show (10 : Int32) + nI m = nI (10 + m) by rw [show (10 : Int32) = nI 10 from rfl, nI_add], nI_clamp (by omega), e125, (hs.2.1 m e).2.2.1]
    · rw [if_neg (fun z => e ((nI_ltI (by omega) (by omega)).mp z.2)), if_neg e]
  funext i
  unfold mWo oenv
  by_cases e6 : i < 6
  · rw [if_pos e6, hlf i e6]
    have : i = 0 ∨ i = 1 ∨ i = 2 ∨ i = 3 ∨ i = 4 ∨ i = 5 := by omega
    rcases this with rfl | rfl | rfl | rfl | rfl | rfl
    · rw [if_pos rfl, l1]; exact sm_ni64 (by have := hw.2.1; omega)
    · rw [if_neg (by decide), if_pos rfl, l2]; exact sm_ni64 (by omega)
    · rw [if_neg (by decide), if_neg (by decide), if_pos rfl, l3]; exact sp_up_l hla
    · rw [if_neg (by decide), if_neg (by decide), if_neg (by decide), if_pos rfl, l4]; exact sp_up_l (fun r hr => by have := hok.2.2.1 r hr; omega)
    · rw [if_neg (by decide), if_neg (by decide), if_neg (by decide), if_neg (by decide), if_pos rfl, l5]; exact sm_ni64 (by have := hok.2.2.2.1; omega)
    · rw [if_neg (by decide), if_neg (by decide), if_neg (by decide), if_neg (by decide), if_neg (by decide), if_pos rfl, l6]; exact sm_ni64 (by omega)
  · rw [if_neg e6, if_neg (show ¬ i = 0 by omega), if_neg (show ¬ i = 1 by omega), if_neg (show ¬ i = 2 by omega), if_neg (show ¬ i = 3 by omega), if_neg (show ¬ i = 4 by omega), if_neg (show ¬ i = 5 by omega)]
    by_cases e13 : i < 13
    · rw [if_pos e13, if_pos e13, hl7 (i - 6) (by omega)]
      by_cases e : i - 6 < sMen s
      · rw [if_pos e, if_pos e]
        exact sm_ni64 (by have := (hok.2.1 (i - 6) e).2.2.2; omega)
      · rw [if_neg e, if_neg e]
        rfl
    · rw [if_neg e13, if_neg e13]
set_option maxHeartbeats 1000000 in
theorem c_X11_run {ex : sm_O} {n : Nat} {y : sm_Y} {I : Nat → Nat → Int32} {L : Nat → Nat → Int64} {R : Nat → Nat → Option Nat} {Q : sm_Q} {d b c : Nat} {w2 w3 : Option Value} {s0 : St} {F : Option (Nat × Law)} {l : List OC} {x : OC} {z : ZZ} (hd : 10 ≤ d) (hG : sm_G y R) (hs : mS z.1 (I 125)) (hu : mU z.2.1 I) (hz : wZ s0 b z) (hb : b ≤ 500) (hF : mForce I F) (h20 : I 123 20 = 0) (hl : mOrd I l) (hx : l[c]? = some x) (h7 : I 123 53 = nI z.2.2.1) (h8 : I 123 54 = sp_up z.2.2.2)
    (k0 : or_one F x.1 z = none → ∀ I' L', mRf I I' L L' → Q (some (.int (-3))) (n, y, I', L', R))
    (k1 : ∀ z', or_one F x.1 z = some z' → ∀ I' L', mRf I I' L L' → mS z'.1 (I' 125) → mU z'.2.1 I' → mForce I' F → I' 123 53 = nI z'.2.2.1 → I' 123 54 = sp_up z'.2.2.2 → Q (some (.int 0)) (n, y, I', L', R)) : sm_W ex d 0 0 230 0 [some (.ref 123), some (.int (nI (8 * c))), w2, w3] [] (n, y, I, L, R) Q := by
  obtain ⟨hw1, hw2, hw3, hw4, hw5⟩ := hz
  have hok := hw1.1
  have h7' := hok.1
  have hc12 : c < 12 := by
    have := (List.getElem?_eq_some_iff.mp hx).1
    have := hl.2.1
    omega
  have hxc := hl.2.2 c x hx
  obtain ⟨a, a', t, t', m1, m2, m3, m4, m5, m6, m7, m8, m9, m10, m11, m12, m13, m14, m15⟩ := id hxc
  have hcl : (nI (8 * c)).toNatClampNeg = 8 * c := nI_clamp (by omega)
  have hu7 : ∀ y ∈ z.2.1, sMen y.2 ≤ 7 := fun y hy => (hw2.2 y hy).2.1.1.1
  have hv96 : vp_in (nI (8 * c)) 96 := vp_in_nI (by omega) (by decide)
  refine w_X11_run_0 (d1 := 9) hG (by omega) ?_
  refine c_X11_fitBits (s := z.1) (by omega) hG hs h7' ?_
  refine w_X11_run_73 (d1 := 9) (by omega) ?_
  refine c_X11_many h7' ?_
  refine w_X11_run_76 (d1 := 9) hG (by omega) ?_
  rw [show (6 : Int32).toNatClampNeg = 6 from rfl]
  have i5 : nI (8 * c) + 5 = nI (8 * c + 5) := nI_add (8 * c) 5
  have i6 : nI (8 * c) + 6 = nI (8 * c + 6) := nI_add (8 * c) 6
  have i1 : nI (8 * c) + 1 = nI (8 * c + 1) := nI_add (8 * c) 1
  rw [i5, i6, i1, nI_clamp (by omega), nI_clamp (by omega), m5, m6]
  refine ⟨sm_lin (by decide), vp_in_nI (by omega) (by decide), vp_in_nI (by omega) (by decide), ?_⟩
  generalize hI1 : sm_st I 123 56 0 = I1
  have f1 : ∀ a j, ¬ (a = 123 ∧ j = 56) → I1 a j = I a j := fun a j q => by rw [← hI1]; exact sm_st_or _ _ (by omega)
  have z56 : I1 123 56 = 0 := by rw [← hI1, sm_st_s]
  have z20 : I1 123 20 = 0 := (f1 123 20 (by omega)).trans h20
  have e125 : I1 125 = I 125 := funext (fun j => f1 125 j (by omega))
  generalize hL1 : sm_st _ 142 6 _ = L1
  have fL : ∀ a j, a ≠ 142 → L1 a j = L a j := fun a j q => by rw [← hL1]; (repeat (refine (sm_st_or _ _ (by omega)).trans ?_)); rfl
  have v1 : L1 142 1 = (nI (sTerm z.1 0)).toInt64 := by rw [← hL1]; (repeat (refine (sm_st_or _ _ (by omega)).trans ?_)); rw [sm_st_s]; exact congrArg Int32.toInt64 (hs.2.2.2.2 0 (by decide))
  have v2 : L1 142 2 = (nI z.2.2.1).toInt64 := by rw [← hL1]; (repeat (refine (sm_st_or _ _ (by omega)).trans ?_)); rw [sm_st_s, h7]
  have v3 : L1 142 3 = (sp_up z.2.2.2).toInt64 := by rw [← hL1]; (repeat (refine (sm_st_or _ _ (by omega)).trans ?_)); rw [sm_st_s, h8]
  have v4 : L1 142 4 = (sp_up (sUp z.1)).toInt64 := by rw [← hL1]; (repeat (refine (sm_st_or _ _ (by omega)).trans ?_)); rw [sm_st_s, hs.2.2.1]
  have v5 : L1 142 5 = (nI (sHeld z.1)).toInt64 := by rw [← hL1]; (repeat (refine (sm_st_or _ _ (by omega)).trans ?_)); rw [sm_st_s, hs.2.2.2.1]
  have v6 : L1 142 6 = (nI (sp_fit z.1)).toInt64 := by rw [← hL1]; exact sm_st_s _ _ _ _
  have oe1 : oE I1 L1 (oenv z.1 z.2.2.1 z.2.2.2) := oE_of (by rw [e125]; exact hs) hw1 (by omega) hw5 v1 v2 v3 v4 v5 v6
  generalize hen : oenv z.1 z.2.2.1 z.2.2.2 = env at oe1
  -- the act
  have act : ∀ (I3 : Nat → Nat → Int32) (L3 : Nat → Nat → Int64) (v : Int) (w2 : Option Value), (∀ a j, ¬ (a = 123 ∧ (j = 38 ∨ j = 20 ∨ j = 56)) → I3 a j = I a j) → (∀ a j, a ≠ 143 → a ≠ 142 → ¬ (a = 123 ∧ (j = 39 ∨ j = 40)) → L3 a j = L a j) → I3 123 20 = 0 → I3 123 56 = 0 → sp_tb x.1.2.2 env = true → or_sum x.1 env = some v → sm_W ex d 0 0 230 131 [some (.ref 123), some (.int (nI (8 * c))), w2, w3] [.int (Int32.ofInt v)] (n, y, I3, L3, R) Q := by
    intro I3 L3 v w2 f3 g3 h320 h356 htb hsum
    have hone : or_one F x.1 z = or_do F x.1.1 v z := by
      unfold or_one
      rw [hen, if_pos htb, hsum]
      rfl
    have e3 : I3 125 = I 125 := funext (fun j => f3 125 j (by omega))
    refine w_X11_run_131 (d1 := 9) hG (by omega) ?_
    rw [if_pos h356, hcl, f3 154 _ (by omega), m1]
    refine ⟨hv96, ?_⟩
    refine c_X11_act (F := F) (s := z.1) (u := z.2.1) (Nat.le_refl 9) hG (by rw [e3]; exact hs) hw1 (mU_ext2 hw2.1 hu7 (fun a j q => f3 a j (by omega)) hu) hw2 h320 (mForce_r (fun j _ => f3 125 j (by omega)) hF) m2 ?_
    intro I4 L4 f4 s4 u4
    have fr4 : ∀ a j, ¬ (a = 123 ∧ (j = 38 ∨ j = 34 ∨ j = 8 ∨ j = 20 ∨ j = 56)) → a ≠ 144 → ¬ (a = 125 ∧ 4 ≤ j ∧ j < 24) → a ≠ 129 → ¬ (a = 128 ∧ j < 320) → I4 a j = I a j := fun a j q1 q2 q3 q4 q5 => (f4.1 a j (by omega) q2 q3 q4 q5).trans (f3 a j (by omega))
    have gr4 : ∀ a j, a ≠ 143 → a ≠ 141 → a ≠ 142 → ¬ (a = 123 ∧ (j = 39 ∨ j = 40)) → L4 a j = L a j := fun a j q1 q2 q3 q4 => (f4.2 a j q1 q2 q4).trans (g3 a j q1 q3 q4)
    have h420 : I4 123 20 = 0 := (f4.1 123 20 (by omega) (by omega) (by omega) (by omega) (by omega)).trans h320
    have F4 : mForce I4 F := mForce_r (fun j hj => fr4 125 j (by omega) (by omega) (fun q => hj q.2) (by omega) (by omega)) hF
    refine w_X11_run_153 hG ?_
    unfold or_do at hone
    have hr := sp_act_r (F := F) (u := z.2.1) x.1.1 (Int32.ofInt v) h7'
    generalize hact : sp_act F z.1 z.2.1 x.1.1 (Int32.ofInt v) = r at hone hr s4 u4 ⊢
    by_cases hn : r.1 < 0
    · rw [if_pos hn] at hone
      rw [if_neg (Int32.not_le.mpr hn)]
      exact k0 hone I4 L4 ⟨fun a j q1 q2 q3 q4 q5 => fr4 a j (by omega) q2 q3 q4 q5, gr4, h420⟩
    · rw [if_neg hn] at hone
      rw [if_pos (Int32.not_lt.mp hn), hcl, show I4 154 (8 * c) = nI x.1.1 from (fr4 154 _ (by omega) (by omega) (by omega) (by omega) (by omega)).trans m1]
      refine ⟨hv96, ?_⟩
      have e7 : I4 123 53 = nI z.2.2.1 := (fr4 123 53 (by omega) (by omega) (by omega) (by omega) (by omega)).trans h7
      have e8 : I4 123 54 = sp_up z.2.2.2 := (fr4 123 54 (by omega) (by omega) (by omega) (by omega) (by omega)).trans h8
      have hr2 : r.1 = nI r.1.toNatClampNeg := by
        rcases hr with (q | q) | ⟨t, t1, t2⟩
        · rw [q] at hn
          exact absurd (show (-2 : Int32) < 0 by decide) hn
        · rw [q] at hn
          exact absurd (show (-3 : Int32) < 0 by decide) hn
        · rw [t2, nI_clamp (by omega)]
      have f0 : nI x.1.1 = 0 ↔ x.1.1 = 0 := nI_eq (b := 0) (by omega) (by decide)
      simp only [f0]
      rw [e7, sm_n1, e8]
      have fin : ∀ w : Int32, ∀ z' : ZZ, or_one F x.1 z = some z' → z'.1 = r.2.1 → z'.2.1 = r.2.2 → z'.2.2.1 = z.2.2.1 + 1 → w = sp_up z'.2.2.2 → Q (some (.int 0)) (n, y, sm_st (sm_st I4 123 54 w) 123 53 (nI (z.2.2.1 + 1)), L4, R) := fun w z' hz' z1 z2 z3 z4 => by
        have f5 : ∀ a j, ¬ (a = 123 ∧ (j = 53 ∨ j = 54)) → sm_st (sm_st I4 123 54 w) 123 53 (nI (z.2.2.1 + 1)) a j = I4 a j := fun a j q => by rw [sm_st_or _ _ (by omega), sm_st_or _ _ (by omega)]
        have e5 : sm_st (sm_st I4 123 54 w) 123 53 (nI (z.2.2.1 + 1)) 125 = I4 125 := funext (fun j => f5 125 j (by omega))
        refine k1 z' hz' _ L4 ⟨fun a j q1 q2 q3 q4 q5 => (f5 a j (by omega)).trans (fr4 a j (by omega) q2 q3 q4 q5), gr4, (f5 123 20 (by omega)).trans h420⟩ ?_ ?_ ?_ ?_ ?_
        · rw [e5, z1]; exact s4
        · rw [z2]
          have hwz := (sp_act_w (F := F) x.1.1 (Int32.ofInt v) hw1 hw2).2.1
          rw [hact] at hwz
          exact mU_ext2 hwz.1 (fun y hy => (hwz.2 y hy).2.1.1.1) (fun a j q => f5 a j (by omega)) u4
        · exact mForce_r (fun j hj => f5 125 j (by omega)) F4
        · rw [sm_st_s, z3]
        · rw [sm_st_j _ _ (by decide), sm_st_s]
          exact z4
      by_cases hk0 : x.1.1 = 0
      · rw [if_pos hk0]
        rw [if_pos hk0] at hone
        exact fin _ _ hone rfl rfl rfl hr2
      · rw [if_neg hk0]
        rw [if_neg hk0] at hone
        exact fin _ _ hone rfl rfl rfl rfl
  -- the sum
  have sum : ∀ (I2 : Nat → Nat → Int32) (L2 : Nat → Nat → Int64) (w2 : Option Value), (∀ a j, ¬ (a = 123 ∧ (j = 38 ∨ j = 20 ∨ j = 56)) → I2 a j = I a j) → (∀ a j, a ≠ 143 → a ≠ 142 → ¬ (a = 123 ∧ (j = 39 ∨ j = 40)) → L2 a j = L a j) → I2 123 20 = 0 → I2 123 56 = 0 → oE I2 L2 env → sp_tb x.1.2.2 env = true → sm_W ex 9 0 0 228 0 [some (.ref 123), some (.int (nI (8 * c + 1)))] [] (n, y, I2, L2, R) (fun r μ1 => sm_W ex d 0 0 230 131 [some (.ref 123), some (.int (nI (8 * c))), w2, w3] (r.toList ++ []) μ1 Q) := by
    intro I2 L2 w2 f2 g2 h220 h256 oe2 htb
    by_cases h3 : x.1.1 = 3
    · refine w_X11_sumOf_0 (d1 := 2) hG (by omega) ?_
      have i2 : nI (8 * c + 1) + 1 = nI (8 * c + 2) := sm_n1 (8 * c + 1)
      rw [h256, if_pos rfl, i2, nI_clamp (by omega), nI_clamp (by omega), f2 154 _ (by omega), f2 154 _ (by omega), m3, m4, m12 h3, if_pos rfl]
      refine ⟨vp_in_nI (by omega) (by decide), vp_in_nI (by omega) (by decide), ?_⟩
      exact act I2 L2 (-1) w2 f2 g2 h220 h256 htb (by unfold or_sum; rw [if_pos h3])
    · obtain ⟨n1, n2, n3⟩ := m11 h3
      have ecd : cdO I2 = cdO I := by
        funext k
        unfold cdO
        rw [f2 134 k (by omega), f2 135 k (by omega)]
      refine c_X11_sumOf (by omega) hG (by omega) h256 ⟨sMen z.1, h7', (f2 125 0 (by omega)).trans hs.1⟩ ((f2 154 _ (by omega)).trans m3) ((f2 154 _ (by omega)).trans m4) n1 m7 (by rw [ecd]; exact n3) oe2 ?_
      intro I3 L3 v3 f3 g3 h320 hv
      have fr3 : ∀ a j, ¬ (a = 123 ∧ (j = 38 ∨ j = 20 ∨ j = 56)) → I3 a j = I a j := fun a j q => (f3 a j q).trans (f2 a j q)
      have gr3 : ∀ a j, a ≠ 143 → a ≠ 142 → ¬ (a = 123 ∧ (j = 39 ∨ j = 40)) → L3 a j = L a j := fun a j q1 q2 q3 => (g3 a j q1 q3).trans (g2 a j q1 q2 q3)
      have hos : or_sum x.1 env = x.1.2.1 env := by unfold or_sum; rw [if_neg h3]
      cases hD : x.1.2.1 env with
      | none =>
        rw [hD] at hv
        dsimp only at hv
        refine w_X11_run_131 (d1 := 9) hG (by omega) ?_
        rw [hv, if_neg (show ¬ (1 : Int32) = 0 by decide)]
        refine k0 ?_ I3 L3 ⟨fun a j q1 q2 q3 q4 q5 => fr3 a j (by omega), fun a j q1 q2 q3 q4 => gr3 a j q1 q3 q4, h320⟩
        unfold or_one
        rw [hen, if_pos htb, hos, hD]
        rfl
      | some v =>
        rw [hD] at hv
        dsimp only at hv
        rw [hv.2]
        exact act I3 L3 v w2 fr3 gr3 h320 hv.1 htb (hos.trans hD)
  have f1' : ∀ a j, ¬ (a = 123 ∧ (j = 38 ∨ j = 20 ∨ j = 56)) → I1 a j = I a j := fun a j q => f1 a j (by omega)
  have g1' : ∀ a j, a ≠ 143 → a ≠ 142 → ¬ (a = 123 ∧ (j = 39 ∨ j = 40)) → L1 a j = L a j := fun a j _ q _ => fL a j q
  have e154 : ∀ j, I1 154 j = I 154 j := fun j => f1 154 j (by omega)
  have skip : ∀ (I2 : Nat → Nat → Int32) (L2 : Nat → Nat → Int64), (∀ a j, ¬ (a = 123 ∧ (j = 38 ∨ j = 20 ∨ j = 56)) → I2 a j = I a j) → (∀ a j, a ≠ 143 → a ≠ 142 → ¬ (a = 123 ∧ (j = 39 ∨ j = 40)) → L2 a j = L a j) → I2 123 20 = 0 → ¬ sp_tb x.1.2.2 env = true → Q (some (.int 0)) (n, y, I2, L2, R) := fun I2 L2 f2 g2 h220 htb => by
    have e2 : I2 125 = I 125 := funext (fun j => f2 125 j (by omega))
    refine k1 z ?_ I2 L2 ⟨fun a j q1 q2 q3 q4 q5 => f2 a j (by omega), fun a j q1 q2 q3 q4 => g2 a j q1 q3 q4, h220⟩ (by rw [e2]; exact hs) (mU_ext2 hw2.1 hu7 (fun a j q => f2 a j (by omega)) hu) (mForce_r (fun j _ => f2 125 j (by omega)) hF) ((f2 123 53 (by omega)).trans h7) ((f2 123 54 (by omega)).trans h8)
    unfold or_one
    rw [hen, if_neg htb]
  cases hT : x.1.2.2 with
  | none =>
    rw [hT] at m13
    dsimp only at m13
    rw [m13, if_pos (Int32.le_refl _)]
    exact sum I1 L1 _ f1' g1' z20 z56 oe1 (by rw [hT]; rfl)
  | some T =>
    rw [hT] at m13
    obtain ⟨n1, n2, n3⟩ := m13
    rw [if_neg (by rw [nI_leI (by omega) (by omega)]; omega)]
    have ecd : cdO I1 = cdO I := by
      funext k
      unfold cdO
      rw [f1 134 k (by omega), f1 135 k (by omega)]
    refine c_X11_sumOf (by omega) hG (by omega) z56 ⟨sMen z.1, h7', (f1 125 0 (by omega)).trans hs.1⟩ ((e154 _).trans m5) ((e154 _).trans m6) n1 m8 (by rw [ecd]; exact n3) oe1 ?_
    intro I3 L3 v3 f3 g3 h320 hv
    have fr3 : ∀ a j, ¬ (a = 123 ∧ (j = 38 ∨ j = 20 ∨ j = 56)) → I3 a j = I a j := fun a j q => (f3 a j q).trans (f1' a j q)
    have gr3 : ∀ a j, a ≠ 143 → a ≠ 142 → ¬ (a = 123 ∧ (j = 39 ∨ j = 40)) → L3 a j = L a j := fun a j q1 q2 q3 => (g3 a j q1 q3).trans (g1' a j q1 q2 q3)
    have oe3 : oE I3 L3 env := fun I' L' q1 q2 q3 => oe1 I' L' (fun j => (q1 j).trans (f3 125 j (by omega))) (fun j => (q2 j).trans (g3 142 j (by omega) (by omega))) q3
    refine w_X11_run_110 (d1 := 9) hG (by omega) ?_
    cases hD : T env with
    | none =>
      rw [hD] at hv
      dsimp only at hv
      rw [hv, if_neg (show ¬ (1 : Int32) = 0 by decide)]
      refine skip I3 L3 fr3 gr3 h320 ?_
      rw [hT]
      unfold sp_tb
      dsimp only
      rw [hD]
      decide
    | some v =>
      rw [hD] at hv
      dsimp only at hv
      have htb : sp_tb x.1.2.2 env = (v != 0) := by
        rw [hT]
        unfold sp_tb
        dsimp only
        rw [hD]
      rw [hv.1, if_pos rfl, hv.2, i1]
      simp only [ofI_0 (n2 env v hD)]
      by_cases e0 : v = 0
      · rw [if_pos e0]
        refine skip I3 L3 fr3 gr3 h320 ?_
        rw [htb, e0]
        decide
      · rw [if_neg e0]
        exact sum I3 L3 _ fr3 gr3 h320 hv.1 oe3 (by rw [htb]; simpa using e0)

