set_option maxRecDepth 100000 in
theorem w_X11_readLaw_0 {ex : sm_O} {d n : Nat} {y : sm_Y} {I : Nat → Nat → Int32} {L : Nat → Nat → Int64} {R : Nat → Nat → Option Nat} {Q : sm_Q} {w1 : Option Value} {w2 : Option Value} {w3 : Option Value} (k : sm_W ex d 0 0 177 4 [some (.ref 123), some (.int (-1)), some (.int 0), w3] [] (n, y, I, L, R) Q) : sm_W ex d 0 0 177 0 [some (.ref 123), w1, w2, w3] [] (n, y, I, L, R) Q := sm_in (sm_in (And.intro (Nat.le_of_ble_eq_true rfl) (sm_in (sm_in (And.intro (Nat.le_of_ble_eq_true rfl) (k))))))
set_option maxRecDepth 100000 in
theorem w_X11_readLaw_4 {ex : sm_O} {d n : Nat} {y : sm_Y} {I : Nat → Nat → Int32} {L : Nat → Nat → Int64} {R : Nat → Nat → Option Nat} {Q : sm_Q} {w3 : Option Value} {a1 : Int32} {a2 : Int32} {d1 : Nat} (hG : sm_G y R) (h1 : d1 < d) (k : if 4 ≤ a2 then (if a1 = (-1) then (sm_W ex d1 0 0 157 0 [some (.ref 123), some (.int 0)] [] (n, y, I, L, R) (fun r μ1 => sm_W ex d 0 0 177 57 [some (.ref 123), some (.int a1), some (.int a2), w3] (r.toList ++ []) μ1 Q)) else (if 12 ≤ (I 123 21) then (sm_W ex d1 0 0 157 0 [some (.ref 123), some (.int 0)] [] (n, y, I, L, R) (fun r μ1 => sm_W ex d 0 0 177 57 [some (.ref 123), some (.int a1), some (.int a2), w3] (r.toList ++ []) μ1 Q)) else (sm_W ex d1 0 0 157 0 [some (.ref 123), some (.int 1)] [] (n, y, I, L, R) (fun r μ1 => sm_W ex d 0 0 177 57 [some (.ref 123), some (.int a1), some (.int a2), w3] (r.toList ++ []) μ1 Q)))) else (vp_in a2 4 ∧ sm_W ex d1 0 0 155 0 [some (.ref 123), some (.long (L 140 a2.toNatClampNeg)), none] [] (n, y, I, L, R) (fun r μ1 => sm_W ex d 0 0 177 19 [some (.ref 123), some (.int a1), some (.int a2), w3] (r.toList ++ []) μ1 Q))) : sm_W ex d 0 0 177 4 [some (.ref 123), some (.int a1), some (.int a2), w3] [] (n, y, I, L, R) Q := sm_in (sm_in (sm_in (And.intro (fun c1 => have k1t := Eq.mp (if_pos c1) k; sm_in (sm_in (sm_in (sm_in (And.intro (fun c2 => have k2t := Eq.mp (if_pos c2) k1t; sm_in (sm_in (Exists.intro 11 (And.intro (hG.1 123 (Nat.le_of_ble_eq_true rfl)) (And.intro rfl (sm_calln h1 (Nat.le_of_ble_eq_true rfl) (Nat.le_of_ble_eq_true rfl) k2t)))))) (fun c2 => have k2f := Eq.mp (if_neg c2) k1t; sm_in (sm_in (And.intro (hG.1 123 (Nat.le_of_ble_eq_true rfl)) (sm_in (sm_in (And.intro (fun c3 => have k3t := Eq.mp (if_pos c3) k2f; sm_in (sm_in (Exists.intro 11 (And.intro (hG.1 123 (Nat.le_of_ble_eq_true rfl)) (And.intro rfl (sm_calln h1 (Nat.le_of_ble_eq_true rfl) (Nat.le_of_ble_eq_true rfl) k3t)))))) (fun c3 => have k3f := Eq.mp (if_neg c3) k2f; sm_in (sm_in (sm_in (Exists.intro 11 (And.intro (hG.1 123 (Nat.le_of_ble_eq_true rfl)) (And.intro rfl (sm_calln h1 (Nat.le_of_ble_eq_true rfl) (Nat.le_of_ble_eq_true rfl) k3f)))))))))))))))))) (fun c1 => have k1f := Eq.mp (if_neg c1) k; sm_in (sm_in (sm_in (And.intro (hG.1 123 (Nat.le_of_ble_eq_true rfl)) (sm_gfr rfl (hG.2 123 33 rfl) (sm_in ((have e4 := k1f.1; have k4 := k1f.2; sm_in (Exists.intro 4 (And.intro (hG.1 140 (Nat.le_of_ble_eq_true rfl)) (And.intro e4 (sm_in (Exists.intro 11 (And.intro (hG.1 123 (Nat.le_of_ble_eq_true rfl)) (And.intro rfl (sm_calln h1 (Nat.le_of_ble_eq_true rfl) (Nat.le_of_ble_eq_true rfl) k4)))))))))))))))))))
set_option maxRecDepth 100000 in
theorem w_X11_readLaw_19 {ex : sm_O} {d n : Nat} {y : sm_Y} {I : Nat → Nat → Int32} {L : Nat → Nat → Int64} {R : Nat → Nat → Option Nat} {Q : sm_Q} {w3 : Option Value} {a1 : Int32} {a2 : Int32} {s0 : Int32} (k : if s0 = 0 then (sm_W ex d 0 0 177 4 [some (.ref 123), some (.int a1), some (.int (a2 + 1)), w3] [] (n, y, I, L, R) Q) else (sm_W ex d 0 0 177 4 [some (.ref 123), some (.int a2), some (.int (a2 + 1)), w3] [] (n, y, I, L, R) Q)) : sm_W ex d 0 0 177 19 [some (.ref 123), some (.int a1), some (.int a2), w3] [.int s0] (n, y, I, L, R) Q := sm_in (And.intro (fun c1 => have k1t := Eq.mp (if_pos c1) k; sm_in (sm_in (And.intro (Nat.le_of_ble_eq_true rfl) (sm_in (And.intro (Nat.le_of_ble_eq_true rfl) (sm_in (k1t))))))) (fun c1 => have k1f := Eq.mp (if_neg c1) k; sm_in (sm_in (sm_in (And.intro (Nat.le_of_ble_eq_true rfl) (sm_in (And.intro (Nat.le_of_ble_eq_true rfl) (sm_in (k1f)))))))))
set_option maxRecDepth 100000 in
theorem w_X11_readLaw_57 {ex : sm_O} {d n : Nat} {y : sm_Y} {I : Nat → Nat → Int32} {L : Nat → Nat → Int64} {R : Nat → Nat → Option Nat} {Q : sm_Q} {w2 : Option Value} {w3 : Option Value} {a1 : Int32} (hG : sm_G y R) (k : if (I 123 19) = 0 then (sm_W ex d 0 0 177 75 [some (.ref 123), some (.int a1), some (.int (8 * (I 123 21))), some (.int 0)] [] (n, y, I, L, R) Q) else (Q none (n, y, I, L, R))) : sm_W ex d 0 0 177 57 [some (.ref 123), some (.int a1), w2, w3] [] (n, y, I, L, R) Q := sm_in (sm_in (And.intro (hG.1 123 (Nat.le_of_ble_eq_true rfl)) (sm_in (And.intro (fun c1 => have k1t := Eq.mp (if_pos c1) k; sm_in (sm_in (sm_in (And.intro (hG.1 123 (Nat.le_of_ble_eq_true rfl)) (sm_in (sm_in (And.intro (Nat.le_of_ble_eq_true rfl) (sm_in (sm_in (And.intro (Nat.le_of_ble_eq_true rfl) (k1t))))))))))) (fun c1 => have k1f := Eq.mp (if_neg c1) k; sm_in (And.intro rfl (And.intro rfl k1f)))))))
set_option maxRecDepth 100000 in
theorem w_X11_readLaw_75 {ex : sm_O} {d n : Nat} {y : sm_Y} {I : Nat → Nat → Int32} {L : Nat → Nat → Int64} {R : Nat → Nat → Option Nat} {Q : sm_Q} {a1 : Int32} {a2 : Int32} {a3 : Int32} {d1 : Nat} (hG : sm_G y R) (h1 : d1 < d) (k : if 8 ≤ a3 then (vp_in a2 96 ∧ vp_in (a2 + 3) 96 ∧ (if a1 = 3 then (sm_W ex d 0 0 177 135 [some (.ref 123), some (.int a1), some (.int a2), some (.int a3)] [] (n, y, sm_st (sm_st (sm_st I 133 a2.toNatClampNeg a1) 123 21 ((I 123 21) + 1)) 133 ((a2 + 3).toNatClampNeg) (I 123 23), L, R) Q) else (sm_W ex d1 0 0 174 0 [some (.ref 123), some (.int 0), none] [] (n, y, sm_st (sm_st (sm_st I 133 a2.toNatClampNeg a1) 123 21 ((I 123 21) + 1)) 133 ((a2 + 3).toNatClampNeg) (I 123 23), L, R) (fun r μ1 => sm_W ex d 0 0 177 135 [some (.ref 123), some (.int a1), some (.int a2), some (.int a3)] (r.toList ++ []) μ1 Q)))) else (vp_in (a2 + a3) 96 ∧ sm_W ex d 0 0 177 75 [some (.ref 123), some (.int a1), some (.int a2), some (.int (a3 + 1))] [] (n, y, sm_st I 133 ((a2 + a3).toNatClampNeg) 0, L, R) Q)) : sm_W ex d 0 0 177 75 [some (.ref 123), some (.int a1), some (.int a2), some (.int a3)] [] (n, y, I, L, R) Q := sm_in (sm_in (sm_in (And.intro (fun c1 => have k1t := Eq.mp (if_pos c1) k; sm_in (sm_in (And.intro (hG.1 123 (Nat.le_of_ble_eq_true rfl)) (sm_gfr rfl (hG.2 123 22 rfl) (sm_in (sm_in ((have e2 := k1t.1; have k2 := k1t.2; sm_in (Exists.intro 96 (And.intro (hG.1 133 (Nat.le_of_ble_eq_true rfl)) (And.intro e2 (sm_in (sm_in (And.intro rfl (sm_in (And.intro (hG.1 123 (Nat.le_of_ble_eq_true rfl)) (sm_in (sm_in (sm_in (And.intro (hG.1 123 (Nat.le_of_ble_eq_true rfl)) (sm_in (sm_in (And.intro (hG.1 123 (Nat.le_of_ble_eq_true rfl)) (sm_gfr rfl (hG.2 123 22 rfl) (sm_in (sm_in (sm_in (sm_in (sm_in (And.intro (hG.1 123 (Nat.le_of_ble_eq_true rfl)) ((have e3 := k2.1; have k3 := k2.2; sm_in (Exists.intro 96 (And.intro (hG.1 133 (Nat.le_of_ble_eq_true rfl)) (And.intro e3 (sm_in (sm_in (sm_in (And.intro (fun c4 => have k4t := Eq.mp (if_pos c4) k3; k4t) (fun c4 => have k4f := Eq.mp (if_neg c4) k3; sm_in (sm_in (sm_in (Exists.intro 11 (And.intro (hG.1 123 (Nat.le_of_ble_eq_true rfl)) (And.intro rfl (sm_calln h1 (Nat.le_of_ble_eq_true rfl) (Nat.le_of_ble_eq_true rfl) k4f)))))))))))))))))))))))))))))))))))))))))))))) (fun c1 => have k1f := Eq.mp (if_neg c1) k; sm_in (sm_in (And.intro (hG.1 123 (Nat.le_of_ble_eq_true rfl)) (sm_gfr rfl (hG.2 123 22 rfl) (sm_in (sm_in (sm_in (sm_in ((have e5 := k1f.1; have k5 := k1f.2; sm_in (Exists.intro 96 (And.intro (hG.1 133 (Nat.le_of_ble_eq_true rfl)) (And.intro e5 (sm_in (And.intro (Nat.le_of_ble_eq_true rfl) (sm_in (k5))))))))))))))))))))
set_option maxRecDepth 100000 in
theorem w_X11_readLaw_135 {ex : sm_O} {d n : Nat} {y : sm_Y} {I : Nat → Nat → Int32} {L : Nat → Nat → Int64} {R : Nat → Nat → Option Nat} {Q : sm_Q} {w1 : Option Value} {w3 : Option Value} {a2 : Int32} {d1 : Nat} (hG : sm_G y R) (h1 : d1 < d) (k : vp_in (a2 + 4) 96 ∧ vp_in (a2 + 5) 96 ∧ (if (I 123 19) = 0 then (sm_W ex d1 0 0 155 0 [some (.ref 123), some (.long 294), none] [] (n, y, sm_st (sm_st I 133 ((a2 + 4).toNatClampNeg) (I 123 23)) 133 ((a2 + 5).toNatClampNeg) (I 123 23), L, R) (fun r μ1 => sm_W ex d 0 0 177 173 [some (.ref 123), w1, some (.int a2), w3] (r.toList ++ []) μ1 Q)) else (sm_W ex d 0 0 177 185 [some (.ref 123), w1, some (.int a2), w3] [] (n, y, sm_st (sm_st I 133 ((a2 + 4).toNatClampNeg) (I 123 23)) 133 ((a2 + 5).toNatClampNeg) (I 123 23), L, R) Q))) : sm_W ex d 0 0 177 135 [some (.ref 123), w1, some (.int a2), w3] [] (n, y, I, L, R) Q := sm_in (sm_in (And.intro (hG.1 123 (Nat.le_of_ble_eq_true rfl)) (sm_gfr rfl (hG.2 123 22 rfl) (sm_in (sm_in (sm_in (sm_in (sm_in (And.intro (hG.1 123 (Nat.le_of_ble_eq_true rfl)) ((have e1 := k.1; have k1 := k.2; sm_in (Exists.intro 96 (And.intro (hG.1 133 (Nat.le_of_ble_eq_true rfl)) (And.intro e1 (sm_in (sm_in (And.intro (hG.1 123 (Nat.le_of_ble_eq_true rfl)) (sm_gfr rfl (hG.2 123 22 rfl) (sm_in (sm_in (sm_in (sm_in (sm_in (And.intro (hG.1 123 (Nat.le_of_ble_eq_true rfl)) ((have e2 := k1.1; have k2 := k1.2; sm_in (Exists.intro 96 (And.intro (hG.1 133 (Nat.le_of_ble_eq_true rfl)) (And.intro e2 (sm_in (sm_in (And.intro (hG.1 123 (Nat.le_of_ble_eq_true rfl)) (sm_in (And.intro (fun c3 => have k3f := Eq.mp (if_neg c3) k2; k3f) (fun c3 => have k3t := Eq.mp (if_pos c3) k2; sm_in (sm_in (sm_in (Exists.intro 11 (And.intro (hG.1 123 (Nat.le_of_ble_eq_true rfl)) (And.intro rfl (sm_calln h1 (Nat.le_of_ble_eq_true rfl) (Nat.le_of_ble_eq_true rfl) k3t)))))))))))))))))))))))))))))))))))))))))
set_option maxRecDepth 100000 in
theorem w_X11_readLaw_173 {ex : sm_O} {d n : Nat} {y : sm_Y} {I : Nat → Nat → Int32} {L : Nat → Nat → Int64} {R : Nat → Nat → Option Nat} {Q : sm_Q} {w1 : Option Value} {w2 : Option Value} {w3 : Option Value} {s0 : Int32} {d1 : Nat} (hG : sm_G y R) (h1 : d1 < d) (k : if s0 = 0 then (sm_W ex d 0 0 177 185 [some (.ref 123), w1, w2, w3] [] (n, y, I, L, R) Q) else (sm_W ex d1 0 0 154 0 [some (.ref 123)] [] (n, y, I, L, R) (fun r μ1 => sm_W ex d 0 0 177 180 [some (.ref 123), w1, w2, w3] (r.toList ++ []) μ1 Q))) : sm_W ex d 0 0 177 173 [some (.ref 123), w1, w2, w3] [.int s0] (n, y, I, L, R) Q := sm_in (And.intro (fun c1 => have k1t := Eq.mp (if_pos c1) k; k1t) (fun c1 => have k1f := Eq.mp (if_neg c1) k; sm_in (sm_in (Exists.intro 11 (And.intro (hG.1 123 (Nat.le_of_ble_eq_true rfl)) (And.intro rfl (sm_calln h1 (Nat.le_of_ble_eq_true rfl) (Nat.le_of_ble_eq_true rfl) k1f)))))))
set_option maxRecDepth 100000 in
theorem w_X11_readLaw_180 {ex : sm_O} {d n : Nat} {y : sm_Y} {I : Nat → Nat → Int32} {L : Nat → Nat → Int64} {R : Nat → Nat → Option Nat} {Q : sm_Q} {w1 : Option Value} {w2 : Option Value} {w3 : Option Value} {d1 : Nat} (hG : sm_G y R) (h1 : d1 < d) (k : sm_W ex d1 0 0 174 0 [some (.ref 123), some (.int 1), none] [] (n, y, I, L, R) (fun r μ1 => sm_W ex d 0 0 177 185 [some (.ref 123), w1, w2, w3] (r.toList ++ []) μ1 Q)) : sm_W ex d 0 0 177 180 [some (.ref 123), w1, w2, w3] [] (n, y, I, L, R) Q := sm_in (sm_in (sm_in (Exists.intro 11 (And.intro (hG.1 123 (Nat.le_of_ble_eq_true rfl)) (And.intro rfl (sm_calln h1 (Nat.le_of_ble_eq_true rfl) (Nat.le_of_ble_eq_true rfl) k))))))
set_option maxRecDepth 100000 in
theorem w_X11_readLaw_185 {ex : sm_O} {d n : Nat} {y : sm_Y} {I : Nat → Nat → Int32} {L : Nat → Nat → Int64} {R : Nat → Nat → Option Nat} {Q : sm_Q} {w1 : Option Value} {w3 : Option Value} {a2 : Int32} (hG : sm_G y R) (k : vp_in (a2 + 6) 96 ∧ Q none (n, y, sm_st I 133 ((a2 + 6).toNatClampNeg) (I 123 23), L, R)) : sm_W ex d 0 0 177 185 [some (.ref 123), w1, some (.int a2), w3] [] (n, y, I, L, R) Q := sm_in (sm_in (And.intro (hG.1 123 (Nat.le_of_ble_eq_true rfl)) (sm_gfr rfl (hG.2 123 22 rfl) (sm_in (sm_in (sm_in (sm_in (sm_in (And.intro (hG.1 123 (Nat.le_of_ble_eq_true rfl)) ((have e1 := k.1; have k1 := k.2; sm_in (Exists.intro 96 (And.intro (hG.1 133 (Nat.le_of_ble_eq_true rfl)) (And.intro e1 (sm_in (And.intro rfl (And.intro rfl k1)))))))))))))))))
set_option maxRecDepth 100000 in
theorem w_X11_readOrder_0 {ex : sm_O} {d n : Nat} {y : sm_Y} {I : Nat → Nat → Int32} {L : Nat → Nat → Int64} {R : Nat → Nat → Option Nat} {Q : sm_Q} {w1 : Option Value} {w2 : Option Value} {w3 : Option Value} (k : sm_W ex d 0 0 227 4 [some (.ref 123), some (.int (-1)), some (.int 0), w3] [] (n, y, I, L, R) Q) : sm_W ex d 0 0 227 0 [some (.ref 123), w1, w2, w3] [] (n, y, I, L, R) Q := sm_in (sm_in (And.intro (Nat.le_of_ble_eq_true rfl) (sm_in (sm_in (And.intro (Nat.le_of_ble_eq_true rfl) (k))))))
set_option maxRecDepth 100000 in
theorem w_X11_readOrder_4 {ex : sm_O} {d n : Nat} {y : sm_Y} {I : Nat → Nat → Int32} {L : Nat → Nat → Int64} {R : Nat → Nat → Option Nat} {Q : sm_Q} {w3 : Option Value} {a1 : Int32} {a2 : Int32} {d1 : Nat} (hG : sm_G y R) (h1 : d1 < d) (k : if 4 ≤ a2 then (if a1 = (-1) then (sm_W ex d1 0 0 157 0 [some (.ref 123), some (.int 0)] [] (n, y, I, L, R) (fun r μ1 => sm_W ex d 0 0 227 57 [some (.ref 123), some (.int a1), some (.int a2), w3] (r.toList ++ []) μ1 Q)) else (if 12 ≤ (I 123 21) then (sm_W ex d1 0 0 157 0 [some (.ref 123), some (.int 0)] [] (n, y, I, L, R) (fun r μ1 => sm_W ex d 0 0 227 57 [some (.ref 123), some (.int a1), some (.int a2), w3] (r.toList ++ []) μ1 Q)) else (sm_W ex d1 0 0 157 0 [some (.ref 123), some (.int 1)] [] (n, y, I, L, R) (fun r μ1 => sm_W ex d 0 0 227 57 [some (.ref 123), some (.int a1), some (.int a2), w3] (r.toList ++ []) μ1 Q)))) else (vp_in a2 4 ∧ sm_W ex d1 0 0 155 0 [some (.ref 123), some (.long (L 153 a2.toNatClampNeg)), none] [] (n, y, I, L, R) (fun r μ1 => sm_W ex d 0 0 227 19 [some (.ref 123), some (.int a1), some (.int a2), w3] (r.toList ++ []) μ1 Q))) : sm_W ex d 0 0 227 4 [some (.ref 123), some (.int a1), some (.int a2), w3] [] (n, y, I, L, R) Q := sm_in (sm_in (sm_in (And.intro (fun c1 => have k1t := Eq.mp (if_pos c1) k; sm_in (sm_in (sm_in (sm_in (And.intro (fun c2 => have k2t := Eq.mp (if_pos c2) k1t; sm_in (sm_in (Exists.intro 11 (And.intro (hG.1 123 (Nat.le_of_ble_eq_true rfl)) (And.intro rfl (sm_calln h1 (Nat.le_of_ble_eq_true rfl) (Nat.le_of_ble_eq_true rfl) k2t)))))) (fun c2 => have k2f := Eq.mp (if_neg c2) k1t; sm_in (sm_in (And.intro (hG.1 123 (Nat.le_of_ble_eq_true rfl)) (sm_in (sm_in (And.intro (fun c3 => have k3t := Eq.mp (if_pos c3) k2f; sm_in (sm_in (Exists.intro 11 (And.intro (hG.1 123 (Nat.le_of_ble_eq_true rfl)) (And.intro rfl (sm_calln h1 (Nat.le_of_ble_eq_true rfl) (Nat.le_of_ble_eq_true rfl) k3t)))))) (fun c3 => have k3f := Eq.mp (if_neg c3) k2f; sm_in (sm_in (sm_in (Exists.intro 11 (And.intro (hG.1 123 (Nat.le_of_ble_eq_true rfl)) (And.intro rfl (sm_calln h1 (Nat.le_of_ble_eq_true rfl) (Nat.le_of_ble_eq_true rfl) k3f)))))))))))))))))) (fun c1 => have k1f := Eq.mp (if_neg c1) k; sm_in (sm_in (sm_in (And.intro (hG.1 123 (Nat.le_of_ble_eq_true rfl)) (sm_gfr rfl (hG.2 123 51 rfl) (sm_in ((have e4 := k1f.1; have k4 := k1f.2; sm_in (Exists.intro 4 (And.intro (hG.1 153 (Nat.le_of_ble_eq_true rfl)) (And.intro e4 (sm_in (Exists.intro 11 (And.intro (hG.1 123 (Nat.le_of_ble_eq_true rfl)) (And.intro rfl (sm_calln h1 (Nat.le_of_ble_eq_true rfl) (Nat.le_of_ble_eq_true rfl) k4)))))))))))))))))))
set_option maxRecDepth 100000 in
theorem w_X11_readOrder_19 {ex : sm_O} {d n : Nat} {y : sm_Y} {I : Nat → Nat → Int32} {L : Nat → Nat → Int64} {R : Nat → Nat → Option Nat} {Q : sm_Q} {w3 : Option Value} {a1 : Int32} {a2 : Int32} {s0 : Int32} (k : if s0 = 0 then (sm_W ex d 0 0 227 4 [some (.ref 123), some (.int a1), some (.int (a2 + 1)), w3] [] (n, y, I, L, R) Q) else (sm_W ex d 0 0 227 4 [some (.ref 123), some (.int a2), some (.int (a2 + 1)), w3] [] (n, y, I, L, R) Q)) : sm_W ex d 0 0 227 19 [some (.ref 123), some (.int a1), some (.int a2), w3] [.int s0] (n, y, I, L, R) Q := sm_in (And.intro (fun c1 => have k1t := Eq.mp (if_pos c1) k; sm_in (sm_in (And.intro (Nat.le_of_ble_eq_true rfl) (sm_in (And.intro (Nat.le_of_ble_eq_true rfl) (sm_in (k1t))))))) (fun c1 => have k1f := Eq.mp (if_neg c1) k; sm_in (sm_in (sm_in (And.intro (Nat.le_of_ble_eq_true rfl) (sm_in (And.intro (Nat.le_of_ble_eq_true rfl) (sm_in (k1f)))))))))
set_option maxRecDepth 100000 in
theorem w_X11_readOrder_57 {ex : sm_O} {d n : Nat} {y : sm_Y} {I : Nat → Nat → Int32} {L : Nat → Nat → Int64} {R : Nat → Nat → Option Nat} {Q : sm_Q} {w2 : Option Value} {w3 : Option Value} {a1 : Int32} (hG : sm_G y R) (k : if (I 123 19) = 0 then (sm_W ex d 0 0 227 85 [some (.ref 123), some (.int a1), some (.int (8 * (I 123 21))), some (.int 0)] [] (n, y, sm_st I 123 21 ((I 123 21) + 1), L, R) Q) else (Q none (n, y, I, L, R))) : sm_W ex d 0 0 227 57 [some (.ref 123), some (.int a1), w2, w3] [] (n, y, I, L, R) Q := sm_in (sm_in (And.intro (hG.1 123 (Nat.le_of_ble_eq_true rfl)) (sm_in (And.intro (fun c1 => have k1t := Eq.mp (if_pos c1) k; sm_in (sm_in (sm_in (And.intro (hG.1 123 (Nat.le_of_ble_eq_true rfl)) (sm_in (sm_in (And.intro (Nat.le_of_ble_eq_true rfl) (sm_in (sm_in (And.intro rfl (sm_in (And.intro (hG.1 123 (Nat.le_of_ble_eq_true rfl)) (sm_in (sm_in (sm_in (And.intro (hG.1 123 (Nat.le_of_ble_eq_true rfl)) (sm_in (sm_in (And.intro (Nat.le_of_ble_eq_true rfl) (k1t)))))))))))))))))))) (fun c1 => have k1f := Eq.mp (if_neg c1) k; sm_in (And.intro rfl (And.intro rfl k1f)))))))
set_option maxRecDepth 100000 in
theorem w_X11_readOrder_85 {ex : sm_O} {d n : Nat} {y : sm_Y} {I : Nat → Nat → Int32} {L : Nat → Nat → Int64} {R : Nat → Nat → Option Nat} {Q : sm_Q} {a1 : Int32} {a2 : Int32} {a3 : Int32} {d1 : Nat} (hG : sm_G y R) (h1 : d1 < d) (k : if 8 ≤ a3 then (vp_in a2 96 ∧ vp_in (a2 + 1) 96 ∧ (if a1 = 3 then (sm_W ex d 0 0 227 135 [some (.ref 123), some (.int a1), some (.int a2), some (.int a3)] [] (n, y, sm_st (sm_st I 154 a2.toNatClampNeg a1) 154 ((a2 + 1).toNatClampNeg) (I 123 23), L, R) Q) else (sm_W ex d1 0 0 174 0 [some (.ref 123), some (.int 0), none] [] (n, y, sm_st (sm_st I 154 a2.toNatClampNeg a1) 154 ((a2 + 1).toNatClampNeg) (I 123 23), L, R) (fun r μ1 => sm_W ex d 0 0 227 135 [some (.ref 123), some (.int a1), some (.int a2), some (.int a3)] (r.toList ++ []) μ1 Q)))) else (vp_in (a2 + a3) 96 ∧ sm_W ex d 0 0 227 85 [some (.ref 123), some (.int a1), some (.int a2), some (.int (a3 + 1))] [] (n, y, sm_st I 154 ((a2 + a3).toNatClampNeg) 0, L, R) Q)) : sm_W ex d 0 0 227 85 [some (.ref 123), some (.int a1), some (.int a2), some (.int a3)] [] (n, y, I, L, R) Q := sm_in (sm_in (sm_in (And.intro (fun c1 => have k1t := Eq.mp (if_pos c1) k; sm_in (sm_in (And.intro (hG.1 123 (Nat.le_of_ble_eq_true rfl)) (sm_gfr rfl (hG.2 123 52 rfl) (sm_in (sm_in ((have e2 := k1t.1; have k2 := k1t.2; sm_in (Exists.intro 96 (And.intro (hG.1 154 (Nat.le_of_ble_eq_true rfl)) (And.intro e2 (sm_in (sm_in (And.intro (hG.1 123 (Nat.le_of_ble_eq_true rfl)) (sm_gfr rfl (hG.2 123 52 rfl) (sm_in (sm_in (sm_in (sm_in (sm_in (And.intro (hG.1 123 (Nat.le_of_ble_eq_true rfl)) ((have e3 := k2.1; have k3 := k2.2; sm_in (Exists.intro 96 (And.intro (hG.1 154 (Nat.le_of_ble_eq_true rfl)) (And.intro e3 (sm_in (sm_in (sm_in (And.intro (fun c4 => have k4t := Eq.mp (if_pos c4) k3; k4t) (fun c4 => have k4f := Eq.mp (if_neg c4) k3; sm_in (sm_in (sm_in (Exists.intro 11 (And.intro (hG.1 123 (Nat.le_of_ble_eq_true rfl)) (And.intro rfl (sm_calln h1 (Nat.le_of_ble_eq_true rfl) (Nat.le_of_ble_eq_true rfl) k4f))))))))))))))))))))))))))))))))))))) (fun c1 => have k1f := Eq.mp (if_neg c1) k; sm_in (sm_in (And.intro (hG.1 123 (Nat.le_of_ble_eq_true rfl)) (sm_gfr rfl (hG.2 123 52 rfl) (sm_in (sm_in (sm_in (sm_in ((have e5 := k1f.1; have k5 := k1f.2; sm_in (Exists.intro 96 (And.intro (hG.1 154 (Nat.le_of_ble_eq_true rfl)) (And.intro e5 (sm_in (And.intro (Nat.le_of_ble_eq_true rfl) (sm_in (k5))))))))))))))))))))
set_option maxRecDepth 100000 in
theorem w_X11_readOrder_135 {ex : sm_O} {d n : Nat} {y : sm_Y} {I : Nat → Nat → Int32} {L : Nat → Nat → Int64} {R : Nat → Nat → Option Nat} {Q : sm_Q} {w1 : Option Value} {w3 : Option Value} {a2 : Int32} {d1 : Nat} (hG : sm_G y R) (h1 : d1 < d) (k : vp_in (a2 + 2) 96 ∧ vp_in (a2 + 7) 96 ∧ (if (I 123 19) = 0 then (sm_W ex d1 0 0 155 0 [some (.ref 123), some (.long 21279923), none] [] (n, y, sm_st (sm_st I 154 ((a2 + 2).toNatClampNeg) (I 123 23)) 154 ((a2 + 7).toNatClampNeg) 1, L, R) (fun r μ1 => sm_W ex d 0 0 227 171 [some (.ref 123), w1, some (.int a2), w3] (r.toList ++ []) μ1 Q)) else (vp_in (a2 + 5) 96 ∧ sm_W ex d 0 0 227 233 [some (.ref 123), w1, some (.int a2), w3] [] (n, y, sm_st (sm_st (sm_st I 154 ((a2 + 2).toNatClampNeg) (I 123 23)) 154 ((a2 + 7).toNatClampNeg) 1) 154 ((a2 + 5).toNatClampNeg) (I 123 23), L, R) Q))) : sm_W ex d 0 0 227 135 [some (.ref 123), w1, some (.int a2), w3] [] (n, y, I, L, R) Q := sm_in (sm_in (And.intro (hG.1 123 (Nat.le_of_ble_eq_true rfl)) (sm_gfr rfl (hG.2 123 52 rfl) (sm_in (sm_in (sm_in (sm_in (sm_in (And.intro (hG.1 123 (Nat.le_of_ble_eq_true rfl)) ((have e1 := k.1; have k1 := k.2; sm_in (Exists.intro 96 (And.intro (hG.1 154 (Nat.le_of_ble_eq_true rfl)) (And.intro e1 (sm_in (sm_in (And.intro (hG.1 123 (Nat.le_of_ble_eq_true rfl)) (sm_gfr rfl (hG.2 123 52 rfl) (sm_in (sm_in (sm_in (sm_in ((have e2 := k1.1; have k2 := k1.2; sm_in (Exists.intro 96 (And.intro (hG.1 154 (Nat.le_of_ble_eq_true rfl)) (And.intro e2 (sm_in (sm_in (And.intro (hG.1 123 (Nat.le_of_ble_eq_true rfl)) (sm_in (And.intro (fun c3 => have k3f := Eq.mp (if_neg c3) k2; sm_in (sm_in (And.intro (hG.1 123 (Nat.le_of_ble_eq_true rfl)) (sm_gfr rfl (hG.2 123 52 rfl) (sm_in (sm_in (sm_in (sm_in (sm_in (And.intro (hG.1 123 (Nat.le_of_ble_eq_true rfl)) ((have e4 := k3f.1; have k4 := k3f.2; sm_in (Exists.intro 96 (And.intro (hG.1 154 (Nat.le_of_ble_eq_true rfl)) (And.intro e4 (sm_in (sm_in (And.intro (hG.1 123 (Nat.le_of_ble_eq_true rfl)) (sm_in (And.intro (fun _ => k4) (fun c => absurd c c3))))))))))))))))))))) (fun c3 => have k3t := Eq.mp (if_pos c3) k2; sm_in (sm_in (sm_in (Exists.intro 11 (And.intro (hG.1 123 (Nat.le_of_ble_eq_true rfl)) (And.intro rfl (sm_calln h1 (Nat.le_of_ble_eq_true rfl) (Nat.le_of_ble_eq_true rfl) k3t)))))))))))))))))))))))))))))))))))))))
set_option maxRecDepth 100000 in
theorem w_X11_readOrder_171 {ex : sm_O} {d n : Nat} {y : sm_Y} {I : Nat → Nat → Int32} {L : Nat → Nat → Int64} {R : Nat → Nat → Option Nat} {Q : sm_Q} {w1 : Option Value} {w3 : Option Value} {a2 : Int32} {s0 : Int32} {d1 : Nat} (hG : sm_G y R) (h1 : d1 < d) (k : if s0 = 0 then (vp_in (a2 + 5) 96 ∧ (if (I 123 19) = 0 then (sm_W ex d1 0 0 155 0 [some (.ref 123), some (.long 294), none] [] (n, y, sm_st I 154 ((a2 + 5).toNatClampNeg) (I 123 23), L, R) (fun r μ1 => sm_W ex d 0 0 227 221 [some (.ref 123), w1, some (.int a2), w3] (r.toList ++ []) μ1 Q)) else (sm_W ex d 0 0 227 233 [some (.ref 123), w1, some (.int a2), w3] [] (n, y, sm_st I 154 ((a2 + 5).toNatClampNeg) (I 123 23), L, R) Q))) else (sm_W ex d1 0 0 154 0 [some (.ref 123)] [] (n, y, I, L, R) (fun r μ1 => sm_W ex d 0 0 227 178 [some (.ref 123), w1, some (.int a2), w3] (r.toList ++ []) μ1 Q))) : sm_W ex d 0 0 227 171 [some (.ref 123), w1, some (.int a2), w3] [.int s0] (n, y, I, L, R) Q := sm_in (And.intro (fun c1 => have k1t := Eq.mp (if_pos c1) k; sm_in (sm_in (And.intro (hG.1 123 (Nat.le_of_ble_eq_true rfl)) (sm_gfr rfl (hG.2 123 52 rfl) (sm_in (sm_in (sm_in (sm_in (sm_in (And.intro (hG.1 123 (Nat.le_of_ble_eq_true rfl)) ((have e2 := k1t.1; have k2 := k1t.2; sm_in (Exists.intro 96 (And.intro (hG.1 154 (Nat.le_of_ble_eq_true rfl)) (And.intro e2 (sm_in (sm_in (And.intro (hG.1 123 (Nat.le_of_ble_eq_true rfl)) (sm_in (And.intro (fun c3 => have k3f := Eq.mp (if_neg c3) k2; k3f) (fun c3 => have k3t := Eq.mp (if_pos c3) k2; sm_in (sm_in (sm_in (Exists.intro 11 (And.intro (hG.1 123 (Nat.le_of_ble_eq_true rfl)) (And.intro rfl (sm_calln h1 (Nat.le_of_ble_eq_true rfl) (Nat.le_of_ble_eq_true rfl) k3t))))))))))))))))))))))))))) (fun c1 => have k1f := Eq.mp (if_neg c1) k; sm_in (sm_in (Exists.intro 11 (And.intro (hG.1 123 (Nat.le_of_ble_eq_true rfl)) (And.intro rfl (sm_calln h1 (Nat.le_of_ble_eq_true rfl) (Nat.le_of_ble_eq_true rfl) k1f)))))))
set_option maxRecDepth 100000 in
theorem w_X11_readOrder_178 {ex : sm_O} {d n : Nat} {y : sm_Y} {I : Nat → Nat → Int32} {L : Nat → Nat → Int64} {R : Nat → Nat → Option Nat} {Q : sm_Q} {w1 : Option Value} {w3 : Option Value} {a2 : Int32} {d1 : Nat} (hG : sm_G y R) (h1 : d1 < d) (k : sm_W ex d1 0 0 158 0 [some (.ref 123), some (.long 1), none, some (.long 20), none, none] [] (n, y, I, L, R) (fun r μ1 => sm_W ex d 0 0 227 194 [some (.ref 123), w1, some (.int a2), w3] (r.toList ++ [.int (a2 + 7), .ref 154]) μ1 Q)) : sm_W ex d 0 0 227 178 [some (.ref 123), w1, some (.int a2), w3] [] (n, y, I, L, R) Q := sm_in (sm_in (And.intro (hG.1 123 (Nat.le_of_ble_eq_true rfl)) (sm_gfr rfl (hG.2 123 52 rfl) (sm_in (sm_in (sm_in (sm_in (sm_in (sm_in (sm_in (Exists.intro 11 (And.intro (hG.1 123 (Nat.le_of_ble_eq_true rfl)) (And.intro rfl (sm_calln h1 (Nat.le_of_ble_eq_true rfl) (Nat.le_of_ble_eq_true rfl) k))))))))))))))
set_option maxRecDepth 100000 in
theorem w_X11_readOrder_194 {ex : sm_O} {d n : Nat} {y : sm_Y} {I : Nat → Nat → Int32} {L : Nat → Nat → Int64} {R : Nat → Nat → Option Nat} {Q : sm_Q} {w1 : Option Value} {w3 : Option Value} {a2 : Int32} {s0 : Int32} {s1 : Int32} {d1 : Nat} (hG : sm_G y R) (h1 : d1 < d) (k : vp_in s1 96 ∧ vp_in (a2 + 5) 96 ∧ (if (I 123 19) = 0 then (sm_W ex d1 0 0 155 0 [some (.ref 123), some (.long 294), none] [] (n, y, sm_st (sm_st I 154 s1.toNatClampNeg s0) 154 ((a2 + 5).toNatClampNeg) (I 123 23), L, R) (fun r μ1 => sm_W ex d 0 0 227 221 [some (.ref 123), w1, some (.int a2), w3] (r.toList ++ []) μ1 Q)) else (sm_W ex d 0 0 227 233 [some (.ref 123), w1, some (.int a2), w3] [] (n, y, sm_st (sm_st I 154 s1.toNatClampNeg s0) 154 ((a2 + 5).toNatClampNeg) (I 123 23), L, R) Q))) : sm_W ex d 0 0 227 194 [some (.ref 123), w1, some (.int a2), w3] [.int s0, .int s1, .ref 154] (n, y, I, L, R) Q := (have e1 := k.1; have k1 := k.2; sm_in (Exists.intro 96 (And.intro (hG.1 154 (Nat.le_of_ble_eq_true rfl)) (And.intro e1 (sm_in (sm_in (And.intro (hG.1 123 (Nat.le_of_ble_eq_true rfl)) (sm_gfr rfl (hG.2 123 52 rfl) (sm_in (sm_in (sm_in (sm_in (sm_in (And.intro (hG.1 123 (Nat.le_of_ble_eq_true rfl)) ((have e2 := k1.1; have k2 := k1.2; sm_in (Exists.intro 96 (And.intro (hG.1 154 (Nat.le_of_ble_eq_true rfl)) (And.intro e2 (sm_in (sm_in (And.intro (hG.1 123 (Nat.le_of_ble_eq_true rfl)) (sm_in (And.intro (fun c3 => have k3f := Eq.mp (if_neg c3) k2; k3f) (fun c3 => have k3t := Eq.mp (if_pos c3) k2; sm_in (sm_in (sm_in (Exists.intro 11 (And.intro (hG.1 123 (Nat.le_of_ble_eq_true rfl)) (And.intro rfl (sm_calln h1 (Nat.le_of_ble_eq_true rfl) (Nat.le_of_ble_eq_true rfl) k3t)))))))))))))))))))))))))))))))
set_option maxRecDepth 100000 in
theorem w_X11_readOrder_221 {ex : sm_O} {d n : Nat} {y : sm_Y} {I : Nat → Nat → Int32} {L : Nat → Nat → Int64} {R : Nat → Nat → Option Nat} {Q : sm_Q} {w1 : Option Value} {w2 : Option Value} {w3 : Option Value} {s0 : Int32} {d1 : Nat} (hG : sm_G y R) (h1 : d1 < d) (k : if s0 = 0 then (sm_W ex d 0 0 227 233 [some (.ref 123), w1, w2, w3] [] (n, y, I, L, R) Q) else (sm_W ex d1 0 0 154 0 [some (.ref 123)] [] (n, y, I, L, R) (fun r μ1 => sm_W ex d 0 0 227 228 [some (.ref 123), w1, w2, w3] (r.toList ++ []) μ1 Q))) : sm_W ex d 0 0 227 221 [some (.ref 123), w1, w2, w3] [.int s0] (n, y, I, L, R) Q := sm_in (And.intro (fun c1 => have k1t := Eq.mp (if_pos c1) k; k1t) (fun c1 => have k1f := Eq.mp (if_neg c1) k; sm_in (sm_in (Exists.intro 11 (And.intro (hG.1 123 (Nat.le_of_ble_eq_true rfl)) (And.intro rfl (sm_calln h1 (Nat.le_of_ble_eq_true rfl) (Nat.le_of_ble_eq_true rfl) k1f)))))))
set_option maxRecDepth 100000 in
theorem w_X11_readOrder_228 {ex : sm_O} {d n : Nat} {y : sm_Y} {I : Nat → Nat → Int32} {L : Nat → Nat → Int64} {R : Nat → Nat → Option Nat} {Q : sm_Q} {w1 : Option Value} {w2 : Option Value} {w3 : Option Value} {d1 : Nat} (hG : sm_G y R) (h1 : d1 < d) (k : sm_W ex d1 0 0 174 0 [some (.ref 123), some (.int 1), none] [] (n, y, I, L, R) (fun r μ1 => sm_W ex d 0 0 227 233 [some (.ref 123), w1, w2, w3] (r.toList ++ []) μ1 Q)) : sm_W ex d 0 0 227 228 [some (.ref 123), w1, w2, w3] [] (n, y, I, L, R) Q := sm_in (sm_in (sm_in (Exists.intro 11 (And.intro (hG.1 123 (Nat.le_of_ble_eq_true rfl)) (And.intro rfl (sm_calln h1 (Nat.le_of_ble_eq_true rfl) (Nat.le_of_ble_eq_true rfl) k))))))
set_option maxRecDepth 100000 in
theorem w_X11_readOrder_233 {ex : sm_O} {d n : Nat} {y : sm_Y} {I : Nat → Nat → Int32} {L : Nat → Nat → Int64} {R : Nat → Nat → Option Nat} {Q : sm_Q} {w1 : Option Value} {w3 : Option Value} {a2 : Int32} (hG : sm_G y R) (k : vp_in (a2 + 6) 96 ∧ Q none (n, y, sm_st I 154 ((a2 + 6).toNatClampNeg) (I 123 23), L, R)) : sm_W ex d 0 0 227 233 [some (.ref 123), w1, some (.int a2), w3] [] (n, y, I, L, R) Q := sm_in (sm_in (And.intro (hG.1 123 (Nat.le_of_ble_eq_true rfl)) (sm_gfr rfl (hG.2 123 52 rfl) (sm_in (sm_in (sm_in (sm_in (sm_in (And.intro (hG.1 123 (Nat.le_of_ble_eq_true rfl)) ((have e1 := k.1; have k1 := k.2; sm_in (Exists.intro 96 (And.intro (hG.1 154 (Nat.le_of_ble_eq_true rfl)) (And.intro e1 (sm_in (And.intro rfl (And.intro rfl k1)))))))))))))))))
-- CLAUSES OF THE MODEL
def rP (pr : DD → Prop) (rd : Nat → Nat → Rr) : Prop := ∀ p pt q pt' D, rd p pt = .inr (q, pt', D) → pr D
theorem rP_leaf (t : Tp) (o : Bool) : rP dR (rLeaf t o) := by
  intro p pt q pt' D h
  unfold rLeaf at h
  split at h
  · cases h
  · split at h
    · split at h
      · rename_i hn
        cases h
        exact dNum_R hn
      · cases h
    · split at h
      · cases h
      · split at h
        · split at h
          · cases h; exact dWd_R _
          · cases h
        · cases h; exact dWd_R _
theorem rP_in {pr : DD → Prop} {t : Tp} {c : Nat} {f : Nat → Nat → Rr} (hf : rP pr f) {p pt q pt' : Nat} {D : DD} (h : rIn t c f p pt = .inr (q, pt', D)) : pr D := by
  unfold rIn at h
  cases e : f (nx t p) pt with
  | inl q => rw [e] at h; cases h
  | inr x =>
    obtain ⟨q1, pt1, D1⟩ := x
    rw [e] at h
    dsimp only at h
    split at h
    · cases h; exact hf _ _ _ _ _ e
    · cases h
theorem rP_part {t : Tp} {o : Bool} {inn : Option (Nat → Nat → Rr)} (hi : ∀ f, inn = some f → rP dR f) : rP dR (rPart t o inn) := by
  intro p pt q pt' D h
  unfold rPart at h
  split at h
  · cases inn with
    | none => cases h
    | some f => exact rP_in (hi f rfl) h
  · exact rP_leaf t o p pt q pt' D h
theorem rP_loop {t : Tp} {op : Nat → Option Nat} {sub : Nat → Nat → Rr} (hop : ∀ p st, op p = some st → 3 ≤ st ∧ st ≤ 10) : ∀ (f p pt : Nat) (D : DD) (q pt' : Nat) (D' : DD), dR D → rLoop t op sub f p pt D = .inr (q, pt', D') → dR D'
  | 0, p, pt, D, q, pt', D', hD, h => by cases h; exact hD
  | f + 1, p, pt, D, q, pt', D', hD, h => by
    unfold rLoop at h
    cases eo : op p with
    | none => rw [eo] at h; cases h; exact hD
    | some st =>
      rw [eo] at h
      dsimp only at h
      cases e : sub (nx t p) pt with
      | inl q => rw [e] at h; cases h
      | inr x =>
        obtain ⟨q1, pt1, D1⟩ := x
        rw [e] at h
        dsimp only at h
        exact rP_loop hop f q1 pt1 _ q pt' D' (by rw [dCo_bin (hop p st eo)]; exact dBin_R st D D1) h
theorem rP_seq {t : Tp} {op : Nat → Option Nat} {sub : Nat → Nat → Rr} (hop : ∀ p st, op p = some st → 3 ≤ st ∧ st ≤ 10) (hs : rP dR sub) : rP dR (rSeq t op sub) := by
  intro p pt q pt' D h
  unfold rSeq at h
  cases e : sub p pt with
  | inl q => rw [e] at h; cases h
  | inr x =>
    obtain ⟨q1, pt1, D1⟩ := x
    rw [e] at h
    dsimp only at h
    exact rP_loop hop 400 q1 pt1 D1 q pt' D (hs _ _ _ _ _ e) h
theorem rP_sum (t : Tp) (o : Bool) : ∀ r, rP dR (rSum t o r)
  | 0 => rP_seq (fun p st h => ⟨(opAdd_st h).1, (opAdd_st h).2.1⟩) (rP_seq (fun p st h => ⟨(opMul_st h).1, (opMul_st h).2.1⟩) (rP_part (fun f h => by cases h)))
  | r + 1 => rP_seq (fun p st h => ⟨(opAdd_st h).1, (opAdd_st h).2.1⟩) (rP_seq (fun p st h => ⟨(opMul_st h).1, (opMul_st h).2.1⟩) (rP_part (fun f h => by cases h; exact rP_sum t o r)))
theorem mSX_lt {wd : (Int32 → Int32 → Int64) → Nat → Int} {cd : Cd} {a b : Nat} {D : DD} (h : mSX wd cd a b D) : a < b := by
  have hl := h.le
  by_cases e : a = b
  · subst e
    have h := (h cd (fun _ _ _ => rfl)).2 (fun _ _ => 0) a []
    cases hD : D (wd (fun _ _ => 0)) with
    | none =>
      obtain ⟨f', q⟩ := h (fun o => o = none) 0 (Nat.le_refl _) (by dsimp only; rw [hD]; rfl)
      cases f' with
      | zero => exact q.elim
      | succ f' =>
        unfold mEv at q
        rw [if_pos rfl] at q
        cases q
    | some v =>
      obtain ⟨f', q⟩ := h (fun o => o ≠ some []) 1 (Nat.le_refl _) (by
        dsimp only
        rw [hD]
        show mEv cd (fun _ _ => 0) a 1 a [Int64.ofInt v] _
        unfold mEv
        rw [if_pos rfl]
        intro z
        cases z)
      cases f' with
      | zero => exact q.elim
      | succ f' =>
        unfold mEv at q
        rw [if_pos rfl] at q
        exact absurd rfl q
  · omega
def mE (t : Tp) (o : Bool) (I : Nat → Nat → Int32) (L : Nat → Nat → Int64) (p pt len : Nat) : Prop := mR t I L p ∧ mWs L ∧ I 123 20 = (if o = true then 1 else 0) ∧ I 123 19 = 0 ∧ I 123 26 = nI pt ∧ I 123 23 = nI len ∧ len ≤ p ∧ pt ≤ 50
theorem mE.kept {t : Tp} {o : Bool} {I I' : Nat → Nat → Int32} {L : Nat → Nat → Int64} {p pt len : Nat} (h : mE t o I L p pt len) (h1 : ∀ j, 13 ≤ j → j ≤ 26 → j ≠ 21 → I' 123 j = I 123 j) (h2 : ∀ j, I' 132 j = I 132 j) : mE t o I' L p pt len := by
  obtain ⟨s1, s2, s3, s4, s5, s6, s7, s8⟩ := h
  exact ⟨mR_kept (fun j q1 q2 => h1 j q1 (by omega) (by omega)) h2 rfl s1, s2, (h1 20 (by omega) (by omega) (by omega)).trans s3, (h1 19 (by omega) (by omega) (by omega)).trans s4, (h1 26 (by omega) (by omega) (by omega)).trans s5, (h1 23 (by omega) (by omega) (by omega)).trans s6, s7, s8⟩
theorem mE.nx {t : Tp} {o : Bool} {I I' : Nat → Nat → Int32} {L L' : Nat → Nat → Int64} {p q pt len : Nat} (h : mE t o I L p pt len) (f : mF1 I I') (g : mL1 L L') (hq : p ≤ q) (hr : mR t I' L' q) : mE t o I' L' q pt len := by
  obtain ⟨s1, s2, s3, s4, s5, s6, s7, s8⟩ := h
  exact ⟨hr, g.W s2, (f 123 20 (by omega)).trans s3, (f 123 19 (by omega)).trans s4, (f 123 26 (by omega)).trans s5, (f 123 23 (by omega)).trans s6, by omega, s8⟩
theorem mE.le {t : Tp} {o : Bool} {I : Nat → Nat → Int32} {L : Nat → Nat → Int64} {p pt len : Nat} (h : mE t o I L p pt len) : p ≤ t.1 ∧ t.1 ≤ 400 ∧ len ≤ p := ⟨h.1.2.2.2.2.2.1, h.1.1.2.1, h.2.2.2.2.2.2.1⟩
theorem mX.E {t : Tp} {o : Bool} {I : Nat → Nat → Int32} {L : Nat → Nat → Int64} {p pt len : Nat} {B : Pl} {dep : Nat} (h : mX t o I L p pt len B dep) : mE t o I L p pt len := by
  have hl := h.le
  obtain ⟨s1, s2, s3, s4, s5, s6, s7, s8, s9, s10, s11, s12, s13⟩ := h
  exact ⟨s1, s2, s3, s4, s5, s6, by omega, s12⟩
theorem split1 : ∀ (B : Pl), ∃ q r : Pl, B = q ++ r ∧ (∀ x ∈ q, 1 ≤ bnd x.1) ∧ tB 1 r
  | [] => ⟨[], [], rfl, (fun x hx => by cases hx), (fun x r e => by cases e)⟩
  | x :: B => by
    by_cases h : 1 ≤ bnd x.1
    · obtain ⟨q, r, e, h1, h2⟩ := split1 B
      refine ⟨x :: q, r, by rw [e]; rfl, fun z hz => ?_, h2⟩
      rcases List.mem_cons.mp hz with hz | hz
      · rw [hz]; exact h
      · exact h1 z hz
    · exact ⟨[], x :: B, rfl, (fun z hz => by cases hz), tB_cons (by omega)⟩
theorem m_badEnd {ex : sm_O} {n : Nat} {y : sm_Y} {I : Nat → Nat → Int32} {L : Nat → Nat → Int64} {R : Nat → Nat → Option Nat} {Q : sm_Q} {d q : Nat} {a1 u : Int32} (hd : 3 ≤ d) (hG : sm_G y R) (hY : mY q I) (k : ∀ (I' : Nat → Nat → Int32), mFx I I' → I' 123 19 = 1 → I' 123 18 = nI q → Q none (n, y, I', L, R)) : sm_W ex d 0 0 174 20 [some (.ref 123), some (.int a1), some (.int u)] [] (n, y, I, L, R) Q := by
  obtain ⟨y1, y2, len, B, y3, y4, y5, y6, y7⟩ := hY
  obtain ⟨qs, r, e, h1, h2⟩ := split1 B
  subst e
  refine w_X11_readExpression_20 (d1 := 2) hG (by omega) ?_
  rw [y1, if_neg (by decide)]
  refine m_settle (lv := 1) (q := qs) (B := r) (by omega) hG (by decide) h2 h1 y7 y3 y4 y5 y6 ?_
  intro I2 f2 e2 e23 e29 p2
  exact w_X11_readExpression_81 (k I2 f2.X ((f2 123 19 (by omega) (by decide) (by decide)).trans y1) ((f2 123 18 (by omega) (by decide) (by decide)).trans y2))
theorem m_goodEnd {ex : sm_O} {n : Nat} {y : sm_Y} {I : Nat → Nat → Int32} {L : Nat → Nat → Int64} {R : Nat → Nat → Option Nat} {Q : sm_Q} {d p pt len dep : Nat} {qs : Pl} {o : Bool} {t : Tp} {a1 : Int32} (hd : 3 ≤ d) (hG : sm_G y R) (hx : mX t o I L p pt len qs dep) (hq : ∀ x ∈ qs, 1 ≤ bnd x.1) (k : ∀ (I' : Nat → Nat → Int32), mFx I I' → mE t o I' L p pt (clo qs (cdO I, len)).2 → cdO I' = (clo qs (cdO I, len)).1 → Q none (n, y, I', L, R)) : sm_W ex d 0 0 174 20 [some (.ref 123), some (.int a1), some (.int 4)] [] (n, y, I, L, R) Q := by
  have hle := hx.le
  have e0 : qs = qs ++ [] := (List.append_nil qs).symm
  have hx' : mX t o I L p pt len (qs ++ []) dep := by rw [← e0]; exact hx
  refine w_X11_readExpression_20 (d1 := 2) hG (by omega) ?_
  rw [hx.2.2.2.1, if_pos rfl, if_pos rfl]
  have hcl2 : (clo qs (cdO I, len)).2 ≤ len + qs.length := (clo_len qs (cdO I, len)).2
  refine m_settle (lv := 1) (q := qs) (B := []) (by omega) hG (by decide) (fun x r e => by cases e) hq hx'.2.2.2.2.2.2.2.2.2.2.1 hx.2.2.2.2.2.1 hx'.2.2.2.2.2.2.1 hx'.2.2.2.2.2.2.2.1 (by rw [← e0]; omega) ?_
  intro I2 f2 e2 e23 e29 p2
  have x2 := mX_settle hx' f2 e23 e29 p2 hcl2
  exact w_X11_readExpression_81 (k I2 f2.X x2.E e2)
theorem mE.X {t : Tp} {o : Bool} {I : Nat → Nat → Int32} {L : Nat → Nat → Int64} {p pt len : Nat} (h : mE t o I L p pt len) : mX t o (sm_st (sm_st I 123 29 0) 123 30 0) L p pt len [] 0 ∧ mFx I (sm_st (sm_st I 123 29 0) 123 30 0) ∧ cdO (sm_st (sm_st I 123 29 0) 123 30 0) = cdO I := by
  have e : ∀ a j, ¬ (a = 123 ∧ (j = 29 ∨ j = 30)) → sm_st (sm_st I 123 29 0) 123 30 0 a j = I a j := fun a j h => by rw [sm_st_or _ _ (by omega), sm_st_or _ _ (by omega)]
  obtain ⟨s1, s2, s3, s4, s5, s6, s7, s8⟩ := h
  refine ⟨⟨mR_kept (fun j q1 q2 => e 123 j (by omega)) (fun j => e 132 j (by omega)) rfl s1, s2, (e _ _ (by omega)).trans s3, (e _ _ (by omega)).trans s4, (e _ _ (by omega)).trans s5, (e _ _ (by omega)).trans s6, by rw [sm_st_j _ _ (by decide), sm_st_s]; rfl, trivial, sm_st_s _ _ _ _, s7, (fun x hx => by cases hx), s8, by decide⟩, fun a j q1 q2 => e a j (by omega), ?_⟩
  funext k
  show (sm_st (sm_st I 123 29 0) 123 30 0 134 k, sm_st (sm_st I 123 29 0) 123 30 0 135 k) = (I 134 k, I 135 k)
  rw [e 134 k (by omega), e 135 k (by omega)]
theorem m_exprS {ex : sm_O} {n : Nat} {y : sm_Y} {I : Nat → Nat → Int32} {L : Nat → Nat → Int64} {R : Nat → Nat → Option Nat} {Q : sm_Q} {d p pt len : Nat} {o : Bool} {t : Tp} {w2 : Option Value} (hd : 6 ≤ d) (hG : sm_G y R) (hx : mE t o I L p pt len)
    (kf : ∀ (I' : Nat → Nat → Int32) (L' : Nat → Nat → Int64) (q : Nat), rSum t o 8 p pt = .inl q → mFx I I' → mL1 L L' → I' 123 19 = 1 → I' 123 18 = nI q → Q none (n, y, I', L', R))
    (kk : ∀ (I' : Nat → Nat → Int32) (L' : Nat → Nat → Int64) (q pt' : Nat) (D : DD) (len' : Nat), rSum t o 8 p pt = .inr (q, pt', D) → mFx I I' → mL1 L L' → mE t o I' L' q pt' len' → (∀ k, k < len → cdO I' k = cdO I k) → mSX (wdO o) (cdO I') len len' D → Q none (n, y, I', L', R)) : sm_W ex d 0 0 174 0 [some (.ref 123), some (.int 0), w2] [] (n, y, I, L, R) Q := by
  obtain ⟨x0, f0, c0⟩ := hx.X
  refine w_X11_readExpression_0 hG ?_
  rw [if_pos rfl]
  refine mOkS_all (o := o) (t := t) (a1 := 0) hd 8 (Nat.le_refl 8) n y _ L R Q p pt len [] 1 hG x0 (fun x r e => by cases e) (Or.inl rfl) (fun I' L' q u e f g hY => ?_) (fun I' L' q pt' D len' qs e f g x fn hqs agr hll sg => ?_)
  · exact m_badEnd (by omega) hG hY (fun I2 f2 h1 h2 => kf I2 L' q e ((f0.trans f).trans f2) g h1 h2)
  · have x' : mX t o I' L' q pt' len' qs 0 := by rw [List.append_nil] at x; exact x
    have hq1 : ∀ x ∈ qs, 1 ≤ bnd x.1 := fun x hx => Nat.le_trans (by decide) (hqs x hx).1
    refine m_bs (by omega) hG x' fn ?_
    intro Q' hQ
    have hi : inn qs = -1 := by
      have := inn_app qs [] hq1
      rw [List.append_nil] at this
      exact this
    rw [hi]
    refine w_X11_behindSum_101 (d1 := 2) hG (by omega) ?_
    rw [if_neg (by decide), if_pos rfl, if_pos rfl]
    refine hQ _ _ _ (m_goodEnd (by omega) hG x' hq1 (fun I2 f2 e2 ecd => ?_))
    have hlow := clo_low qs (cdO I', len') hll (fun x hx => (hqs x hx).2)
    refine kk I2 L' q pt' D _ e ((f0.trans f).trans f2) g e2 (fun k hk => ?_) (by rw [ecd]; exact sg)
    exact (congrFun ecd k).trans ((hlow.1 k hk).trans ((agr k hk).trans (congrFun c0 k)))
theorem m_exprT {ex : sm_O} {n : Nat} {y : sm_Y} {I : Nat → Nat → Int32} {L : Nat → Nat → Int64} {R : Nat → Nat → Option Nat} {Q : sm_Q} {d p pt len : Nat} {o : Bool} {t : Tp} {w2 : Option Value} (hd : 6 ≤ d) (hG : sm_G y R) (hx : mE t o I L p pt len)
    (kf : ∀ (I' : Nat → Nat → Int32) (L' : Nat → Nat → Int64) (q : Nat), rTest t o 8 p pt = .inl q → mFx I I' → mL1 L L' → I' 123 19 = 1 → I' 123 18 = nI q → Q none (n, y, I', L', R))
    (kk : ∀ (I' : Nat → Nat → Int32) (L' : Nat → Nat → Int64) (q pt' : Nat) (D : DD) (len' : Nat), rTest t o 8 p pt = .inr (q, pt', D) → mFx I I' → mL1 L L' → mE t o I' L' q pt' len' → (∀ k, k < len → cdO I' k = cdO I k) → mSX (wdO o) (cdO I') len len' D → sp_01 D → Q none (n, y, I', L', R)) : sm_W ex d 0 0 174 0 [some (.ref 123), some (.int 1), w2] [] (n, y, I, L, R) Q := by
  obtain ⟨x0, f0, c0⟩ := hx.X
  refine w_X11_readExpression_0 hG ?_
  rw [if_neg (by decide)]
  refine mOkT_all (o := o) (t := t) (a1 := 1) hd 8 (Nat.le_refl 8) n y _ L R Q p pt len [] hG x0 (fun x r e => by cases e) (Or.inr ⟨rfl, by decide⟩) (fun I' L' q u e f g hY => ?_) (fun I' L' q pt' D len' qs e f g x fn hqs agr hll sg d01 => ?_)
  · exact m_badEnd (by omega) hG hY (fun I2 f2 h1 h2 => kf I2 L' q e ((f0.trans f).trans f2) g h1 h2)
  · have x' : mX t o I' L' q pt' len' qs 0 := by rw [List.append_nil] at x; exact x
    have hq1 : ∀ x ∈ qs, 1 ≤ bnd x.1 := fun x hx => (hqs x hx).1
    refine m_80 (by omega) hG x' fn ?_
    intro Q' hQ
    have hi : inn qs = -1 := by
      have := inn_app qs [] hq1
      rw [List.append_nil] at this
      exact this
    rw [hi]
    refine w_X11_behindTest_80 (d1 := 2) hG (by omega) ?_
    rw [if_pos rfl]
    refine hQ _ _ _ (m_goodEnd (by omega) hG x' hq1 (fun I2 f2 e2 ecd => ?_))
    have hlow := clo_low qs (cdO I', len') hll (fun x hx => (hqs x hx).2)
    refine kk I2 L' q pt' D _ e ((f0.trans f).trans f2) g e2 (fun k hk => ?_) (by rw [ecd]; exact sg) d01
    exact (congrFun ecd k).trans ((hlow.1 k hk).trans ((agr k hk).trans (congrFun c0 k)))
def mC (o : Bool) (C oa : Nat) (I : Nat → Nat → Int32) (len c : Nat) (x : OC) : Prop := ∃ a a' s s' : Nat, I C (8 * c) = nI x.1.1 ∧ x.1.1 ≤ 3 ∧ I C (8 * c + oa) = nI a ∧ I C (8 * c + oa + 1) = nI a' ∧ I C (8 * c + 5) = nI s ∧ I C (8 * c + 6) = nI s' ∧ a ≤ a' ∧ a' ≤ len ∧ s ≤ s' ∧ s' ≤ len ∧ (x.1.1 ≠ 3 → a < a' ∧ sp_inB x.1.2.1 ∧ mSX (wdO o) (cdO I) a a' x.1.2.1) ∧ (x.1.1 = 3 → a' = a) ∧ (match x.1.2.2 with
  | none => s' = s
  | some T => s < s' ∧ sp_01 T ∧ mSX (wdO o) (cdO I) s s' T) ∧ x.2 ≤ 20 ∧ (o = true → I C (8 * c + 7) = nI x.2)
theorem mC.mono {o : Bool} {C oa : Nat} {I I' : Nat → Nat → Int32} {len len' c : Nat} {x : OC} (h : mC o C oa I len c x) (hoa : oa + 1 < 8) (hI : ∀ j, 8 * c ≤ j → j < 8 * c + 8 → I' C j = I C j) (hl : len ≤ len') (hc : ∀ k, k < len → cdO I' k = cdO I k) : mC o C oa I' len' c x := by
  obtain ⟨a, a', s, s', h1, h2, h3, h4, h5, h6, h7, h8, h9, h10, h11, h12, h13, h14, h15⟩ := h
  refine ⟨a, a', s, s', (hI _ (by omega) (by omega)).trans h1, h2, (hI _ (by omega) (by omega)).trans h3, (hI _ (by omega) (by omega)).trans h4, (hI _ (by omega) (by omega)).trans h5, (hI _ (by omega) (by omega)).trans h6, h7, by omega, h9, by omega, fun q => ⟨(h11 q).1, (h11 q).2.1, (h11 q).2.2.mono (fun k q1 q2 => hc k (by omega))⟩, h12, ?_, h14, fun q => (hI _ (by omega) (by omega)).trans (h15 q)⟩
  cases hx : x.1.2.2 with
  | none => rw [hx] at h13; exact h13
  | some T =>
    rw [hx] at h13
    exact ⟨h13.1, h13.2.1, h13.2.2.mono (fun k q1 q2 => hc k (by omega))⟩
def mCs (o : Bool) (C oa : Nat) (I : Nat → Nat → Int32) (len : Nat) (l : List OC) : Prop := I 123 21 = nI l.length ∧ l.length ≤ 12 ∧ ∀ (c : Nat) (x : OC), l[c]? = some x → mC o C oa I len c x
theorem mCs.snoc {o : Bool} {C oa : Nat} {I I' : Nat → Nat → Int32} {len len' : Nat} {l : List OC} {x : OC} (h : mCs o C oa I len l) (hoa : oa + 1 < 8) (hl12 : l.length < 12) (h5 : I' 123 21 = nI (l.length + 1)) (hI : ∀ j, j < 8 * l.length → I' C j = I C j) (hl : len ≤ len') (hc : ∀ k, k < len → cdO I' k = cdO I k) (hx : mC o C oa I' len' l.length x) : mCs o C oa I' len' (l ++ [x]) := by
  obtain ⟨h1, h2, h3⟩ := h
  refine ⟨h5.trans (by simp), by simp; omega, fun c z hz => ?_⟩
  by_cases e : c < l.length
  · rw [List.getElem?_append_left e] at hz
    exact (h3 c z hz).mono hoa (fun j q1 q2 => hI j (by omega)) hl hc
  · have hc' : c < (l ++ [x]).length := by
      have := List.getElem?_eq_some_iff.mp hz
      exact this.1
    have : c = l.length := by simp at hc'; omega
    subst this
    rw [List.getElem?_append_right (Nat.le_refl _), Nat.sub_self] at hz
    cases hz
    exact hx
/-- what reading a clause touches -/
def mG (I I' : Nat → Nat → Int32) : Prop := ∀ a j, ¬ (a = 123 ∧ (14 ≤ j ∧ j ≤ 16 ∨ j = 18 ∨ j = 19 ∨ j = 21 ∨ j = 23 ∨ j = 26 ∨ j = 29 ∨ j = 30)) → ¬ (133 ≤ a ∧ a ≤ 137) → a ≠ 154 → I' a j = I a j
theorem mG.rfl' (I : Nat → Nat → Int32) : mG I I := fun _ _ _ _ _ => rfl
theorem mG.trans {I I' I2 : Nat → Nat → Int32} (h1 : mG I I') (h2 : mG I' I2) : mG I I2 := fun a j q1 q2 q3 => (h2 a j q1 q2 q3).trans (h1 a j q1 q2 q3)
theorem mFx.G {I I' : Nat → Nat → Int32} (h : mFx I I') : mG I I' := fun a j q1 q2 _ => h a j (by omega) (by omega)
theorem mG.st {I J : Nat → Nat → Int32} (h : mG I J) {a : Nat} (ha : a = 133 ∨ a = 154) (i : Nat) (v : Int32) : mG I (sm_st J a i v) := fun b j q1 q2 q3 => (sm_st_o _ _ (by omega)).trans (h b j q1 q2 q3)
theorem mG.st1 {I J : Nat → Nat → Int32} (h : mG I J) (v : Int32) : mG I (sm_st J 123 21 v) := fun b j q1 q2 q3 => (sm_st_or _ _ (by omega)).trans (h b j q1 q2 q3)
theorem cd_st {I : Nat → Nat → Int32} {a : Nat} (ha : a ≠ 134 ∧ a ≠ 135) (i : Nat) (v : Int32) : cdO (sm_st I a i v) = cdO I := by
  funext k
  show (sm_st I a i v 134 k, sm_st I a i v 135 k) = (I 134 k, I 135 k)
  rw [sm_st_o _ _ (fun e => ha.1 e.symm), sm_st_o _ _ (fun e => ha.2 e.symm)]
theorem lp_readLaw {ex : sm_O} {d n p : Nat} {y : sm_Y} {I : Nat → Nat → Int32} {L : Nat → Nat → Int64} {R : Nat → Nat → Option Nat} {Q : sm_Q} {t : Tp} {w3 : Option Value} (hd : 1 ≤ d) (hG : sm_G y R) (hs : mR t I L p) (hw : mWs L) : ∀ (r pre : List (List Nat)) (a : Int32), lawKinds = pre ++ r → sm_W ex d 0 0 177 4 [some (.ref 123), some (.int (lIx 0 r (tkWd t p) pre.length a)), some (.int (nI 4)), w3] [] (n, y, I, L, R) Q → sm_W ex d 0 0 177 4 [some (.ref 123), some (.int a), some (.int (nI pre.length)), w3] [] (n, y, I, L, R) Q := by
  intro r
  induction r with
  | nil =>
    intro pre a hpr k
    have hl : pre.length = 4 := by rw [List.append_nil] at hpr; rw [← hpr]; rfl
    rw [hl]
    exact k
  | cons w r ih =>
    intro pre a hpr k
    have hl : pre.length < 4 := by
      have : (pre ++ w :: r).length = 4 := by rw [← hpr]; rfl
      simp at this
      omega
    refine w_X11_readLaw_4 (d1 := 0) hG (by omega) ?_
    rw [if_neg (show ¬ (4 : Int32) ≤ nI pre.length from fun z => by have := (nI_leI (a := 4) (by decide) (by omega)).mp z; omega), nI_clamp (by omega)]
    refine ⟨vp_in_nI (by omega) (by decide), ?_⟩
    have hx := lawKinds_L hw pre.length w (by rw [hpr]; exact getElem?_mid pre w r)
    have hpr2 : lawKinds = (pre ++ [w]) ++ r := by rw [hpr]; simp
    have hl2 : (pre ++ [w]).length = pre.length + 1 := by simp
    have ih := fun a => ih (pre ++ [w]) a hpr2
    rw [hl2] at ih
    have k : sm_W ex d 0 0 177 4 [some (.ref 123), some (.int (lIx 0 r (tkWd t p) (pre.length + 1) (if tkWd t p = w then nI pre.length else a))), some (.int (nI 4)), w3] [] (n, y, I, L, R) Q := k
    refine m_word hG hs hx (lawKinds_g.2 w (by rw [hpr]; simp)) (fun e => ?_) (fun e => ?_)
    · refine w_X11_readLaw_19 ?_
      rw [if_pos rfl, sm_n1]
      rw [if_neg e] at k
      exact ih a k
    · refine w_X11_readLaw_19 ?_
      rw [if_neg (by decide), sm_n1]
      rw [if_pos e] at k
      exact ih _ k
theorem lp_readLaw0 {ex : sm_O} {n : Nat} {y : sm_Y} {I : Nat → Nat → Int32} {L : Nat → Nat → Int64} {R : Nat → Nat → Option Nat} {Q : sm_Q} {d p : Nat} {t : Tp} {w1 w2 w3 : Option Value} (hd : 1 ≤ d) (hG : sm_G y R) (hs : mR t I L p) (hw : mWs L) (k : sm_W ex d 0 0 177 4 [some (.ref 123), some (.int (pI 0 (wIx lawKinds (tkWd t p)))), some (.int (nI 4)), w3] [] (n, y, I, L, R) Q) : sm_W ex d 0 0 177 0 [some (.ref 123), w1, w2, w3] [] (n, y, I, L, R) Q := by
  refine w_X11_readLaw_0 ?_
  refine lp_readLaw hd hG hs hw lawKinds [] (-1) rfl ?_
  show sm_W ex d 0 0 177 4 [some (.ref 123), some (.int (lIx 0 lawKinds (tkWd t p) 0 (-1))), some (.int (nI 4)), w3] [] (n, y, I, L, R) Q
  rw [lIx_0 _ lawKinds_g.1]
  exact k
theorem lp_readOrder {ex : sm_O} {d n p : Nat} {y : sm_Y} {I : Nat → Nat → Int32} {L : Nat → Nat → Int64} {R : Nat → Nat → Option Nat} {Q : sm_Q} {t : Tp} {w3 : Option Value} (hd : 1 ≤ d) (hG : sm_G y R) (hs : mR t I L p) (hw : mWs L) : ∀ (r pre : List (List Nat)) (a : Int32), ordKinds = pre ++ r → sm_W ex d 0 0 227 4 [some (.ref 123), some (.int (lIx 0 r (tkWd t p) pre.length a)), some (.int (nI 4)), w3] [] (n, y, I, L, R) Q → sm_W ex d 0 0 227 4 [some (.ref 123), some (.int a), some (.int (nI pre.length)), w3] [] (n, y, I, L, R) Q := by
  intro r
  induction r with
  | nil =>
    intro pre a hpr k
    have hl : pre.length = 4 := by rw [List.append_nil] at hpr; rw [← hpr]; rfl
    rw [hl]
    exact k
  | cons w r ih =>
    intro pre a hpr k
    have hl : pre.length < 4 := by
      have : (pre ++ w :: r).length = 4 := by rw [← hpr]; rfl
      simp at this
      omega
    refine w_X11_readOrder_4 (d1 := 0) hG (by omega) ?_
    rw [if_neg (show ¬ (4 : Int32) ≤ nI pre.length from fun z => by have := (nI_leI (a := 4) (by decide) (by omega)).mp z; omega), nI_clamp (by omega)]
    refine ⟨vp_in_nI (by omega) (by decide), ?_⟩
    have hx := ordKinds_L hw pre.length w (by rw [hpr]; exact getElem?_mid pre w r)
    have hpr2 : ordKinds = (pre ++ [w]) ++ r := by rw [hpr]; simp
    have hl2 : (pre ++ [w]).length = pre.length + 1 := by simp
    have ih := fun a => ih (pre ++ [w]) a hpr2
    rw [hl2] at ih
    have k : sm_W ex d 0 0 227 4 [some (.ref 123), some (.int (lIx 0 r (tkWd t p) (pre.length + 1) (if tkWd t p = w then nI pre.length else a))), some (.int (nI 4)), w3] [] (n, y, I, L, R) Q := k
    refine m_word hG hs hx (ordKinds_g.2 w (by rw [hpr]; simp)) (fun e => ?_) (fun e => ?_)
    · refine w_X11_readOrder_19 ?_
      rw [if_pos rfl, sm_n1]
      rw [if_neg e] at k
      exact ih a k
    · refine w_X11_readOrder_19 ?_
      rw [if_neg (by decide), sm_n1]
      rw [if_pos e] at k
      exact ih _ k
theorem lp_readOrder0 {ex : sm_O} {n : Nat} {y : sm_Y} {I : Nat → Nat → Int32} {L : Nat → Nat → Int64} {R : Nat → Nat → Option Nat} {Q : sm_Q} {d p : Nat} {t : Tp} {w1 w2 w3 : Option Value} (hd : 1 ≤ d) (hG : sm_G y R) (hs : mR t I L p) (hw : mWs L) (k : sm_W ex d 0 0 227 4 [some (.ref 123), some (.int (pI 0 (wIx ordKinds (tkWd t p)))), some (.int (nI 4)), w3] [] (n, y, I, L, R) Q) : sm_W ex d 0 0 227 0 [some (.ref 123), w1, w2, w3] [] (n, y, I, L, R) Q := by
  refine w_X11_readOrder_0 ?_
  refine lp_readOrder hd hG hs hw ordKinds [] (-1) rfl ?_
  show sm_W ex d 0 0 227 4 [some (.ref 123), some (.int (lIx 0 ordKinds (tkWd t p) 0 (-1))), some (.int (nI 4)), w3] [] (n, y, I, L, R) Q
  rw [lIx_0 _ ordKinds_g.1]
  exact k

set_option maxHeartbeats 2000000 in
theorem m_readLaw {ex : sm_O} {n : Nat} {y : sm_Y} {I : Nat → Nat → Int32} {L : Nat → Nat → Int64} {R : Nat → Nat → Option Nat} {Q : sm_Q} {d p pt len : Nat} {t : Tp} {l : List OC} {w1 w2 w3 : Option Value} (hd : 7 ≤ d) (hG : sm_G y R) (hx : mE t false I L p pt len) (hcs : mCs false 133 3 I len l)
    (kf : ∀ (I' : Nat → Nat → Int32) (L' : Nat → Nat → Int64) (q : Nat), (l.length < 12 → rClause t false p pt = .inl q) → (¬ l.length < 12 → q = p) → mG I I' → mL1 L L' → I' 123 19 = 1 → I' 123 18 = nI q → Q none (n, y, I', L', R))
    (kk : ∀ (I' : Nat → Nat → Int32) (L' : Nat → Nat → Int64) (q pt' : Nat) (x : OC) (len' : Nat), l.length < 12 → rClause t false p pt = .inr (q, pt', x) → mG I I' → mL1 L L' → mE t false I' L' q pt' len' → mCs false 133 3 I' len' (l ++ [x]) → Q none (n, y, I', L', R)) :
    sm_W ex d 0 0 177 0 [some (.ref 123), w1, w2, w3] [] (n, y, I, L, R) Q := by
  have hle := hx.le
  obtain ⟨c1, c2, c3⟩ := id hcs
  refine lp_readLaw0 (by omega) hG hx.1 hx.2.1 ?_
  refine w_X11_readLaw_4 (d1 := 6) hG (by omega) ?_
  rw [if_pos (show (4 : Int32) ≤ nI 4 by decide), c1]
  have bad : (l.length < 12 → rClause t false p pt = .inl p) → ∀ (a : Int32) (u2 u3 : Option Value), sm_W ex 6 0 0 157 0 [some (.ref 123), some (.int 0)] [] (n, y, I, L, R) (fun r μ1 => sm_W ex d 0 0 177 57 [some (.ref 123), some (.int a), u2, u3] (r.toList ++ []) μ1 Q) := fun h a u2 u3 => by
    refine m_must (by omega) hG hx.1 hx.2.2.2.1 (fun _ => ?_) (fun z => absurd rfl z)
    refine w_X11_readLaw_57 hG ?_
    have b1 : mBad p I 123 19 = 1 := by unfold mBad; rw [sm_st_j _ _ (by decide), sm_st_s]
    rw [b1, if_neg (by decide)]
    exact kf _ L p h (fun _ => rfl) (mBad_X p I).G (mL1.rfl' L) b1 (by unfold mBad; rw [sm_st_s])
  cases hw : wIx lawKinds (tkWd t p) with
  | none =>
    rw [if_pos (show pI 0 none = -1 from rfl)]
    refine bad (fun _ => ?_) _ _ _
    unfold rClause
    rw [if_neg (show ¬ false = true by decide), hw]
  | some kd =>
    have hkd := (wIx_lt _ _ _ hw).1
    have hk4 : kd < 4 := hkd
    have hlen2 : 2 ≤ (tkWd t p).length := wIx_ne hw (by decide)
    obtain ⟨ek, eE, eN, ept⟩ := tkW_k (t := t) (p := p) rfl (by intro z; rw [z] at hlen2; exact absurd hlen2 (by decide))
    have hnb := (nx_b hle.1).2
    have hr : rClause t false p pt = if kd = 3 then rTimes t false kd (dNum 0) (nx t p) pt else match rSum t false 8 (nx t p) pt with
      | .inl q => .inl q
      | .inr (q, pt', D) => rTimes t false kd D q pt' := by
      unfold rClause
      rw [if_neg (show ¬ false = true by decide), hw]
      rfl
    have hti : ∀ D q pt', rTimes t false kd D q pt' = rIf t false kd D 1 q pt' := fun D q pt' => by
      unfold rTimes
      rw [if_neg (fun z => absurd z.1 (by decide))]
    rw [show pI 0 (some kd) = nI kd from rfl, if_neg (nI_m1 (by omega))]
    by_cases h12 : l.length < 12
    · rw [if_neg (show ¬ (12 : Int32) ≤ nI l.length from fun z => by have := (nI_leI (a := 12) (by decide) (by omega)).mp z; omega)]
      have kf := fun I' L' q h => kf I' L' q (fun _ => h) (fun z => absurd h12 z)
      have kk := fun I' L' q pt' x len' => kk I' L' q pt' x len' h12
      refine m_must (by omega) hG hx.1 hx.2.2.2.1 (fun z => absurd z (by decide)) (fun _ I1 L1 f1 g1 r1 => ?_)
      have x1 := hx.nx f1 g1 (by omega) r1
      refine w_X11_readLaw_57 hG ?_
      have e21 : I1 123 21 = nI l.length := (f1 123 21 (by omega)).trans c1
      rw [x1.2.2.2.1, if_pos rfl, e21, sm_of 8, pk_mul]
      generalize hc8 : 8 * l.length = c8
      have hc8' : c8 + 8 ≤ 96 := by omega
      -- the clause's end: the store at 6
      have s185 : ∀ (K : Nat → Nat → Int32) (L2 : Nat → Nat → Int64) (v1 v3 : Option Value), Q none (n, y, sm_st K 133 (c8 + 6) (K 123 23), L2, R) → sm_W ex d 0 0 177 185 [some (.ref 123), v1, some (.int (nI c8)), v3] [] (n, y, K, L2, R) Q := fun K L2 v1 v3 h => by
        refine w_X11_readLaw_185 hG ?_
        rw [sm_of 6, nI_add, nI_clamp (by omega)]
        exact ⟨vp_in_nI (by omega) (by decide), h⟩
      -- behind the sum
      have bad135 : ∀ (J : Nat → Nat → Int32) (L2 : Nat → Nat → Int64) (q : Nat) (v1 v3 : Option Value), rClause t false p pt = .inl q → mG I J → mL1 L L2 → J 123 19 = 1 → J 123 18 = nI q → sm_W ex d 0 0 177 135 [some (.ref 123), v1, some (.int (nI c8)), v3] [] (n, y, J, L2, R) Q := by
        intro J L2 q v1 v3 e g gl h19 h18
        refine w_X11_readLaw_135 (d1 := 6) hG (by omega) ?_
        rw [sm_of 4, sm_of 5, nI_add, nI_add, nI_clamp (by omega), nI_clamp (by omega), h19, if_neg (by decide)]
        refine ⟨vp_in_nI (by omega) (by decide), vp_in_nI (by omega) (by decide), s185 _ _ _ _ ?_⟩
        refine kf _ L2 q e (((g.st (Or.inl rfl) _ _).st (Or.inl rfl) _ _).st (Or.inl rfl) _ _) gl ?_ ?_
        · rw [sm_st_o _ _ (by decide), sm_st_o _ _ (by decide), sm_st_o _ _ (by decide)]; exact h19
        · rw [sm_st_o _ _ (by decide), sm_st_o _ _ (by decide), sm_st_o _ _ (by decide)]; exact h18
      have s135 : ∀ (J : Nat → Nat → Int32) (L2 : Nat → Nat → Int64) (p2 pt2 len2 : Nat) (D : DD) (v1 v3 : Option Value), rClause t false p pt = rIf t false kd D 1 p2 pt2 → mE t false J L2 p2 pt2 len2 → mG I J → mL1 L L2 → (∀ j, j < c8 → J 133 j = I 133 j) → J 123 21 = nI (l.length + 1) → (∀ k, k < len → cdO J k = cdO I k) → J 133 c8 = nI kd → J 133 (c8 + 3) = nI len → len ≤ len2 → (kd ≠ 3 → len < len2 ∧ sp_inB D ∧ mSX (wdO false) (cdO J) len len2 D) → (kd = 3 → len2 = len) → sm_W ex d 0 0 177 135 [some (.ref 123), v1, some (.int (nI c8)), v3] [] (n, y, J, L2, R) Q := by
        intro J L2 p2 pt2 len2 D v1 v3 e hE g gl lo h21 agr j0 j3 hll hsum h3
        have hle2 := hE.le
        refine w_X11_readLaw_135 (d1 := 6) hG (by omega) ?_
        rw [sm_of 4, sm_of 5, nI_add, nI_add, nI_clamp (by omega), nI_clamp (by omega), hE.2.2.2.1, if_pos rfl, hE.2.2.2.2.2.1]
        refine ⟨vp_in_nI (by omega) (by decide), vp_in_nI (by omega) (by decide), ?_⟩
        generalize hK : sm_st (sm_st J 133 (c8 + 4) (nI len2)) 133 (c8 + 5) (nI len2) = K
        have ko : ∀ a j, ¬ (a = 133 ∧ (j = c8 + 4 ∨ j = c8 + 5)) → K a j = J a j := fun a j h => by rw [← hK, sm_st_or _ _ (by omega), sm_st_or _ _ (by omega)]
        have k4 : K 133 (c8 + 4) = nI len2 := by rw [← hK, sm_st_j _ _ (by omega), sm_st_s]
        have k5 : K 133 (c8 + 5) = nI len2 := by rw [← hK, sm_st_s]
        have kcd : cdO K = cdO J := by rw [← hK, cd_st (by decide), cd_st (by decide)]
        have kE : mE t false K L2 p2 pt2 len2 := hE.kept (fun j _ _ _ => ko 123 j (by omega)) (fun j => ko 132 j (by omega))
        have kg : mG I K := by rw [← hK]; exact (g.st (Or.inl rfl) _ _).st (Or.inl rfl) _ _
        -- the record
        have rcd : ∀ (M : Nat → Nat → Int32) (T : Option DD) (len3 : Nat), (∀ j, ¬ j = c8 + 6 → M 133 j = K 133 j) → M 123 21 = K 123 21 → (∀ k, k < len2 → cdO M k = cdO K k) → M 133 (c8 + 6) = nI len3 → len2 ≤ len3 → (match T with
            | none => len3 = len2
            | some T => len2 < len3 ∧ sp_01 T ∧ mSX (wdO false) (cdO M) len2 len3 T) → mCs false 133 3 M len3 (l ++ [((kd, D, T), 1)]) := by
          intro M T len3 mo m21 mcd m6 hl3 hT
          refine hcs.snoc (by decide) h12 (by rw [m21, ko 123 21 (by omega)]; exact h21) (fun j hj => by rw [mo j (by omega), ko 133 j (by omega)]; exact lo j (by omega)) (by omega) (fun k hk => by rw [mcd k (by omega), kcd]; exact agr k hk) ?_
          refine ⟨len, len2, len2, len3, ?_, by show kd ≤ 3; omega, ?_, ?_, ?_, ?_, hll, by omega, hl3, Nat.le_refl _, fun z => ⟨(hsum z).1, (hsum z).2.1, (hsum z).2.2.mono (fun k q1 q2 => by rw [mcd k q2, kcd])⟩, h3, hT, (show 1 ≤ 20 by decide), fun z => absurd z (by decide)⟩
          · rw [hc8, mo _ (by omega), ko 133 _ (by omega)]; exact j0
          · rw [hc8, mo _ (by omega), ko 133 _ (by omega)]; exact j3
          · rw [hc8, mo _ (by omega)]; exact k4
          · rw [hc8, mo _ (by omega)]; exact k5
          · rw [hc8]; exact m6
        refine m_word (w := wdIf) hG kE.1 rfl wdNot_g.2.2.2.1 (fun nif => ?_) (fun yif => ?_)
        · refine w_X11_readLaw_173 (d1 := 6) hG (by omega) ?_
          rw [if_pos rfl]
          refine s185 _ _ _ _ ?_
          rw [kE.2.2.2.2.2.1]
          have er : rIf t false kd D 1 p2 pt2 = .inr (p2, pt2, ((kd, D, none), 1)) := by unfold rIf; rw [if_neg nif]
          refine kk _ L2 p2 pt2 ((kd, D, none), 1) len2 (e.trans er) (kg.st (Or.inl rfl) _ _) gl (kE.kept (fun j _ _ _ => sm_st_o _ _ (by decide)) (fun j => sm_st_o _ _ (by decide))) ?_
          exact rcd _ none len2 (fun j hj => sm_st_j _ _ hj) (sm_st_o _ _ (by decide)) (fun k _ => by rw [cd_st (by decide)]) (sm_st_s _ _ _ _) (Nat.le_refl _) rfl
        · have er : rIf t false kd D 1 p2 pt2 = match rTest t false 8 (nx t p2) pt2 with
            | .inl q => .inl q
            | .inr (q, pt', T) => .inr (q, pt', ((kd, D, some T), 1)) := by
            unfold rIf
            rw [if_pos yif]
            rfl
          have hp2n := (tkW_k yif (by decide)).2.2.1
          refine w_X11_readLaw_173 (d1 := 6) hG (by omega) ?_
          rw [if_neg (by decide)]
          refine m_next (by omega) hG kE.1 ?_
          intro I3 L3 f3 g3 r3
          have x3 := kE.nx f3 g3 (by omega) r3
          refine w_X11_readLaw_180 (d1 := 6) hG (by omega) ?_
          refine m_exprT (by omega) hG x3 (fun I4 L4 q e4 f4 g4 h19 h18 => ?_) (fun I4 L4 q pt' T len3 e4 f4 g4 x4 agr4 sg4 t01 => ?_)
          · refine s185 _ _ _ _ ?_
            refine kf _ L4 q (by rw [e, er, e4]) (((kg.trans f3.X.G).trans f4.G).st (Or.inl rfl) _ _) ((gl.trans g3).trans g4) ?_ ?_
            · rw [sm_st_o _ _ (by decide)]; exact h19
            · rw [sm_st_o _ _ (by decide)]; exact h18
          · refine s185 _ _ _ _ ?_
            rw [x4.2.2.2.2.2.1]
            refine kk _ L4 q pt' ((kd, D, some T), 1) len3 (by rw [e, er, e4]) (((kg.trans f3.X.G).trans f4.G).st (Or.inl rfl) _ _) ((gl.trans g3).trans g4) (x4.kept (fun j _ _ _ => sm_st_o _ _ (by decide)) (fun j => sm_st_o _ _ (by decide))) ?_
            have hlt := mSX_lt sg4
            refine rcd _ (some T) len3 (fun j hj => by rw [sm_st_j _ _ hj, f4 133 j (by omega) (by omega), f3 133 j (by omega)]) (by rw [sm_st_o _ _ (by decide), f4 123 21 (by omega) (by omega), f3 123 21 (by omega)]) (fun k hk => by rw [cd_st (by decide), agr4 k hk, f3.cd]) (sm_st_s _ _ _ _) (by omega) ⟨hlt, t01, by rw [cd_st (by decide)]; exact sg4⟩
      -- zeros
      have zeros : ∀ (r j : Nat) (K : Nat → Nat → Int32), j + r = 8 → (∀ a i, ¬ (a = 133 ∧ c8 ≤ i ∧ i < c8 + 8) → K a i = I1 a i) → sm_W ex d 0 0 177 75 [some (.ref 123), some (.int (nI kd)), some (.int (nI c8)), some (.int (nI j))] [] (n, y, K, L1, R) Q := by
        intro r
        induction r with
        | zero =>
          intro j K hj ko
          refine w_X11_readLaw_75 (d1 := 6) hG (by omega) ?_
          rw [if_pos (show (8 : Int32) ≤ nI j from (nI_leI (a := 8) (by decide) (by omega)).mpr (by omega)), sm_of 3, nI_add, nI_clamp (by omega), nI_clamp (by omega), ko 123 21 (by omega), e21, sm_n1, ko 123 23 (by omega), x1.2.2.2.2.2.1]
          refine ⟨vp_in_nI (by omega) (by decide), vp_in_nI (by omega) (by decide), ?_⟩
          generalize hJ : sm_st (sm_st (sm_st K 133 c8 (nI kd)) 123 21 (nI (l.length + 1))) 133 (c8 + 3) (nI len) = J
          have jo : ∀ a i, ¬ (a = 133 ∧ c8 ≤ i ∧ i < c8 + 8) → ¬ (a = 123 ∧ i = 21) → J a i = I1 a i := fun a i q1 q2 => by rw [← hJ, sm_st_or _ _ (by omega), sm_st_or _ _ (by omega), sm_st_or _ _ (by omega), ko a i q1]
          have j0 : J 133 c8 = nI kd := by rw [← hJ, sm_st_j _ _ (by omega), sm_st_o _ _ (by decide), sm_st_s]
          have j3 : J 133 (c8 + 3) = nI len := by rw [← hJ, sm_st_s]
          have j21 : J 123 21 = nI (l.length + 1) := by rw [← hJ, sm_st_o _ _ (by decide), sm_st_s]
          have jE : mE t false J L1 (nx t p) pt len := x1.kept (fun i q1 q2 q3 => jo 123 i (by omega) (by omega)) (fun i => jo 132 i (by omega) (by omega))
          have jG : mG I J := fun a i q1 q2 q3 => (jo a i (by omega) (by omega)).trans (f1 a i (by omega))
          have jcd : cdO J = cdO I := by
            rw [← f1.cd]
            funext k
            show (J 134 k, J 135 k) = (I1 134 k, I1 135 k)
            rw [jo 134 k (by omega) (by omega), jo 135 k (by omega) (by omega)]
          have jlo : ∀ i, i < c8 → J 133 i = I 133 i := fun i hi => (jo 133 i (by omega) (by omega)).trans (f1 133 i (by omega))
          have e3 : nI kd = nI 3 ↔ kd = 3 := nI_eq (by omega) (by decide)
          simp only [e3]
          by_cases h3 : kd = 3
          · rw [if_pos h3] at hr ⊢
            exact s135 J L1 (nx t p) pt len (dNum 0) _ _ (by rw [hr, hti]) jE jG g1 jlo j21 (fun k _ => by rw [jcd]) j0 j3 (Nat.le_refl _) (fun z => absurd h3 z) (fun _ => rfl)
          · rw [if_neg h3] at hr ⊢
            refine m_exprS (by omega) hG jE (fun I4 L4 q e4 f4 g4 h19 h18 => ?_) (fun I4 L4 q pt' D len3 e4 f4 g4 x4 agr4 sg4 => ?_)
            · exact bad135 I4 L4 q _ _ (by rw [hr, e4]) (jG.trans f4.G) (g1.trans g4) h19 h18
            · have hlt := mSX_lt sg4
              exact s135 I4 L4 q pt' len3 D _ _ (by rw [hr, e4]; exact hti D q pt') x4 (jG.trans f4.G) (g1.trans g4) (fun i hi => by rw [f4 133 i (by omega) (by omega)]; exact jlo i hi) (by rw [f4 123 21 (by omega) (by omega)]; exact j21) (fun k hk => by rw [agr4 k hk, jcd]) (by rw [f4 133 _ (by omega) (by omega)]; exact j0) (by rw [f4 133 _ (by omega) (by omega)]; exact j3) (by omega) (fun _ => ⟨hlt, (rP_sum t false 8 _ _ _ _ _ e4).B, sg4⟩) (fun z => absurd z h3)
        | succ r ih =>
          intro j K hj ko
          refine w_X11_readLaw_75 (d1 := 6) hG (by omega) ?_
          rw [if_neg (show ¬ (8 : Int32) ≤ nI j from fun z => by have := (nI_leI (a := 8) (by decide) (by omega)).mp z; omega), nI_add, nI_clamp (by omega), sm_n1]
          exact ⟨vp_in_nI (by omega) (by decide), ih (j + 1) _ (by omega) (fun a i q => (sm_st_or _ _ (by omega)).trans (ko a i q))⟩
      exact zeros 8 0 I1 rfl (fun _ _ _ => rfl)
    · rw [if_pos (show (12 : Int32) ≤ nI l.length from (nI_leI (a := 12) (by decide) (by omega)).mpr (by omega))]
      exact bad (fun z => absurd z h12) _ _ _

