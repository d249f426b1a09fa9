set_option maxRecDepth 100000 in
theorem w_X11_isSmall_0 {ex : sm_O} {d n : Nat} {y : sm_Y} {I : Nat → Nat → Int32} {L : Nat → Nat → Int64} {R : Nat → Nat → Option Nat} {Q : sm_Q} {a0 : Int32} (k : if a0 < 97 then (Q (some (.int 0)) (n, y, I, L, R)) else (if 122 < a0 then (Q (some (.int 0)) (n, y, I, L, R)) else (Q (some (.int 1)) (n, y, I, L, R)))) : sm_W ex d 0 0 151 0 [some (.int a0)] [] (n, y, I, L, R) Q := sm_in (sm_in (sm_in (And.intro (fun c1 => have k1t := Eq.mp (if_pos c1) k; sm_in (sm_in (And.intro rfl (And.intro (Or.inl rfl) k1t)))) (fun c1 => have k1f := Eq.mp (if_neg c1) k; sm_in (sm_in (sm_in (And.intro (fun c2 => have k2t := Eq.mp (if_pos c2) k1f; sm_in (sm_in (And.intro rfl (And.intro (Or.inl rfl) k2t)))) (fun c2 => have k2f := Eq.mp (if_neg c2) k1f; sm_in (sm_in (sm_in (And.intro rfl (And.intro (Or.inr rfl) k2f))))))))))))
set_option maxRecDepth 100000 in
theorem w_X11_isDigit_0 {ex : sm_O} {d n : Nat} {y : sm_Y} {I : Nat → Nat → Int32} {L : Nat → Nat → Int64} {R : Nat → Nat → Option Nat} {Q : sm_Q} {a0 : Int32} (k : if a0 < 48 then (Q (some (.int 0)) (n, y, I, L, R)) else (if 57 < a0 then (Q (some (.int 0)) (n, y, I, L, R)) else (Q (some (.int 1)) (n, y, I, L, R)))) : sm_W ex d 0 0 152 0 [some (.int a0)] [] (n, y, I, L, R) Q := sm_in (sm_in (sm_in (And.intro (fun c1 => have k1t := Eq.mp (if_pos c1) k; sm_in (sm_in (And.intro rfl (And.intro (Or.inl rfl) k1t)))) (fun c1 => have k1f := Eq.mp (if_neg c1) k; sm_in (sm_in (sm_in (And.intro (fun c2 => have k2t := Eq.mp (if_pos c2) k1f; sm_in (sm_in (And.intro rfl (And.intro (Or.inl rfl) k2t)))) (fun c2 => have k2f := Eq.mp (if_neg c2) k1f; sm_in (sm_in (sm_in (And.intro rfl (And.intro (Or.inr rfl) k2f))))))))))))
set_option maxRecDepth 100000 in
theorem w_X11_next_0 {ex : sm_O} {d n : Nat} {y : sm_Y} {I : Nat → Nat → Int32} {L : Nat → Nat → Int64} {R : Nat → Nat → Option Nat} {Q : sm_Q} (hG : sm_G y R) (k : sm_W ex d 0 0 154 8 [some (.ref 123)] [] (n, y, sm_st I 123 14 (I 123 15), L, R) Q) : sm_W ex d 0 0 154 0 [some (.ref 123)] [] (n, y, I, L, R) Q := sm_in (sm_in (sm_in (And.intro (hG.1 123 (Nat.le_of_ble_eq_true rfl)) (sm_in (And.intro (hG.1 123 (Nat.le_of_ble_eq_true rfl)) (k))))))
set_option maxRecDepth 100000 in
theorem w_X11_next_8 {ex : sm_O} {d n : Nat} {y : sm_Y} {I : Nat → Nat → Int32} {L : Nat → Nat → Int64} {R : Nat → Nat → Option Nat} {Q : sm_Q} {d1 : Nat} (hG : sm_G y R) (h1 : d1 < d) (k : if (I 123 13) ≤ (I 123 14) then (if (I 123 14) = (I 123 13) then (sm_W ex d 0 0 154 149 [some (.ref 123)] [] (n, y, sm_st (sm_st I 123 15 (I 123 14)) 123 16 0, sm_st L 123 17 0, R) Q) else (vp_in (I 123 14) 400 ∧ sm_W ex d1 0 0 151 0 [some (.int (I 132 (I 123 14).toNatClampNeg))] [] (n, y, sm_st I 123 15 (I 123 14), sm_st L 123 17 0, R) (fun r μ1 => sm_W ex d 0 0 154 87 [some (.ref 123)] (r.toList ++ [.ref 123]) μ1 Q))) else (vp_in (I 123 14) 400 ∧ (if (I 132 (I 123 14).toNatClampNeg) = 32 then (sm_W ex d 0 0 154 8 [some (.ref 123)] [] (n, y, sm_st I 123 14 ((I 123 14) + 1), L, R) Q) else (if (I 123 14) = (I 123 13) then (sm_W ex d 0 0 154 149 [some (.ref 123)] [] (n, y, sm_st (sm_st I 123 15 (I 123 14)) 123 16 0, sm_st L 123 17 0, R) Q) else (sm_W ex d1 0 0 151 0 [some (.int (I 132 (I 123 14).toNatClampNeg))] [] (n, y, sm_st I 123 15 (I 123 14), sm_st L 123 17 0, R) (fun r μ1 => sm_W ex d 0 0 154 87 [some (.ref 123)] (r.toList ++ [.ref 123]) μ1 Q)))))) : sm_W ex d 0 0 154 8 [some (.ref 123)] [] (n, y, I, L, R) Q := sm_in (sm_in (And.intro (hG.1 123 (Nat.le_of_ble_eq_true rfl)) (sm_in (sm_in (And.intro (hG.1 123 (Nat.le_of_ble_eq_true rfl)) (sm_in (And.intro (fun c1 => have k1t := Eq.mp (if_pos c1) k; sm_in (sm_in (sm_in (And.intro (hG.1 123 (Nat.le_of_ble_eq_true rfl)) (sm_in (And.intro (hG.1 123 (Nat.le_of_ble_eq_true rfl)) (sm_in (sm_in (sm_in (And.intro (hG.1 123 (Nat.le_of_ble_eq_true rfl)) (sm_in (sm_in (sm_in (And.intro (hG.1 123 (Nat.le_of_ble_eq_true rfl)) (sm_in (sm_in (And.intro (hG.1 123 (Nat.le_of_ble_eq_true rfl)) (sm_in (And.intro (fun c2 => have k2f := Eq.mp (if_neg c2) k1t; sm_in (sm_in (And.intro (hG.1 123 (Nat.le_of_ble_eq_true rfl)) (sm_gfr rfl (hG.2 123 12 rfl) (sm_in (sm_in (And.intro (hG.1 123 (Nat.le_of_ble_eq_true rfl)) ((have e3 := k2f.1; have k3 := k2f.2; sm_in (Exists.intro 400 (And.intro (hG.1 132 (Nat.le_of_ble_eq_true rfl)) (And.intro e3 (sm_in (And.intro (Nat.le_of_ble_eq_true rfl) (sm_calln h1 (Nat.le_of_ble_eq_true rfl) (Nat.le_of_ble_eq_true rfl) k3))))))))))))))) (fun c2 => have k2t := Eq.mp (if_pos c2) k1t; sm_in (sm_in (sm_in (And.intro (hG.1 123 (Nat.le_of_ble_eq_true rfl)) (sm_in (sm_in (And.intro (hG.1 123 (Nat.le_of_ble_eq_true rfl)) (sm_in (sm_in (And.intro (fun _ => k2t) (fun c => absurd c (by decide : ¬ (0 : Int32) = 3))))))))))))))))))))))))))))))) (fun c1 => have k1f := Eq.mp (if_neg c1) k; sm_in (sm_in (And.intro (hG.1 123 (Nat.le_of_ble_eq_true rfl)) (sm_gfr rfl (hG.2 123 12 rfl) (sm_in (sm_in (And.intro (hG.1 123 (Nat.le_of_ble_eq_true rfl)) ((have e4 := k1f.1; have k4 := k1f.2; sm_in (Exists.intro 400 (And.intro (hG.1 132 (Nat.le_of_ble_eq_true rfl)) (And.intro e4 (sm_in (sm_in (And.intro (fun c5 => have k5f := Eq.mp (if_neg c5) k4; sm_in (sm_in (sm_in (And.intro (hG.1 123 (Nat.le_of_ble_eq_true rfl)) (sm_in (And.intro (hG.1 123 (Nat.le_of_ble_eq_true rfl)) (sm_in (sm_in (sm_in (And.intro (hG.1 123 (Nat.le_of_ble_eq_true rfl)) (sm_in (sm_in (sm_in (And.intro (hG.1 123 (Nat.le_of_ble_eq_true rfl)) (sm_in (sm_in (And.intro (hG.1 123 (Nat.le_of_ble_eq_true rfl)) (sm_in (And.intro (fun c6 => have k6f := Eq.mp (if_neg c6) k5f; sm_in (sm_in (And.intro (hG.1 123 (Nat.le_of_ble_eq_true rfl)) (sm_gfr rfl (hG.2 123 12 rfl) (sm_in (sm_in (And.intro (hG.1 123 (Nat.le_of_ble_eq_true rfl)) (sm_in (Exists.intro 400 (And.intro (hG.1 132 (Nat.le_of_ble_eq_true rfl)) (And.intro e4 (sm_in (And.intro (Nat.le_of_ble_eq_true rfl) (sm_calln h1 (Nat.le_of_ble_eq_true rfl) (Nat.le_of_ble_eq_true rfl) k6f)))))))))))))) (fun c6 => have k6t := Eq.mp (if_pos c6) k5f; sm_in (sm_in (sm_in (And.intro (hG.1 123 (Nat.le_of_ble_eq_true rfl)) (sm_in (sm_in (And.intro (hG.1 123 (Nat.le_of_ble_eq_true rfl)) (sm_in (sm_in (And.intro (fun _ => k6t) (fun c => absurd c (by decide : ¬ (0 : Int32) = 3))))))))))))))))))))))))))))))) (fun c5 => have k5t := Eq.mp (if_pos c5) k4; sm_in (sm_in (And.intro rfl (sm_in (And.intro (hG.1 123 (Nat.le_of_ble_eq_true rfl)) (sm_in (sm_in (sm_in (And.intro (hG.1 123 (Nat.le_of_ble_eq_true rfl)) (sm_in (k5t)))))))))))))))))))))))))))))))))
set_option maxRecDepth 100000 in
theorem w_X11_next_87 {ex : sm_O} {d n : Nat} {y : sm_Y} {I : Nat → Nat → Int32} {L : Nat → Nat → Int64} {R : Nat → Nat → Option Nat} {Q : sm_Q} {s0 : Int32} {d1 : Nat} (hG : sm_G y R) (h1 : d1 < d) (k : if s0 = 0 then (vp_in (I 123 14) 400 ∧ sm_W ex d1 0 0 152 0 [some (.int (I 132 (I 123 14).toNatClampNeg))] [] (n, y, I, L, R) (fun r μ1 => sm_W ex d 0 0 154 106 [some (.ref 123)] (r.toList ++ [.ref 123]) μ1 Q)) else (sm_W ex d 0 0 154 149 [some (.ref 123)] [] (n, y, sm_st I 123 16 1, L, R) Q)) : sm_W ex d 0 0 154 87 [some (.ref 123)] [.int s0, .ref 123] (n, y, I, L, R) Q := sm_in (And.intro (fun c1 => have k1t := Eq.mp (if_pos c1) k; sm_in (sm_in (And.intro (hG.1 123 (Nat.le_of_ble_eq_true rfl)) (sm_gfr rfl (hG.2 123 12 rfl) (sm_in (sm_in (And.intro (hG.1 123 (Nat.le_of_ble_eq_true rfl)) ((have e2 := k1t.1; have k2 := k1t.2; sm_in (Exists.intro 400 (And.intro (hG.1 132 (Nat.le_of_ble_eq_true rfl)) (And.intro e2 (sm_in (And.intro (Nat.le_of_ble_eq_true rfl) (sm_calln h1 (Nat.le_of_ble_eq_true rfl) (Nat.le_of_ble_eq_true rfl) k2))))))))))))))) (fun c1 => have k1f := Eq.mp (if_neg c1) k; sm_in (sm_in (sm_in (And.intro (hG.1 123 (Nat.le_of_ble_eq_true rfl)) (sm_in (sm_in (And.intro (hG.1 123 (Nat.le_of_ble_eq_true rfl)) (sm_in (sm_in (And.intro (fun _ => k1f) (fun c => absurd c (by decide : ¬ (1 : Int32) = 3)))))))))))))
set_option maxRecDepth 100000 in
theorem w_X11_next_106 {ex : sm_O} {d n : Nat} {y : sm_Y} {I : Nat → Nat → Int32} {L : Nat → Nat → Int64} {R : Nat → Nat → Option Nat} {Q : sm_Q} {s0 : Int32} (hG : sm_G y R) (k : if s0 = 0 then (vp_in (I 123 14) 400 ∧ sm_W ex d 0 0 154 149 [some (.ref 123)] [] (n, y, sm_st (sm_st I 123 16 3) 123 15 ((I 123 15) + 1), sm_st L 123 17 ((I 132 (I 123 14).toNatClampNeg).toInt64), R) Q) else (sm_W ex d 0 0 154 149 [some (.ref 123)] [] (n, y, sm_st I 123 16 2, L, R) Q)) : sm_W ex d 0 0 154 106 [some (.ref 123)] [.int s0, .ref 123] (n, y, I, L, R) Q := sm_in (And.intro (fun c1 => have k1t := Eq.mp (if_pos c1) k; sm_in (sm_in (And.intro (hG.1 123 (Nat.le_of_ble_eq_true rfl)) (sm_in (sm_in (And.intro (hG.1 123 (Nat.le_of_ble_eq_true rfl)) (sm_in (sm_in (And.intro (fun c => absurd (by decide : (3 : Int32) = 3) c) (fun _ => sm_in (sm_in (sm_in (And.intro (hG.1 123 (Nat.le_of_ble_eq_true rfl)) (sm_gfr rfl (hG.2 123 12 rfl) (sm_in (sm_in (And.intro (hG.1 123 (Nat.le_of_ble_eq_true rfl)) ((have e2 := k1t.1; have k2 := k1t.2; sm_in (Exists.intro 400 (And.intro (hG.1 132 (Nat.le_of_ble_eq_true rfl)) (And.intro e2 (sm_in (sm_in (And.intro (hG.1 123 (Nat.le_of_ble_eq_true rfl)) (sm_in (sm_in (And.intro rfl (sm_in (And.intro (hG.1 123 (Nat.le_of_ble_eq_true rfl)) (sm_in (sm_in (sm_in (And.intro (hG.1 123 (Nat.le_of_ble_eq_true rfl)) (k2))))))))))))))))))))))))))))))))))) (fun c1 => have k1f := Eq.mp (if_neg c1) k; sm_in (sm_in (sm_in (And.intro (hG.1 123 (Nat.le_of_ble_eq_true rfl)) (sm_in (sm_in (And.intro (hG.1 123 (Nat.le_of_ble_eq_true rfl)) (sm_in (sm_in (And.intro (fun _ => k1f) (fun c => absurd c (by decide : ¬ (2 : Int32) = 3)))))))))))))
set_option maxRecDepth 100000 in
theorem w_X11_next_149 {ex : sm_O} {d n : Nat} {y : sm_Y} {I : Nat → Nat → Int32} {L : Nat → Nat → Int64} {R : Nat → Nat → Option Nat} {Q : sm_Q} {d1 : Nat} (hG : sm_G y R) (h1 : d1 < d) (k : if (I 123 16) = 1 then (if (I 123 13) ≤ (I 123 15) then (sm_W ex d 0 0 154 243 [some (.ref 123)] [] (n, y, I, L, R) Q) else (vp_in (I 123 15) 400 ∧ sm_W ex d1 0 0 151 0 [some (.int (I 132 (I 123 15).toNatClampNeg))] [] (n, y, I, L, R) (fun r μ1 => sm_W ex d 0 0 154 180 [some (.ref 123)] (r.toList ++ []) μ1 Q))) else (sm_W ex d 0 0 154 243 [some (.ref 123)] [] (n, y, I, L, R) Q)) : sm_W ex d 0 0 154 149 [some (.ref 123)] [] (n, y, I, L, R) Q := sm_in (sm_in (And.intro (hG.1 123 (Nat.le_of_ble_eq_true rfl)) (sm_in (sm_in (And.intro (fun c1 => have k1f := Eq.mp (if_neg c1) k; k1f) (fun c1 => have k1t := Eq.mp (if_pos c1) k; sm_in (sm_in (And.intro (hG.1 123 (Nat.le_of_ble_eq_true rfl)) (sm_in (sm_in (And.intro (hG.1 123 (Nat.le_of_ble_eq_true rfl)) (sm_in (And.intro (fun c2 => have k2t := Eq.mp (if_pos c2) k1t; k2t) (fun c2 => have k2f := Eq.mp (if_neg c2) k1t; sm_in (sm_in (And.intro (hG.1 123 (Nat.le_of_ble_eq_true rfl)) (sm_gfr rfl (hG.2 123 12 rfl) (sm_in (sm_in (And.intro (hG.1 123 (Nat.le_of_ble_eq_true rfl)) ((have e3 := k2f.1; have k3 := k2f.2; sm_in (Exists.intro 400 (And.intro (hG.1 132 (Nat.le_of_ble_eq_true rfl)) (And.intro e3 (sm_in (And.intro (Nat.le_of_ble_eq_true rfl) (sm_calln h1 (Nat.le_of_ble_eq_true rfl) (Nat.le_of_ble_eq_true rfl) k3))))))))))))))))))))))))))))
set_option maxRecDepth 100000 in
theorem w_X11_next_180 {ex : sm_O} {d n : Nat} {y : sm_Y} {I : Nat → Nat → Int32} {L : Nat → Nat → Int64} {R : Nat → Nat → Option Nat} {Q : sm_Q} {s0 : Int32} (hG : sm_G y R) (k : if s0 = 0 then (sm_W ex d 0 0 154 243 [some (.ref 123)] [] (n, y, I, L, R) Q) else (if 10 ≤ ((I 123 15) - (I 123 14)) then (sm_W ex d 0 0 154 149 [some (.ref 123)] [] (n, y, sm_st I 123 15 ((I 123 15) + 1), sm_st L 123 17 (-1), R) Q) else (vp_in (I 123 15) 400 ∧ sm_W ex d 0 0 154 149 [some (.ref 123)] [] (n, y, sm_st I 123 15 ((I 123 15) + 1), sm_st L 123 17 ((((L 123 17) * 32) + ((I 132 (I 123 15).toNatClampNeg).toInt64)) - 96), R) Q))) : sm_W ex d 0 0 154 180 [some (.ref 123)] [.int s0] (n, y, I, L, R) Q := sm_in (And.intro (fun c1 => have k1t := Eq.mp (if_pos c1) k; k1t) (fun c1 => have k1f := Eq.mp (if_neg c1) k; sm_in (sm_in (sm_in (And.intro (hG.1 123 (Nat.le_of_ble_eq_true rfl)) (sm_in (sm_in (And.intro (hG.1 123 (Nat.le_of_ble_eq_true rfl)) (sm_in (sm_in (sm_in (And.intro (fun c2 => have k2t := Eq.mp (if_pos c2) k1f; sm_in (sm_in (And.intro (hG.1 123 (Nat.le_of_ble_eq_true rfl)) (sm_in (sm_in (And.intro rfl (sm_in (And.intro (hG.1 123 (Nat.le_of_ble_eq_true rfl)) (sm_in (sm_in (sm_in (And.intro (hG.1 123 (Nat.le_of_ble_eq_true rfl)) (sm_in (k2t)))))))))))))) (fun c2 => have k2f := Eq.mp (if_neg c2) k1f; sm_in (sm_in (And.intro (hG.1 123 (Nat.le_of_ble_eq_true rfl)) (sm_in (sm_in (sm_in (sm_in (And.intro (hG.1 123 (Nat.le_of_ble_eq_true rfl)) (sm_gfr rfl (hG.2 123 12 rfl) (sm_in (sm_in (And.intro (hG.1 123 (Nat.le_of_ble_eq_true rfl)) ((have e3 := k2f.1; have k3 := k2f.2; sm_in (Exists.intro 400 (And.intro (hG.1 132 (Nat.le_of_ble_eq_true rfl)) (And.intro e3 (sm_in (sm_in (sm_in (sm_in (sm_in (sm_in (And.intro (hG.1 123 (Nat.le_of_ble_eq_true rfl)) (sm_in (sm_in (And.intro rfl (sm_in (And.intro (hG.1 123 (Nat.le_of_ble_eq_true rfl)) (sm_in (sm_in (sm_in (And.intro (hG.1 123 (Nat.le_of_ble_eq_true rfl)) (sm_in (k3)))))))))))))))))))))))))))))))))))))))))))))))
set_option maxRecDepth 100000 in
theorem w_X11_next_243 {ex : sm_O} {d n : Nat} {y : sm_Y} {I : Nat → Nat → Int32} {L : Nat → Nat → Int64} {R : Nat → Nat → Option Nat} {Q : sm_Q} {d1 : Nat} (hG : sm_G y R) (h1 : d1 < d) (k : if (I 123 16) = 2 then (if (I 123 13) ≤ (I 123 15) then (Q none (n, y, I, L, R)) else (vp_in (I 123 15) 400 ∧ sm_W ex d1 0 0 152 0 [some (.int (I 132 (I 123 15).toNatClampNeg))] [] (n, y, I, L, R) (fun r μ1 => sm_W ex d 0 0 154 274 [some (.ref 123)] (r.toList ++ []) μ1 Q))) else (Q none (n, y, I, L, R))) : sm_W ex d 0 0 154 243 [some (.ref 123)] [] (n, y, I, L, R) Q := sm_in (sm_in (And.intro (hG.1 123 (Nat.le_of_ble_eq_true rfl)) (sm_in (sm_in (And.intro (fun c1 => have k1f := Eq.mp (if_neg c1) k; sm_in (And.intro rfl (And.intro rfl k1f))) (fun c1 => have k1t := Eq.mp (if_pos c1) k; sm_in (sm_in (And.intro (hG.1 123 (Nat.le_of_ble_eq_true rfl)) (sm_in (sm_in (And.intro (hG.1 123 (Nat.le_of_ble_eq_true rfl)) (sm_in (And.intro (fun c2 => have k2t := Eq.mp (if_pos c2) k1t; sm_in (And.intro rfl (And.intro rfl k2t))) (fun c2 => have k2f := Eq.mp (if_neg c2) k1t; sm_in (sm_in (And.intro (hG.1 123 (Nat.le_of_ble_eq_true rfl)) (sm_gfr rfl (hG.2 123 12 rfl) (sm_in (sm_in (And.intro (hG.1 123 (Nat.le_of_ble_eq_true rfl)) ((have e3 := k2f.1; have k3 := k2f.2; sm_in (Exists.intro 400 (And.intro (hG.1 132 (Nat.le_of_ble_eq_true rfl)) (And.intro e3 (sm_in (And.intro (Nat.le_of_ble_eq_true rfl) (sm_calln h1 (Nat.le_of_ble_eq_true rfl) (Nat.le_of_ble_eq_true rfl) k3))))))))))))))))))))))))))))
set_option maxRecDepth 100000 in
theorem w_X11_next_274 {ex : sm_O} {d n : Nat} {y : sm_Y} {I : Nat → Nat → Int32} {L : Nat → Nat → Int64} {R : Nat → Nat → Option Nat} {Q : sm_Q} {s0 : Int32} (hG : sm_G y R) (k : if s0 = 0 then (Q none (n, y, I, L, R)) else (if (lg_cmp (L 123 17) 1000000) ≤ 0 then (vp_in (I 123 15) 400 ∧ sm_W ex d 0 0 154 243 [some (.ref 123)] [] (n, y, sm_st I 123 15 ((I 123 15) + 1), sm_st L 123 17 ((((L 123 17) * 10) + ((I 132 (I 123 15).toNatClampNeg).toInt64)) - 48), R) Q) else (sm_W ex d 0 0 154 243 [some (.ref 123)] [] (n, y, sm_st I 123 15 ((I 123 15) + 1), sm_st L 123 17 (L 123 17), R) Q))) : sm_W ex d 0 0 154 274 [some (.ref 123)] [.int s0] (n, y, I, L, R) Q := sm_in (And.intro (fun c1 => have k1t := Eq.mp (if_pos c1) k; sm_in (And.intro rfl (And.intro rfl k1t))) (fun c1 => have k1f := Eq.mp (if_neg c1) k; sm_in (sm_in (sm_in (And.intro (hG.1 123 (Nat.le_of_ble_eq_true rfl)) (sm_in (sm_in (sm_in (And.intro (fun c2 => have k2t := Eq.mp (if_pos c2) k1f; sm_in (sm_in (And.intro (hG.1 123 (Nat.le_of_ble_eq_true rfl)) (sm_in (sm_in (sm_in (sm_in (And.intro (hG.1 123 (Nat.le_of_ble_eq_true rfl)) (sm_gfr rfl (hG.2 123 12 rfl) (sm_in (sm_in (And.intro (hG.1 123 (Nat.le_of_ble_eq_true rfl)) ((have e3 := k2t.1; have k3 := k2t.2; sm_in (Exists.intro 400 (And.intro (hG.1 132 (Nat.le_of_ble_eq_true rfl)) (And.intro e3 (sm_in (sm_in (sm_in (sm_in (sm_in (And.intro (hG.1 123 (Nat.le_of_ble_eq_true rfl)) (sm_in (sm_in (And.intro rfl (sm_in (And.intro (hG.1 123 (Nat.le_of_ble_eq_true rfl)) (sm_in (sm_in (sm_in (And.intro (hG.1 123 (Nat.le_of_ble_eq_true rfl)) (sm_in (k3)))))))))))))))))))))))))))))))))) (fun c2 => have k2f := Eq.mp (if_neg c2) k1f; sm_in (sm_in (And.intro (hG.1 123 (Nat.le_of_ble_eq_true rfl)) (sm_in (sm_in (And.intro (hG.1 123 (Nat.le_of_ble_eq_true rfl)) (sm_in (sm_in (And.intro rfl (sm_in (And.intro (hG.1 123 (Nat.le_of_ble_eq_true rfl)) (sm_in (sm_in (sm_in (And.intro (hG.1 123 (Nat.le_of_ble_eq_true rfl)) (sm_in (k2f))))))))))))))))))))))))))
set_option maxRecDepth 100000 in
theorem w_X11_isWord_0 {ex : sm_O} {d n : Nat} {y : sm_Y} {I : Nat → Nat → Int32} {L : Nat → Nat → Int64} {R : Nat → Nat → Option Nat} {Q : sm_Q} {w2 : Option Value} {a1 : Int64} (hG : sm_G y R) (k : if (I 123 16) = 1 then (if (lg_cmp (L 123 17) a1) = 0 then (Q (some (.int 1)) (n, y, I, L, R)) else (Q (some (.int 0)) (n, y, I, L, R))) else (Q (some (.int 0)) (n, y, I, L, R))) : sm_W ex d 0 0 155 0 [some (.ref 123), some (.long a1), w2] [] (n, y, I, L, R) Q := sm_in (sm_in (And.intro (hG.1 123 (Nat.le_of_ble_eq_true rfl)) (sm_in (sm_in (And.intro (fun c1 => have k1f := Eq.mp (if_neg c1) k; sm_in (sm_in (And.intro rfl (And.intro (Or.inl rfl) k1f)))) (fun c1 => have k1t := Eq.mp (if_pos c1) k; sm_in (sm_in (And.intro (hG.1 123 (Nat.le_of_ble_eq_true rfl)) (sm_in (sm_in (sm_in (And.intro (fun c2 => have k2f := Eq.mp (if_neg c2) k1t; sm_in (sm_in (And.intro rfl (And.intro (Or.inl rfl) k2f)))) (fun c2 => have k2t := Eq.mp (if_pos c2) k1t; sm_in (sm_in (sm_in (And.intro rfl (And.intro (Or.inr rfl) k2t)))))))))))))))))
set_option maxRecDepth 100000 in
theorem w_X11_isSign_0 {ex : sm_O} {d n : Nat} {y : sm_Y} {I : Nat → Nat → Int32} {L : Nat → Nat → Int64} {R : Nat → Nat → Option Nat} {Q : sm_Q} {a1 : Int32} (hG : sm_G y R) (k : if (I 123 16) = 3 then (if (lg_cmp (L 123 17) a1.toInt64) = 0 then (Q (some (.int 1)) (n, y, I, L, R)) else (Q (some (.int 0)) (n, y, I, L, R))) else (Q (some (.int 0)) (n, y, I, L, R))) : sm_W ex d 0 0 156 0 [some (.ref 123), some (.int a1)] [] (n, y, I, L, R) Q := sm_in (sm_in (And.intro (hG.1 123 (Nat.le_of_ble_eq_true rfl)) (sm_in (sm_in (And.intro (fun c1 => have k1f := Eq.mp (if_neg c1) k; sm_in (sm_in (And.intro rfl (And.intro (Or.inl rfl) k1f)))) (fun c1 => have k1t := Eq.mp (if_pos c1) k; sm_in (sm_in (And.intro (hG.1 123 (Nat.le_of_ble_eq_true rfl)) (sm_in (sm_in (sm_in (sm_in (And.intro (fun c2 => have k2f := Eq.mp (if_neg c2) k1t; sm_in (sm_in (And.intro rfl (And.intro (Or.inl rfl) k2f)))) (fun c2 => have k2t := Eq.mp (if_pos c2) k1t; sm_in (sm_in (sm_in (And.intro rfl (And.intro (Or.inr rfl) k2t))))))))))))))))))
set_option maxRecDepth 100000 in
theorem w_X11_must_0 {ex : sm_O} {d n : Nat} {y : sm_Y} {I : Nat → Nat → Int32} {L : Nat → Nat → Int64} {R : Nat → Nat → Option Nat} {Q : sm_Q} {a1 : Int32} {d1 : Nat} (hG : sm_G y R) (h1 : d1 < d) (k : if (I 123 19) = 0 then (if a1 = 0 then (sm_W ex d 0 0 157 35 [some (.ref 123), some (.int a1)] [] (n, y, sm_st (sm_st I 123 19 1) 123 18 (I 123 14), L, R) Q) else (sm_W ex d1 0 0 154 0 [some (.ref 123)] [] (n, y, I, L, R) (fun r μ1 => sm_W ex d 0 0 157 35 [some (.ref 123), some (.int a1)] (r.toList ++ []) μ1 Q))) else (sm_W ex d 0 0 157 35 [some (.ref 123), some (.int a1)] [] (n, y, I, L, R) Q)) : sm_W ex d 0 0 157 0 [some (.ref 123), some (.int a1)] [] (n, y, I, L, R) Q := sm_in (sm_in (And.intro (hG.1 123 (Nat.le_of_ble_eq_true rfl)) (sm_in (And.intro (fun c1 => have k1f := Eq.mp (if_neg c1) k; sm_in (sm_in (And.intro (hG.1 123 (Nat.le_of_ble_eq_true rfl)) (sm_in (And.intro (fun _ => k1f) (fun c => absurd c c1)))))) (fun c1 => have k1t := Eq.mp (if_pos c1) k; sm_in (sm_in (And.intro (fun c2 => have k2f := Eq.mp (if_neg c2) k1t; sm_in (sm_in (And.intro (hG.1 123 (Nat.le_of_ble_eq_true rfl)) (sm_in (And.intro (fun c => absurd c1 c) (fun _ => sm_in (sm_in (Exists.intro 11 (And.intro (hG.1 123 (Nat.le_of_ble_eq_true rfl)) (And.intro rfl (sm_calln h1 (Nat.le_of_ble_eq_true rfl) (Nat.le_of_ble_eq_true rfl) k2f))))))))))) (fun c2 => have k2t := Eq.mp (if_pos c2) k1t; sm_in (sm_in (sm_in (And.intro (hG.1 123 (Nat.le_of_ble_eq_true rfl)) (And.intro (Or.inr rfl) (sm_in (sm_in (sm_in (And.intro (hG.1 123 (Nat.le_of_ble_eq_true rfl)) (sm_in (And.intro (hG.1 123 (Nat.le_of_ble_eq_true rfl)) (sm_in (sm_in (And.intro (hG.1 123 (Nat.le_of_ble_eq_true rfl)) (sm_in (And.intro (fun _ => k2t) (fun c => absurd c (by decide : ¬ (1 : Int32) = 0)))))))))))))))))))))))))
set_option maxRecDepth 100000 in
theorem w_X11_must_35 {ex : sm_O} {d n : Nat} {y : sm_Y} {I : Nat → Nat → Int32} {L : Nat → Nat → Int64} {R : Nat → Nat → Option Nat} {Q : sm_Q} {w0 : Option Value} {w1 : Option Value} (k : Q none (n, y, I, L, R)) : sm_W ex d 0 0 157 35 [w0, w1] [] (n, y, I, L, R) Q := sm_in (And.intro rfl (And.intro rfl k))
set_option maxRecDepth 100000 in
theorem w_X11_number_0 {ex : sm_O} {d n : Nat} {y : sm_Y} {I : Nat → Nat → Int32} {L : Nat → Nat → Int64} {R : Nat → Nat → Option Nat} {Q : sm_Q} {w2 : Option Value} {w4 : Option Value} {w5 : Option Value} {a1 : Int64} {a3 : Int64} {d1 : Nat} (hG : sm_G y R) (h1 : d1 < d) (k : if (I 123 16) = 2 then (sm_W ex d1 0 0 124 0 [some (.long (L 123 17)), none, some (.long a1), none, some (.long a3), none] [] (n, y, I, L, R) (fun r μ1 => sm_W ex d 0 0 158 25 [some (.ref 123), some (.long a1), w2, some (.long a3), sm_iv w4, some (.int ((L 123 17).toInt32))] (r.toList ++ [.ref 123]) μ1 Q)) else (sm_W ex d1 0 0 157 0 [some (.ref 123), some (.int 0)] [] (n, y, I, L, R) (fun r μ1 => sm_W ex d 0 0 158 36 [some (.ref 123), some (.long a1), w2, some (.long a3), sm_iv w4, some (.int ((L 123 17).toInt32))] (r.toList ++ []) μ1 Q))) : sm_W ex d 0 0 158 0 [some (.ref 123), some (.long a1), w2, some (.long a3), w4, w5] [] (n, y, I, L, R) Q := sm_in (sm_in (And.intro (hG.1 123 (Nat.le_of_ble_eq_true rfl)) (sm_in (sm_in (And.intro (Nat.le_of_ble_eq_true rfl) (sm_in (sm_in (sm_in (And.intro (hG.1 123 (Nat.le_of_ble_eq_true rfl)) (sm_in (sm_in (And.intro (fun c1 => have k1f := Eq.mp (if_neg c1) k; sm_in (sm_in (Exists.intro 11 (And.intro (hG.1 123 (Nat.le_of_ble_eq_true rfl)) (And.intro rfl (sm_calln h1 (Nat.le_of_ble_eq_true rfl) (Nat.le_of_ble_eq_true rfl) k1f)))))) (fun c1 => have k1t := Eq.mp (if_pos c1) k; sm_in (sm_in (And.intro (hG.1 123 (Nat.le_of_ble_eq_true rfl)) (sm_in (sm_in (sm_in (And.intro (Nat.le_of_ble_eq_true rfl) (sm_calln h1 (Nat.le_of_ble_eq_true rfl) (Nat.le_of_ble_eq_true rfl) k1t))))))))))))))))))))
set_option maxRecDepth 100000 in
theorem w_X11_number_25 {ex : sm_O} {d n : Nat} {y : sm_Y} {I : Nat → Nat → Int32} {L : Nat → Nat → Int64} {R : Nat → Nat → Option Nat} {Q : sm_Q} {w0 : Option Value} {w1 : Option Value} {w2 : Option Value} {w3 : Option Value} {w4 : Option Value} {w5 : Option Value} {s0 : Int32} {d1 : Nat} (hG : sm_G y R) (h1 : d1 < d) (k : if s0 = 0 then (sm_W ex d1 0 0 157 0 [some (.ref 123), some (.int 0)] [] (n, y, I, L, R) (fun r μ1 => sm_W ex d 0 0 158 36 [w0, w1, w2, w3, w4, w5] (r.toList ++ []) μ1 Q)) else (sm_W ex d1 0 0 157 0 [some (.ref 123), some (.int 1)] [] (n, y, I, L, R) (fun r μ1 => sm_W ex d 0 0 158 36 [w0, w1, w2, w3, w4, w5] (r.toList ++ []) μ1 Q))) : sm_W ex d 0 0 158 25 [w0, w1, w2, w3, w4, w5] [.int s0, .ref 123] (n, y, I, L, R) Q := sm_in (And.intro (fun c1 => have k1t := Eq.mp (if_pos c1) k; sm_in (sm_in (Exists.intro 11 (And.intro (hG.1 123 (Nat.le_of_ble_eq_true rfl)) (And.intro rfl (sm_calln h1 (Nat.le_of_ble_eq_true rfl) (Nat.le_of_ble_eq_true rfl) k1t)))))) (fun c1 => have k1f := Eq.mp (if_neg c1) k; sm_in (sm_in (sm_in (Exists.intro 11 (And.intro (hG.1 123 (Nat.le_of_ble_eq_true rfl)) (And.intro rfl (sm_calln h1 (Nat.le_of_ble_eq_true rfl) (Nat.le_of_ble_eq_true rfl) k1f))))))))
set_option maxRecDepth 100000 in
theorem w_X11_number_36 {ex : sm_O} {d n : Nat} {y : sm_Y} {I : Nat → Nat → Int32} {L : Nat → Nat → Int64} {R : Nat → Nat → Option Nat} {Q : sm_Q} {w0 : Option Value} {w1 : Option Value} {w2 : Option Value} {w3 : Option Value} {w4 : Option Value} {a5 : Int32} (k : Q (some (.int a5)) (n, y, I, L, R)) : sm_W ex d 0 0 158 36 [w0, w1, w2, w3, w4, some (.int a5)] [] (n, y, I, L, R) Q := sm_in (sm_in (And.intro rfl k))
-- TOKENS OF THE MODEL
def wcN (t : Tp) (p : Nat) : Nat → Nat
  | 0 => 0
  | i + 1 => wcN t p i * 32 + (t.2 (p + i) - 96)
def rc : List Nat → Nat
  | [] => 0
  | c :: r => rc r * 32 + (c - 96)
def tkCr (t : Tp) (p : Nat) : Nat → List Nat
  | 0 => []
  | i + 1 => t.2 (p + i) :: tkCr t p i
theorem wcN_rc (t : Tp) (p : Nat) : ∀ i, wcN t p i = rc (tkCr t p i)
  | 0 => rfl
  | i + 1 => by show wcN t p i * 32 + _ = rc (tkCr t p i) * 32 + _; rw [wcN_rc t p i]
theorem tkCr_snoc (t : Tp) : ∀ (i p : Nat), tkCr t p (i + 1) = tkCr t (p + 1) i ++ [t.2 p]
  | 0, p => rfl
  | i + 1, p => by
    show t.2 (p + (i + 1)) :: tkCr t p (i + 1) = (t.2 (p + 1 + i) :: tkCr t (p + 1) i) ++ [t.2 p]
    rw [tkCr_snoc t i p, show p + (i + 1) = p + 1 + i by omega]
    rfl
theorem tkCr_rev (t : Tp) : ∀ (i p : Nat), tkCr t p i = (tkC t p i).reverse
  | 0, p => rfl
  | i + 1, p => by
    rw [tkCr_snoc, tkCr_rev t i (p + 1)]
    show _ = (t.2 p :: tkC t (p + 1) i).reverse
    rw [List.reverse_cons]
theorem rc_inj : ∀ (a b : List Nat), (∀ c ∈ a, 97 ≤ c ∧ c ≤ 122) → (∀ c ∈ b, 97 ≤ c ∧ c ≤ 122) → rc a = rc b → a = b
  | [], [], _, _, _ => rfl
  | [], c :: r, _, hb, h => by
    have := hb c List.mem_cons_self
    have h : 0 = rc r * 32 + (c - 96) := h
    omega
  | c :: r, [], ha, _, h => by
    have := ha c List.mem_cons_self
    have h : rc r * 32 + (c - 96) = 0 := h
    omega
  | c :: r, c' :: r', ha, hb, h => by
    have h1 := ha c List.mem_cons_self
    have h2 := hb c' List.mem_cons_self
    have h : rc r * 32 + (c - 96) = rc r' * 32 + (c' - 96) := h
    have e1 : c = c' := by omega
    have e2 : rc r = rc r' := by omega
    rw [e1, rc_inj r r' (fun x hx => ha x (List.mem_cons_of_mem _ hx)) (fun x hx => hb x (List.mem_cons_of_mem _ hx)) e2]
theorem rc_lt : ∀ (a : List Nat), (∀ c ∈ a, 97 ≤ c ∧ c ≤ 122) → rc a < 32 ^ a.length
  | [], _ => by decide
  | c :: r, h => by
    have h1 := h c List.mem_cons_self
    have h2 := rc_lt r (fun x hx => h x (List.mem_cons_of_mem _ hx))
    show rc r * 32 + (c - 96) < 32 ^ (r.length + 1)
    rw [Nat.pow_succ]
    omega
theorem rc_lt50 {a : List Nat} (h : ∀ c ∈ a, 97 ≤ c ∧ c ≤ 122) (hl : a.length ≤ 10) : rc a < 2 ^ 50 := by
  have h1 := rc_lt a h
  have h2 : 32 ^ a.length ≤ 32 ^ 10 := Nat.pow_le_pow_right (by decide) hl
  have h3 : (32 : Nat) ^ 10 = 2 ^ 50 := by decide
  omega
theorem tkC_mem (t : Tp) : ∀ (i p c : Nat), c ∈ tkC t p i → ∃ j, p ≤ j ∧ j < p + i ∧ c = t.2 j
  | 0, p, c, h => by cases h
  | i + 1, p, c, h => by
    have h : c ∈ t.2 p :: tkC t (p + 1) i := h
    rcases List.mem_cons.mp h with h | h
    · exact ⟨p, by omega, by omega, h⟩
    · obtain ⟨j, h1, h2, h3⟩ := tkC_mem t i (p + 1) c h
      exact ⟨j, by omega, by omega, h3⟩
theorem tkCr_letters {t : Tp} {p n : Nat} (h : ∀ i, p ≤ i → i < p + n → 97 ≤ t.2 i ∧ t.2 i ≤ 122) : ∀ c ∈ tkCr t p n, 97 ≤ c ∧ c ≤ 122 := by
  intro c hc
  rw [tkCr_rev, List.mem_reverse] at hc
  obtain ⟨j, h1, h2, h3⟩ := tkC_mem t n p c hc
  rw [h3]
  exact h j h1 h2
def nW (v : Nat) (x : Int64) : Prop := ∃ u : Nat, x = lN u ∧ u ≤ 20000000 ∧ (v ≤ 1000000 → u = v) ∧ (1000000 < v → 1000000 < u)
def wV (t : Tp) (p n : Nat) : Int64 := if n ≤ 10 then lN (wcN t p n) else -1
def wOK (t : Tp) (p : Nat) (x : Int64) : Prop := (tkK t p = 3 → x = lN (t.2 p)) ∧ (tkK t p = 1 → x = wV t p (tkE t p - p)) ∧ (tkK t p = 2 → nW (tkN t p) x)
def mTk (t : Tp) (I : Nat → Nat → Int32) : Prop := I 123 13 = nI t.1 ∧ t.1 ≤ 400 ∧ ∀ j, j < t.1 → I 132 j = nI (t.2 j) ∧ t.2 j < 256
/-- the model at a token -/
def mR (t : Tp) (I : Nat → Nat → Int32) (L : Nat → Nat → Int64) (p : Nat) : Prop := mTk t I ∧ I 123 14 = nI p ∧ I 123 15 = nI (tkE t p) ∧ I 123 16 = nI (tkK t p) ∧ wOK t p (L 123 17) ∧ p ≤ t.1 ∧ I 123 18 = -1
/-- what a token more touches -/
def mF1 (I I' : Nat → Nat → Int32) : Prop := ∀ a j, ¬ (a = 123 ∧ 14 ≤ j ∧ j ≤ 16) → I' a j = I a j
def mL1 (L L' : Nat → Nat → Int64) : Prop := ∀ a j, ¬ (a = 123 ∧ j = 17) → L' a j = L a j
theorem mF1.st {I J : Nat → Nat → Int32} (h : mF1 I J) {j : Nat} (hj : 14 ≤ j ∧ j ≤ 16) (v : Int32) : mF1 I (sm_st J 123 j v) := fun a i q => (sm_st_or _ _ (by omega)).trans (h a i q)
theorem mL1.st {L J : Nat → Nat → Int64} (h : mL1 L J) (v : Int64) : mL1 L (sm_st J 123 17 v) := fun a i q => (sm_st_or _ _ (by omega)).trans (h a i q)
theorem mF1.T {t : Tp} {I J : Nat → Nat → Int32} (h : mF1 I J) (ht : mTk t I) : mTk t J := ⟨(h 123 13 (by omega)).trans ht.1, ht.2.1, fun j hj => ⟨(h 132 j (by omega)).trans (ht.2.2 j hj).1, (ht.2.2 j hj).2⟩⟩
theorem c_X11_isSmall {ex : sm_O} {n : Nat} {y : sm_Y} {I : Nat → Nat → Int32} {L : Nat → Nat → Int64} {R : Nat → Nat → Option Nat} {Q : sm_Q} {d c : Nat} (hc : c < 256) (k : Q (some (.int (if 97 ≤ c ∧ c ≤ 122 then 1 else 0))) (n, y, I, L, R)) : sm_W ex d 0 0 151 0 [some (.int (nI c))] [] (n, y, I, L, R) Q := by
  refine w_X11_isSmall_0 ?_
  have f1 : nI c < 97 ↔ c < 97 := nI_ltI (b := 97) (by omega) (by decide)
  have f2 : 122 < nI c ↔ 122 < c := nI_ltI (a := 122) (by decide) (by omega)
  simp only [f1, f2]
  by_cases h1 : c < 97
  · rw [if_pos h1]; rw [if_neg (by omega)] at k; exact k
  · rw [if_neg h1]
    by_cases h2 : 122 < c
    · rw [if_pos h2]; rw [if_neg (by omega)] at k; exact k
    · rw [if_neg h2]; rw [if_pos (by omega)] at k; exact k
theorem c_X11_isDigit {ex : sm_O} {n : Nat} {y : sm_Y} {I : Nat → Nat → Int32} {L : Nat → Nat → Int64} {R : Nat → Nat → Option Nat} {Q : sm_Q} {d c : Nat} (hc : c < 256) (k : Q (some (.int (if 48 ≤ c ∧ c ≤ 57 then 1 else 0))) (n, y, I, L, R)) : sm_W ex d 0 0 152 0 [some (.int (nI c))] [] (n, y, I, L, R) Q := by
  refine w_X11_isDigit_0 ?_
  have f1 : nI c < 48 ↔ c < 48 := nI_ltI (b := 48) (by omega) (by decide)
  have f2 : 57 < nI c ↔ 57 < c := nI_ltI (a := 57) (by decide) (by omega)
  simp only [f1, f2]
  by_cases h1 : c < 48
  · rw [if_pos h1]; rw [if_neg (by omega)] at k; exact k
  · rw [if_neg h1]
    by_cases h2 : 57 < c
    · rw [if_pos h2]; rw [if_neg (by omega)] at k; exact k
    · rw [if_neg h2]; rw [if_pos (by omega)] at k; exact k
theorem sm_cmp_le {x z : Int64} : lg_cmp x z ≤ 0 ↔ ¬ z < x := by
  rw [← sm_cmp_gt]
  exact Int32.not_lt.symm
theorem tkK_1 {t : Tp} {p : Nat} (h : p < t.1) : tkK t p = 1 ↔ 97 ≤ t.2 p ∧ t.2 p ≤ 122 := by
  unfold tkK
  rw [if_pos h]
  constructor
  · intro q
    split at q
    · assumption
    · split at q <;> cases q
  · intro q; rw [if_pos q]
theorem tkK_2 {t : Tp} {p : Nat} (h : p < t.1) : tkK t p = 2 ↔ 48 ≤ t.2 p ∧ t.2 p ≤ 57 := by
  unfold tkK
  rw [if_pos h]
  constructor
  · intro q
    split at q
    · cases q
    · split at q
      · assumption
      · cases q
  · intro q; rw [if_neg (by omega), if_pos q]
set_option maxHeartbeats 2000000 in
theorem c_X11_next {ex : sm_O} {n : Nat} {y : sm_Y} {I : Nat → Nat → Int32} {L : Nat → Nat → Int64} {R : Nat → Nat → Option Nat} {Q : sm_Q} {d b : Nat} {t : Tp} (hd : 1 ≤ d) (hG : sm_G y R) (ht : mTk t I) (h18 : I 123 18 = -1) (hb : I 123 15 = nI b) (hbl : b ≤ t.1)
    (k : ∀ (I' : Nat → Nat → Int32) (L' : Nat → Nat → Int64), mF1 I I' → mL1 L L' → mR t I' L' (tkAt t b) → Q none (n, y, I', L', R)) : sm_W ex d 0 0 154 0 [some (.ref 123)] [] (n, y, I, L, R) Q := by
  have h400 := ht.2.1
  have hA := (tkS_b t 400 b).2 hbl
  -- the end
  have fin : ∀ (I2 : Nat → Nat → Int32) (L2 : Nat → Nat → Int64), mF1 I I2 → mL1 L L2 → I2 123 14 = nI (tkAt t b) → I2 123 15 = nI (tkE t (tkAt t b)) → I2 123 16 = nI (tkK t (tkAt t b)) → wOK t (tkAt t b) (L2 123 17) → Q none (n, y, I2, L2, R) := fun I2 L2 f g e1 e2 e3 e4 => k I2 L2 f g ⟨f.T ht, e1, e2, e3, e4, hA, (f 123 18 (by omega)).trans h18⟩
  generalize hp : tkAt t b = p at *
  have hkl := tkK_le t p
  -- digits
  have digits : tkK t p = 2 → ∀ (f i : Nat) (I2 : Nat → Nat → Int32) (L2 : Nat → Nat → Int64), t.1 = p + i + f → (i = 0 ∨ tkR t 2 f (p + i) = tkE t p) → (i = 0 → tkR t 2 (f - 1) (p + 1) = tkE t p ∧ 1 ≤ f) → mF1 I I2 → mL1 L L2 → I2 123 14 = nI p → I2 123 15 = nI (p + i) → I2 123 16 = nI 2 → nW (dg t p i) (L2 123 17) → sm_W ex d 0 0 154 243 [some (.ref 123)] [] (n, y, I2, L2, R) Q := by
    intro hk2 f
    induction f with
    | zero =>
      intro i I2 L2 hf h1 h0 f2 g2 e14 e15 e16 hw
      have hi : i ≠ 0 := fun z => by have := (h0 z).2; omega
      have hE : p + i = tkE t p := by
        rcases h1 with h1 | h1
        · exact absurd h1 hi
        · exact h1
      refine w_X11_next_243 (d1 := 0) hG (by omega) ?_
      rw [e16, if_pos (show nI 2 = 2 from rfl), (f2.T ht).1, e15, if_pos ((nI_leI (by omega) (by omega)).mpr (by omega))]
      refine fin I2 L2 f2 g2 e14 (by rw [e15, hE]) (by rw [e16, hk2]) ⟨fun z => by omega, fun z => by omega, fun _ => ?_⟩
      unfold tkN
      rw [show tkE t p - p = i by omega]
      exact hw
    | succ f ih =>
      intro i I2 L2 hf h1 h0 f2 g2 e14 e15 e16 hw
      have hlt : p + i < t.1 := by omega
      have hb2 := (f2.T ht).2.2 (p + i) hlt
      refine w_X11_next_243 (d1 := 0) hG (by omega) ?_
      rw [e16, if_pos (show nI 2 = 2 from rfl), (f2.T ht).1, e15, if_neg (by rw [nI_leI (by omega) (by omega)]; omega), nI_clamp (by omega), hb2.1]
      refine ⟨vp_in_nI (by omega) (by decide), ?_⟩
      refine c_X11_isDigit hb2.2 ?_
      refine w_X11_next_274 hG ?_
      by_cases hdg : tkK t (p + i) = 2
      · have hd2 := (tkK_2 hlt).mp hdg
        rw [if_pos hd2, if_neg (by decide), e15, nI_clamp (by omega), hb2.1, sm_n1, nI_l (by omega)]
        have hE2 : tkR t 2 f (p + (i + 1)) = tkE t p := by
          by_cases hi0 : i = 0
          · have := (h0 hi0).1
            rw [hi0]
            exact this
          · rcases h1 with h1 | h1
            · exact absurd h1 hi0
            · have e : tkR t 2 (f + 1) (p + i) = tkR t 2 f (p + i + 1) := by
                show (if p + i < t.1 ∧ tkK t (p + i) = 2 then tkR t 2 f (p + i + 1) else p + i) = _
                rw [if_pos ⟨hlt, hdg⟩]
              rw [e] at h1
              exact h1
        have st : ∀ L3 : Nat → Nat → Int64, mL1 L L3 → nW (dg t p (i + 1)) (L3 123 17) → sm_W ex d 0 0 154 243 [some (.ref 123)] [] (n, y, sm_st I2 123 15 (nI (p + i + 1)), L3, R) Q := fun L3 g3 hw3 => by
          refine ih (i + 1) _ L3 (by omega) (Or.inr hE2) (fun z => absurd z (by omega)) (f2.st (by omega) _) g3 ?_ ?_ ?_ hw3
          · rw [sm_st_j _ _ (by decide)]; exact e14
          · rw [sm_st_s]; rfl
          · rw [sm_st_j _ _ (by decide)]; exact e16
        obtain ⟨u, u1, u2, u3, u4⟩ := hw
        have hg : dg t p (i + 1) = dg t p i * 10 + (t.2 (p + i) - 48) := rfl
        have cmp : lg_cmp (L2 123 17) 1000000 ≤ 0 ↔ u ≤ 1000000 := by
          rw [sm_cmp_le, u1, sm_ofl 1000000, Int64.lt_iff_toInt_lt, pk_lT (by omega), pk_lT (by omega)]
          omega
        simp only [cmp]
        by_cases hu : u ≤ 1000000
        · rw [if_pos hu]
          refine ⟨vp_in_nI (by omega) (by decide), st _ (g2.st _) ?_⟩
          rw [sm_st_s, u1, sm_ofl 10, lN_mul, lN_add, sm_ofl 48, lN_sub (by omega), hg]
          refine ⟨u * 10 + t.2 (p + i) - 48, rfl, by omega, fun z => ?_, fun z => ?_⟩
          · have := u3 (by omega); omega
          · by_cases q : dg t p i ≤ 1000000
            · have := u3 q; omega
            · have := u4 (by omega); omega
        · rw [if_neg hu]
          refine st _ (g2.st _) ?_
          rw [sm_st_s, hg]
          refine ⟨u, u1, u2, fun z => ?_, fun _ => by omega⟩
          have := u3 (by omega)
          omega
      · have hi : i ≠ 0 := fun z => by rw [z] at hdg; exact hdg hk2
        have hE : p + i = tkE t p := by
          rcases h1 with h1 | h1
          · exact absurd h1 hi
          · have e : tkR t 2 (f + 1) (p + i) = p + i := by
              show (if p + i < t.1 ∧ tkK t (p + i) = 2 then tkR t 2 f (p + i + 1) else p + i) = _
              rw [if_neg (fun z => hdg z.2)]
            rw [e] at h1
            exact h1
        rw [if_neg (fun z => hdg ((tkK_2 hlt).mpr z)), if_pos rfl]
        refine fin I2 L2 f2 g2 e14 (by rw [e15, hE]) (by rw [e16, hk2]) ⟨fun z => by omega, fun z => by omega, fun _ => ?_⟩
        unfold tkN
        rw [show tkE t p - p = i by omega]
        exact hw
  -- letters
  have letters : tkK t p = 1 → ∀ (f i : Nat) (I2 : Nat → Nat → Int32) (L2 : Nat → Nat → Int64), t.1 = p + i + f → (i = 0 ∨ tkR t 1 f (p + i) = tkE t p) → (i = 0 → tkR t 1 (f - 1) (p + 1) = tkE t p ∧ 1 ≤ f) → mF1 I I2 → mL1 L L2 → I2 123 14 = nI p → I2 123 15 = nI (p + i) → I2 123 16 = nI 1 → L2 123 17 = wV t p i → sm_W ex d 0 0 154 149 [some (.ref 123)] [] (n, y, I2, L2, R) Q := by
    intro hk2 f
    have out : ∀ (i : Nat) (I2 : Nat → Nat → Int32) (L2 : Nat → Nat → Int64), p + i = tkE t p → mF1 I I2 → mL1 L L2 → I2 123 14 = nI p → I2 123 15 = nI (p + i) → I2 123 16 = nI 1 → L2 123 17 = wV t p i → sm_W ex d 0 0 154 243 [some (.ref 123)] [] (n, y, I2, L2, R) Q := by
      intro i I2 L2 hE f2 g2 e14 e15 e16 hw
      refine w_X11_next_243 (d1 := 0) hG (by omega) ?_
      rw [e16, if_neg (show ¬ nI 1 = 2 by decide)]
      refine fin I2 L2 f2 g2 e14 (by rw [e15, hE]) (by rw [e16, hk2]) ⟨fun z => by omega, fun _ => ?_, fun z => by omega⟩
      rw [show tkE t p - p = i by omega]
      exact hw
    induction f with
    | zero =>
      intro i I2 L2 hf h1 h0 f2 g2 e14 e15 e16 hw
      have hi : i ≠ 0 := fun z => by have := (h0 z).2; omega
      have hE : p + i = tkE t p := by
        rcases h1 with h1 | h1
        · exact absurd h1 hi
        · exact h1
      refine w_X11_next_149 (d1 := 0) hG (by omega) ?_
      rw [e16, if_pos (show nI 1 = 1 from rfl), (f2.T ht).1, e15, if_pos ((nI_leI (by omega) (by omega)).mpr (by omega))]
      exact out i I2 L2 hE f2 g2 e14 e15 e16 hw
    | succ f ih =>
      intro i I2 L2 hf h1 h0 f2 g2 e14 e15 e16 hw
      have hlt : p + i < t.1 := by omega
      have hb2 := (f2.T ht).2.2 (p + i) hlt
      refine w_X11_next_149 (d1 := 0) hG (by omega) ?_
      rw [e16, if_pos (show nI 1 = 1 from rfl), (f2.T ht).1, e15, if_neg (by rw [nI_leI (by omega) (by omega)]; omega), nI_clamp (by omega), hb2.1]
      refine ⟨vp_in_nI (by omega) (by decide), ?_⟩
      refine c_X11_isSmall hb2.2 ?_
      refine w_X11_next_180 hG ?_
      by_cases hdg : tkK t (p + i) = 1
      · have hd2 := (tkK_1 hlt).mp hdg
        rw [if_pos hd2, if_neg (by decide), e15, e14, nI_clamp (by omega), hb2.1, sm_n1, nI_l (by omega), pk_sub (by omega), show p + i - p = i by omega]
        have hE2 : tkR t 1 f (p + (i + 1)) = tkE t p := by
          by_cases hi0 : i = 0
          · have := (h0 hi0).1
            rw [hi0]
            exact this
          · rcases h1 with h1 | h1
            · exact absurd h1 hi0
            · have e : tkR t 1 (f + 1) (p + i) = tkR t 1 f (p + i + 1) := by
                show (if p + i < t.1 ∧ tkK t (p + i) = 1 then tkR t 1 f (p + i + 1) else p + i) = _
                rw [if_pos ⟨hlt, hdg⟩]
              rw [e] at h1
              exact h1
        have st : ∀ L3 : Nat → Nat → Int64, mL1 L L3 → L3 123 17 = wV t p (i + 1) → sm_W ex d 0 0 154 149 [some (.ref 123)] [] (n, y, sm_st I2 123 15 (nI (p + i + 1)), L3, R) Q := fun L3 g3 hw3 => by
          refine ih (i + 1) _ L3 (by omega) (Or.inr hE2) (fun z => absurd z (by omega)) (f2.st (by omega) _) g3 ?_ ?_ ?_ hw3
          · rw [sm_st_j _ _ (by decide)]; exact e14
          · rw [sm_st_s]; rfl
          · rw [sm_st_j _ _ (by decide)]; exact e16
        have c10 : (10 : Int32) ≤ nI i ↔ 10 ≤ i := nI_leI (a := 10) (by decide) (by omega)
        simp only [c10]
        by_cases hi10 : 10 ≤ i
        · rw [if_pos hi10]
          refine st _ (g2.st _) ?_
          rw [sm_st_s]
          unfold wV
          rw [if_neg (by omega)]
        · rw [if_neg hi10]
          refine ⟨vp_in_nI (by omega) (by decide), st _ (g2.st _) ?_⟩
          rw [sm_st_s, hw]
          unfold wV
          rw [if_pos (by omega), if_pos (by omega), sm_ofl 32, lN_mul, lN_add, sm_ofl 96, lN_sub (by omega)]
          show lN (wcN t p i * 32 + t.2 (p + i) - 96) = lN (wcN t p i * 32 + (t.2 (p + i) - 96))
          congr 1
          omega
      · have hi : i ≠ 0 := fun z => by rw [z] at hdg; exact hdg hk2
        have hE : p + i = tkE t p := by
          rcases h1 with h1 | h1
          · exact absurd h1 hi
          · have e : tkR t 1 (f + 1) (p + i) = p + i := by
              show (if p + i < t.1 ∧ tkK t (p + i) = 1 then tkR t 1 f (p + i + 1) else p + i) = _
              rw [if_neg (fun z => hdg z.2)]
            rw [e] at h1
            exact h1
        rw [if_neg (fun z => hdg ((tkK_1 hlt).mpr z)), if_pos rfl]
        exact out i I2 L2 hE f2 g2 e14 e15 e16 hw
  -- the sort is known
  have tkR_fuel : ∀ (kk f f' q : Nat), t.1 ≤ q + f → t.1 ≤ q + f' → tkR t kk f q = tkR t kk f' q := by
    intro kk f
    induction f with
    | zero =>
      intro f' q h1 h2
      cases f' with
      | zero => rfl
      | succ f' => show q = (if q < t.1 ∧ tkK t q = kk then _ else q); rw [if_neg (by omega)]
    | succ f ih =>
      intro f' q h1 h2
      cases f' with
      | zero => show (if q < t.1 ∧ tkK t q = kk then _ else q) = q; rw [if_neg (by omega)]
      | succ f' =>
        show (if q < t.1 ∧ tkK t q = kk then tkR t kk f (q + 1) else q) = (if q < t.1 ∧ tkK t q = kk then tkR t kk f' (q + 1) else q)
        rw [ih f' (q + 1) (by omega) (by omega)]
  have other : tkK t p ≠ 1 → tkK t p ≠ 2 → ∀ (I2 : Nat → Nat → Int32) (L2 : Nat → Nat → Int64), mF1 I I2 → mL1 L L2 → I2 123 14 = nI p → I2 123 15 = nI (tkE t p) → I2 123 16 = nI (tkK t p) → wOK t p (L2 123 17) → sm_W ex d 0 0 154 149 [some (.ref 123)] [] (n, y, I2, L2, R) Q := by
    intro h1 h2 I2 L2 f2 g2 e14 e15 e16 hw
    refine w_X11_next_149 (d1 := 0) hG (by omega) ?_
    rw [e16, if_neg (by rw [sm_of 1, nI_eq (by omega) (by decide)]; exact h1)]
    refine w_X11_next_243 (d1 := 0) hG (by omega) ?_
    rw [e16, if_neg (by rw [sm_of 2, nI_eq (by omega) (by decide)]; exact h2)]
    exact fin I2 L2 f2 g2 e14 e15 e16 hw
  -- behind the blanks
  have behind : ∀ (I2 : Nat → Nat → Int32), mF1 I I2 → I2 123 14 = nI p → (t.1 ≤ p → sm_W ex d 0 0 154 149 [some (.ref 123)] [] (n, y, sm_st (sm_st I2 123 15 (nI p)) 123 16 0, sm_st L 123 17 0, R) Q) ∧ (p < t.1 → sm_W ex 0 0 0 151 0 [some (.int (nI (t.2 p)))] [] (n, y, sm_st I2 123 15 (nI p), sm_st L 123 17 0, R) (fun r μ1 => sm_W ex d 0 0 154 87 [some (.ref 123)] (r.toList ++ [.ref 123]) μ1 Q)) := by
    intro I2 f2 e14
    have g0 : mL1 L L := fun _ _ _ => rfl
    refine ⟨fun hpe => ?_, fun hpl => ?_⟩
    · have hk0 : tkK t p = 0 := tkK_0.mpr hpe
      refine other (by omega) (by omega) _ _ ((f2.st (by omega) _).st (by omega) _) (g0.st _) ?_ ?_ ?_ ⟨fun z => by omega, fun z => by omega, fun z => by omega⟩
      · rw [sm_st_j _ _ (by decide), sm_st_j _ _ (by decide)]; exact e14
      · rw [sm_st_j _ _ (by decide), sm_st_s]
        unfold tkE
        rw [if_pos hk0]
      · rw [sm_st_s, hk0]; rfl
    · have hb2 := (f2.T ht).2.2 p hpl
      refine c_X11_isSmall hb2.2 ?_
      have f3 : mF1 I (sm_st I2 123 15 (nI p)) := f2.st (by omega) _
      have e14' : sm_st I2 123 15 (nI p) 123 14 = nI p := by rw [sm_st_j _ _ (by decide)]; exact e14
      have e132 : sm_st I2 123 15 (nI p) 132 p = nI (t.2 p) := by rw [sm_st_o _ _ (by decide)]; exact hb2.1
      have e15' : sm_st I2 123 15 (nI p) 123 15 = nI p := sm_st_s _ _ _ _
      generalize sm_st I2 123 15 (nI p) = I3 at *
      refine w_X11_next_87 (d1 := 0) hG (by omega) ?_
      by_cases hk1 : tkK t p = 1
      · rw [if_pos ((tkK_1 hpl).mp hk1), if_neg (by decide)]
        refine letters hk1 (t.1 - p) 0 _ _ (by omega) (Or.inl rfl) (fun _ => ⟨?_, by omega⟩) (f3.st (by omega) _) (g0.st _) ?_ ?_ (sm_st_s _ _ _ _) (sm_st_s _ _ _ _)
        · unfold tkE
          rw [if_neg (by omega), if_neg (by omega), hk1]
          exact tkR_fuel 1 _ _ _ (by omega) (by omega)
        · rw [sm_st_j _ _ (by decide)]; exact e14'
        · rw [sm_st_j _ _ (by decide)]; exact e15'
      · rw [if_neg (fun z => hk1 ((tkK_1 hpl).mpr z)), if_pos rfl, e14', nI_clamp (by omega), e132]
        refine ⟨vp_in_nI (by omega) (by decide), ?_⟩
        refine c_X11_isDigit hb2.2 ?_
        refine w_X11_next_106 hG ?_
        by_cases hk2 : tkK t p = 2
        · rw [if_pos ((tkK_2 hpl).mp hk2), if_neg (by decide)]
          refine w_X11_next_149 (d1 := 0) hG (by omega) ?_
          rw [sm_st_s, if_neg (by decide)]
          refine digits hk2 (t.1 - p) 0 _ _ (by omega) (Or.inl rfl) (fun _ => ⟨?_, by omega⟩) (f3.st (by omega) _) (g0.st _) ?_ ?_ (sm_st_s _ _ _ _) ⟨0, sm_st_s _ _ _ _, by omega, fun _ => rfl, fun z => absurd (show 1000000 < 0 from z) (by omega)⟩
          · unfold tkE
            rw [if_neg (by omega), if_neg (by omega), hk2]
            exact tkR_fuel 2 _ _ _ (by omega) (by omega)
          · rw [sm_st_j _ _ (by decide)]; exact e14'
          · rw [sm_st_j _ _ (by decide)]; exact e15'
        · have hk0 : tkK t p ≠ 0 := fun z => by have := tkK_0.mp z; omega
          have hk3 : tkK t p = 3 := by omega
          rw [if_neg (fun z => hk2 ((tkK_2 hpl).mpr z)), if_pos rfl, e14', nI_clamp (by omega), e132, e15', sm_n1, nI_l (by omega)]
          refine ⟨vp_in_nI (by omega) (by decide), ?_⟩
          refine other hk1 hk2 _ _ ((f3.st (by omega) _).st (by omega) _) ((g0.st _).st _) ?_ ?_ ?_ ⟨fun _ => sm_st_s _ _ _ _, fun z => by omega, fun z => by omega⟩
          · rw [sm_st_j _ _ (by decide), sm_st_j _ _ (by decide)]; exact e14'
          · rw [sm_st_s]
            unfold tkE
            rw [if_neg hk0, if_pos hk3]
          · rw [sm_st_j _ _ (by decide), sm_st_s, hk3]; rfl
  -- the blanks
  have blanks : ∀ (f q : Nat) (I2 : Nat → Nat → Int32), t.1 ≤ q + f → q ≤ t.1 → tkS t f q = p → mF1 I I2 → I2 123 14 = nI q → sm_W ex d 0 0 154 8 [some (.ref 123)] [] (n, y, I2, L, R) Q := by
    intro f
    induction f with
    | zero =>
      intro q I2 hf hq hs f2 e14
      have hqp : q = p := hs
      refine w_X11_next_8 (d1 := 0) hG (by omega) ?_
      have hqt : q = t.1 := by omega
      rw [(f2.T ht).1, e14, if_pos ((nI_leI (by omega) (by omega)).mpr (by omega)), if_pos (by rw [hqt]), hqp]
      exact (behind I2 f2 (by rw [e14, hqp])).1 (by omega)
    | succ f ih =>
      intro q I2 hf hq hs f2 e14
      have hs : (if q < t.1 ∧ t.2 q = 32 then tkS t f (q + 1) else q) = p := hs
      refine w_X11_next_8 (d1 := 0) hG (by omega) ?_
      rw [(f2.T ht).1, e14]
      by_cases hqt : q < t.1
      · have hb2 := (f2.T ht).2.2 q hqt
        rw [if_neg (by rw [nI_leI (by omega) (by omega)]; omega), nI_clamp (by omega), hb2.1, sm_n1]
        refine ⟨vp_in_nI (by omega) (by decide), ?_⟩
        have c32 : nI (t.2 q) = 32 ↔ t.2 q = 32 := nI_eq (b := 32) (by omega) (by decide)
        simp only [c32]
        by_cases h32 : t.2 q = 32
        · rw [if_pos ⟨hqt, h32⟩] at hs
          rw [if_pos h32]
          exact ih (q + 1) _ (by omega) (by omega) hs (f2.st (by omega) _) (sm_st_s _ _ _ _)
        · rw [if_neg (fun z => h32 z.2)] at hs
          subst hs
          rw [if_neg h32, if_neg (by rw [nI_eq (by omega) (by omega)]; omega)]
          exact (behind I2 f2 e14).2 hqt
      · rw [if_neg (fun z => hqt z.1)] at hs
        subst hs
        rw [if_pos ((nI_leI (by omega) (by omega)).mpr (by omega)), if_pos (by rw [nI_eq (by omega) (by omega)]; omega)]
        exact (behind I2 f2 e14).1 (by omega)
  refine w_X11_next_0 hG ?_
  have fI : mF1 I I := fun _ _ _ => rfl
  exact blanks 400 b _ (by omega) hbl hp (fI.st (by omega) _) (by rw [sm_st_s]; exact hb)
theorem m_word {ex : sm_O} {n : Nat} {y : sm_Y} {I : Nat → Nat → Int32} {L : Nat → Nat → Int64} {R : Nat → Nat → Option Nat} {Q : sm_Q} {d p : Nat} {t : Tp} {w2 : Option Value} {x : Int64} {w : List Nat} (hG : sm_G y R) (hs : mR t I L p) (hx : x = lN (rc w.reverse)) (hw : (∀ c ∈ w, 97 ≤ c ∧ c ≤ 122) ∧ w.length ≤ 10 ∧ w ≠ []) (k0 : ¬ tkWd t p = w → Q (some (.int 0)) (n, y, I, L, R)) (k1 : tkWd t p = w → Q (some (.int 1)) (n, y, I, L, R)) : sm_W ex d 0 0 155 0 [some (.ref 123), some (.long x), w2] [] (n, y, I, L, R) Q := by
  obtain ⟨s1, s2, s3, s4, s5, s6⟩ := hs
  refine w_X11_isWord_0 hG ?_
  have hkl := tkK_le t p
  rw [s4]
  have e1 : nI (tkK t p) = 1 ↔ tkK t p = 1 := nI_eq (b := 1) (by omega) (by decide)
  simp only [e1, sm_cmp_eq]
  by_cases hk : tkK t p = 1
  · rw [if_pos hk, s5.2.1 hk, hx]
    have hwd : tkWd t p = tkC t p (tkE t p - p) := by unfold tkWd; rw [if_pos hk]
    rw [hwd] at k0 k1
    have hE := tkE_b s6.1
    have hlet : ∀ i, p ≤ i → i < p + (tkE t p - p) → 97 ≤ t.2 i ∧ t.2 i ≤ 122 := fun i h1 h2 => tkK_let ((tkE_in (Or.inl hk) h1 (by omega)).trans hk)
    have hwr : ∀ c ∈ w.reverse, 97 ≤ c ∧ c ≤ 122 := fun c hc => hw.1 c (List.mem_reverse.mp hc)
    have hwl := rc_lt50 hwr (by rw [List.length_reverse]; exact hw.2.1)
    generalize tkE t p - p = m at *
    by_cases hn : m ≤ 10
    · have hcl := rc_lt50 (tkCr_letters hlet) (by rw [tkCr_rev, List.length_reverse, tkC_len]; exact hn)
      have eq : wV t p m = lN (rc w.reverse) ↔ tkC t p m = w := by
        unfold wV
        rw [if_pos hn, wcN_rc, pk_lEQ (by omega) (by omega)]
        constructor
        · intro h
          have := rc_inj _ _ (tkCr_letters hlet) hwr h
          rw [tkCr_rev] at this
          exact List.reverse_inj.mp this
        · intro h
          rw [tkCr_rev, h]
      by_cases q : tkC t p m = w
      · rw [if_pos (eq.mpr q)]; exact k1 q
      · rw [if_neg (fun z => q (eq.mp z))]; exact k0 q
    · have ne : ¬ wV t p m = lN (rc w.reverse) := by
        unfold wV
        rw [if_neg hn]
        intro h
        have := congrArg Int64.toInt h
        rw [pk_lT (by omega)] at this
        have z : (-1 : Int64).toInt = -1 := rfl
        omega
      rw [if_neg ne]
      refine k0 (fun z => ?_)
      have := congrArg List.length z
      rw [tkC_len] at this
      omega
  · rw [if_neg hk]
    refine k0 (fun z => ?_)
    exact hk (tkW_k z hw.2.2).1
theorem m_sign {ex : sm_O} {n : Nat} {y : sm_Y} {I : Nat → Nat → Int32} {L : Nat → Nat → Int64} {R : Nat → Nat → Option Nat} {Q : sm_Q} {d p c : Nat} {t : Tp} (hG : sm_G y R) (hs : mR t I L p) (hc : c < 256) (k0 : ¬ isG t p c → Q (some (.int 0)) (n, y, I, L, R)) (k1 : isG t p c → Q (some (.int 1)) (n, y, I, L, R)) : sm_W ex d 0 0 156 0 [some (.ref 123), some (.int (nI c))] [] (n, y, I, L, R) Q := by
  obtain ⟨s1, s2, s3, s4, s5, s6⟩ := hs
  refine w_X11_isSign_0 hG ?_
  have hkl := tkK_le t p
  rw [s4]
  have e1 : nI (tkK t p) = 3 ↔ tkK t p = 3 := nI_eq (b := 3) (by omega) (by decide)
  simp only [e1, sm_cmp_eq]
  by_cases hk : tkK t p = 3
  · have hpl : p < t.1 := by
      have : ¬ tkK t p = 0 := by omega
      have := mt tkK_0.mpr this
      omega
    have hb := (s1.2.2 p hpl).2
    rw [if_pos hk, s5.1 hk, nI_l (by omega)]
    have e2 : lN (t.2 p) = lN c ↔ t.2 p = c := pk_lEQ (by omega) (by omega)
    simp only [e2]
    by_cases q : t.2 p = c
    · rw [if_pos q]; exact k1 ⟨hk, q⟩
    · rw [if_neg q]; exact k0 (fun z => q z.2)
  · rw [if_neg hk]
    exact k0 (fun z => hk z.1)
theorem m_next {ex : sm_O} {n : Nat} {y : sm_Y} {I : Nat → Nat → Int32} {L : Nat → Nat → Int64} {R : Nat → Nat → Option Nat} {Q : sm_Q} {d p : Nat} {t : Tp} (hd : 1 ≤ d) (hG : sm_G y R) (hs : mR t I L p)
    (k : ∀ (I' : Nat → Nat → Int32) (L' : Nat → Nat → Int64), mF1 I I' → mL1 L L' → mR t I' L' (nx t p) → Q none (n, y, I', L', R)) : sm_W ex d 0 0 154 0 [some (.ref 123)] [] (n, y, I, L, R) Q := c_X11_next hd hG hs.1 hs.2.2.2.2.2.2 hs.2.2.1 (tkE_b hs.2.2.2.2.2.1).2 k
/-- a fault -/
def mBad (p : Nat) (I : Nat → Nat → Int32) : Nat → Nat → Int32 := sm_st (sm_st I 123 19 1) 123 18 (nI p)
theorem m_must {ex : sm_O} {n : Nat} {y : sm_Y} {I : Nat → Nat → Int32} {L : Nat → Nat → Int64} {R : Nat → Nat → Option Nat} {Q : sm_Q} {d p : Nat} {t : Tp} {a : Int32} (hd : 2 ≤ d) (hG : sm_G y R) (hs : mR t I L p) (hb : I 123 19 = 0) (k0 : a = 0 → Q none (n, y, mBad p I, L, R)) (k1 : ¬ a = 0 → ∀ (I' : Nat → Nat → Int32) (L' : Nat → Nat → Int64), mF1 I I' → mL1 L L' → mR t I' L' (nx t p) → Q none (n, y, I', L', R)) : sm_W ex d 0 0 157 0 [some (.ref 123), some (.int a)] [] (n, y, I, L, R) Q := by
  refine w_X11_must_0 (d1 := 1) hG (by omega) ?_
  rw [if_pos hb]
  by_cases e : a = 0
  · rw [if_pos e, hs.2.1]
    exact w_X11_must_35 (k0 e)
  · rw [if_neg e]
    exact m_next (Nat.le_refl 1) hG hs (fun I' L' f g s => w_X11_must_35 (k1 e I' L' f g s))

