set_option maxRecDepth 100000 in
theorem w_X11_giveBack_0 {ex : sm_O} {d n : Nat} {y : sm_Y} {I : Nat → Nat → Int32} {L : Nat → Nat → Int64} {R : Nat → Nat → Option Nat} {Q : sm_Q} {w1 : Option Value} {w2 : Option Value} {d1 : Nat} (hG : sm_G y R) (h1 : d1 < d) (k : sm_W ex d1 0 0 132 0 [some (.ref 123), some (.int 17), none] [] (n, y, I, L, R) (fun r μ1 => sm_W ex d 0 0 232 6 [some (.ref 123), w1, w2] (r.toList ++ []) μ1 Q)) : sm_W ex d 0 0 232 0 [some (.ref 123), w1, w2] [] (n, y, I, L, R) Q := sm_in (sm_in (sm_in (Exists.intro 11 (And.intro (hG.1 123 (Nat.le_of_ble_eq_true rfl)) (And.intro rfl (sm_calln h1 (Nat.le_of_ble_eq_true rfl) (Nat.le_of_ble_eq_true rfl) k))))))
set_option maxRecDepth 100000 in
theorem w_X11_giveBack_6 {ex : sm_O} {d n : Nat} {y : sm_Y} {I : Nat → Nat → Int32} {L : Nat → Nat → Int64} {R : Nat → Nat → Option Nat} {Q : sm_Q} {w0 : Option Value} {w2 : Option Value} {a1 : Int32} (k : sm_W ex d 0 0 232 8 [w0, some (.int a1), some (.int 0)] [] (n, y, I, L, R) Q) : sm_W ex d 0 0 232 6 [w0, some (.int a1), w2] [] (n, y, I, L, R) Q := sm_in (sm_in (And.intro (Nat.le_of_ble_eq_true rfl) (k)))
set_option maxRecDepth 100000 in
theorem w_X11_giveBack_8 {ex : sm_O} {d n : Nat} {y : sm_Y} {I : Nat → Nat → Int32} {L : Nat → Nat → Int64} {R : Nat → Nat → Option Nat} {Q : sm_Q} {a1 : Int32} {a2 : Int32} (hG : sm_G y R) (k : if 320 ≤ a2 then (sm_W ex d 0 0 232 35 [some (.ref 123), some (.int a1), some (.int 0)] [] (n, y, I, L, R) Q) else (vp_in a2 320 ∧ vp_in a2 360 ∧ sm_W ex d 0 0 232 8 [some (.ref 123), some (.int a1), some (.int (a2 + 1))] [] (n, y, sm_st I 128 a2.toNatClampNeg (I 130 a2.toNatClampNeg), L, R) Q)) : sm_W ex d 0 0 232 8 [some (.ref 123), some (.int a1), some (.int a2)] [] (n, y, I, L, R) Q := sm_in (sm_in (sm_in (And.intro (fun c1 => have k1t := Eq.mp (if_pos c1) k; sm_in (sm_in (And.intro (Nat.le_of_ble_eq_true rfl) (k1t)))) (fun c1 => have k1f := Eq.mp (if_neg c1) k; sm_in (sm_in (And.intro (hG.1 123 (Nat.le_of_ble_eq_true rfl)) (sm_gfr rfl (hG.2 123 6 rfl) (sm_in (sm_in (sm_in (And.intro (hG.1 123 (Nat.le_of_ble_eq_true rfl)) (sm_gfr rfl (hG.2 123 9 rfl) (sm_in ((have e2 := k1f.1; have k2 := k1f.2; sm_in (Exists.intro 320 (And.intro (hG.1 130 (Nat.le_of_ble_eq_true rfl)) (And.intro e2 ((have e3 := k2.1; have k3 := k2.2; sm_in (Exists.intro 360 (And.intro (hG.1 128 (Nat.le_of_ble_eq_true rfl)) (And.intro e3 (sm_in (And.intro (Nat.le_of_ble_eq_true rfl) (sm_in (k3)))))))))))))))))))))))))))
set_option maxRecDepth 100000 in
theorem w_X11_giveBack_35 {ex : sm_O} {d n : Nat} {y : sm_Y} {I : Nat → Nat → Int32} {L : Nat → Nat → Int64} {R : Nat → Nat → Option Nat} {Q : sm_Q} {a1 : Int32} {a2 : Int32} (hG : sm_G y R) (k : if 16 ≤ a2 then (Q none (n, y, sm_st I 123 8 a1, L, R)) else (vp_in a2 16 ∧ sm_W ex d 0 0 232 35 [some (.ref 123), some (.int a1), some (.int (a2 + 1))] [] (n, y, sm_st I 129 a2.toNatClampNeg (I 131 a2.toNatClampNeg), L, R) Q)) : sm_W ex d 0 0 232 35 [some (.ref 123), some (.int a1), some (.int a2)] [] (n, y, I, L, R) Q := sm_in (sm_in (sm_in (And.intro (fun c1 => have k1t := Eq.mp (if_pos c1) k; sm_in (sm_in (sm_in (And.intro (hG.1 123 (Nat.le_of_ble_eq_true rfl)) (sm_in (And.intro rfl (And.intro rfl k1t))))))) (fun c1 => have k1f := Eq.mp (if_neg c1) k; sm_in (sm_in (And.intro (hG.1 123 (Nat.le_of_ble_eq_true rfl)) (sm_gfr rfl (hG.2 123 7 rfl) (sm_in (sm_in (sm_in (And.intro (hG.1 123 (Nat.le_of_ble_eq_true rfl)) (sm_gfr rfl (hG.2 123 10 rfl) (sm_in ((have e2 := k1f.1; have k2 := k1f.2; sm_in (Exists.intro 16 (And.intro (hG.1 131 (Nat.le_of_ble_eq_true rfl)) (And.intro e2 (sm_in (Exists.intro 16 (And.intro (hG.1 129 (Nat.le_of_ble_eq_true rfl)) (And.intro e2 (sm_in (And.intro (Nat.le_of_ble_eq_true rfl) (sm_in (k2))))))))))))))))))))))))))
set_option maxRecDepth 100000 in
theorem w_X11_orders_50 {ex : sm_O} {d n : Nat} {y : sm_Y} {I : Nat → Nat → Int32} {L : Nat → Nat → Int64} {R : Nat → Nat → Option Nat} {Q : sm_Q} {w1 : Option Value} {w2 : Option Value} {w3 : Option Value} {d1 : Nat} (hG : sm_G y R) (h1 : d1 < d) (k : if (I 123 19) = 0 then (sm_W ex d1 0 0 131 0 [some (.ref 123), some (.int 17), none] [] (n, y, I, L, R) (fun r μ1 => sm_W ex d 0 0 231 70 [some (.ref 123), w1, w2, w3] (r.toList ++ []) μ1 Q)) else (sm_W ex d1 0 0 128 0 [some (.ref 123), some (.int (-6))] [] (n, y, I, L, R) (fun r μ1 => sm_W ex d 0 0 231 63 [some (.ref 123), w1, w2, w3] (r.toList ++ []) μ1 Q))) : sm_W ex d 0 0 231 50 [some (.ref 123), w1, w2, w3] [] (n, y, I, L, R) Q := sm_in (sm_in (And.intro (hG.1 123 (Nat.le_of_ble_eq_true rfl)) (sm_in (And.intro (fun c1 => have k1t := Eq.mp (if_pos c1) k; sm_in (sm_in (sm_in (Exists.intro 11 (And.intro (hG.1 123 (Nat.le_of_ble_eq_true rfl)) (And.intro rfl (sm_calln h1 (Nat.le_of_ble_eq_true rfl) (Nat.le_of_ble_eq_true rfl) k1t))))))) (fun c1 => have k1f := Eq.mp (if_neg c1) k; sm_in (sm_in (sm_in (Exists.intro 11 (And.intro (hG.1 123 (Nat.le_of_ble_eq_true rfl)) (And.intro rfl (sm_calln h1 (Nat.le_of_ble_eq_true rfl) (Nat.le_of_ble_eq_true rfl) k1f)))))))))))
set_option maxRecDepth 100000 in
theorem w_X11_orders_63 {ex : sm_O} {d n : Nat} {y : sm_Y} {I : Nat → Nat → Int32} {L : Nat → Nat → Int64} {R : Nat → Nat → Option Nat} {Q : sm_Q} {w0 : Option Value} {w1 : Option Value} {w2 : Option Value} {w3 : Option Value} {s0 : Int32} (k : Q (some (.int s0)) (n, y, I, L, R)) : sm_W ex d 0 0 231 63 [w0, w1, w2, w3] [.int s0] (n, y, I, L, R) Q := sm_in (And.intro rfl k)
set_option maxRecDepth 100000 in
theorem w_X11_orders_70 {ex : sm_O} {d n : Nat} {y : sm_Y} {I : Nat → Nat → Int32} {L : Nat → Nat → Int64} {R : Nat → Nat → Option Nat} {Q : sm_Q} {w1 : Option Value} {w2 : Option Value} {w3 : Option Value} (hG : sm_G y R) (k : sm_W ex d 0 0 231 77 [some (.ref 123), some (.int (I 123 8)), some (.int 0), w3] [] (n, y, I, L, R) Q) : sm_W ex d 0 0 231 70 [some (.ref 123), w1, w2, w3] [] (n, y, I, L, R) Q := sm_in (sm_in (And.intro (hG.1 123 (Nat.le_of_ble_eq_true rfl)) (sm_in (And.intro (Nat.le_of_ble_eq_true rfl) (sm_in (sm_in (And.intro (Nat.le_of_ble_eq_true rfl) (k))))))))
set_option maxRecDepth 100000 in
theorem w_X11_orders_77 {ex : sm_O} {d n : Nat} {y : sm_Y} {I : Nat → Nat → Int32} {L : Nat → Nat → Int64} {R : Nat → Nat → Option Nat} {Q : sm_Q} {w3 : Option Value} {a1 : Int32} {a2 : Int32} (hG : sm_G y R) (k : if 320 ≤ a2 then (sm_W ex d 0 0 231 104 [some (.ref 123), some (.int a1), some (.int 0), w3] [] (n, y, I, L, R) Q) else (vp_in a2 360 ∧ vp_in a2 320 ∧ sm_W ex d 0 0 231 77 [some (.ref 123), some (.int a1), some (.int (a2 + 1)), w3] [] (n, y, sm_st I 130 a2.toNatClampNeg (I 128 a2.toNatClampNeg), L, R) Q)) : sm_W ex d 0 0 231 77 [some (.ref 123), some (.int a1), some (.int a2), w3] [] (n, y, I, L, R) Q := sm_in (sm_in (sm_in (And.intro (fun c1 => have k1t := Eq.mp (if_pos c1) k; sm_in (sm_in (And.intro (Nat.le_of_ble_eq_true rfl) (k1t)))) (fun c1 => have k1f := Eq.mp (if_neg c1) k; sm_in (sm_in (And.intro (hG.1 123 (Nat.le_of_ble_eq_true rfl)) (sm_gfr rfl (hG.2 123 9 rfl) (sm_in (sm_in (sm_in (And.intro (hG.1 123 (Nat.le_of_ble_eq_true rfl)) (sm_gfr rfl (hG.2 123 6 rfl) (sm_in ((have e2 := k1f.1; have k2 := k1f.2; sm_in (Exists.intro 360 (And.intro (hG.1 128 (Nat.le_of_ble_eq_true rfl)) (And.intro e2 ((have e3 := k2.1; have k3 := k2.2; sm_in (Exists.intro 320 (And.intro (hG.1 130 (Nat.le_of_ble_eq_true rfl)) (And.intro e3 (sm_in (And.intro (Nat.le_of_ble_eq_true rfl) (sm_in (k3)))))))))))))))))))))))))))
set_option maxRecDepth 100000 in
theorem w_X11_orders_104 {ex : sm_O} {d n : Nat} {y : sm_Y} {I : Nat → Nat → Int32} {L : Nat → Nat → Int64} {R : Nat → Nat → Option Nat} {Q : sm_Q} {w3 : Option Value} {a1 : Int32} {a2 : Int32} (hG : sm_G y R) (k : if 16 ≤ a2 then (sm_W ex d 0 0 231 140 [some (.ref 123), some (.int a1), some (.int 0), w3] [] (n, y, sm_st (sm_st I 123 53 0) 123 54 (-1), L, R) Q) else (vp_in a2 16 ∧ sm_W ex d 0 0 231 104 [some (.ref 123), some (.int a1), some (.int (a2 + 1)), w3] [] (n, y, sm_st I 131 a2.toNatClampNeg (I 129 a2.toNatClampNeg), L, R) Q)) : sm_W ex d 0 0 231 104 [some (.ref 123), some (.int a1), some (.int a2), w3] [] (n, y, I, L, R) Q := sm_in (sm_in (sm_in (And.intro (fun c1 => have k1t := Eq.mp (if_pos c1) k; sm_in (sm_in (sm_in (And.intro (hG.1 123 (Nat.le_of_ble_eq_true rfl)) (sm_in (sm_in (sm_in (And.intro (hG.1 123 (Nat.le_of_ble_eq_true rfl)) (sm_in (sm_in (And.intro (Nat.le_of_ble_eq_true rfl) (k1t)))))))))))) (fun c1 => have k1f := Eq.mp (if_neg c1) k; sm_in (sm_in (And.intro (hG.1 123 (Nat.le_of_ble_eq_true rfl)) (sm_gfr rfl (hG.2 123 10 rfl) (sm_in (sm_in (sm_in (And.intro (hG.1 123 (Nat.le_of_ble_eq_true rfl)) (sm_gfr rfl (hG.2 123 7 rfl) (sm_in ((have e2 := k1f.1; have k2 := k1f.2; sm_in (Exists.intro 16 (And.intro (hG.1 129 (Nat.le_of_ble_eq_true rfl)) (And.intro e2 (sm_in (Exists.intro 16 (And.intro (hG.1 131 (Nat.le_of_ble_eq_true rfl)) (And.intro e2 (sm_in (And.intro (Nat.le_of_ble_eq_true rfl) (sm_in (k2))))))))))))))))))))))))))
set_option maxRecDepth 100000 in
theorem w_X11_orders_140 {ex : sm_O} {d n : Nat} {y : sm_Y} {I : Nat → Nat → Int32} {L : Nat → Nat → Int64} {R : Nat → Nat → Option Nat} {Q : sm_Q} {w1 : Option Value} {w3 : Option Value} {a2 : Int32} {d1 : Nat} (hG : sm_G y R) (h1 : d1 < d) (k : if (I 123 21) ≤ a2 then (sm_W ex d1 0 0 128 0 [some (.ref 123), some (.int (I 123 53))] [] (n, y, I, L, R) (fun r μ1 => sm_W ex d 0 0 231 214 [some (.ref 123), w1, some (.int a2), w3] (r.toList ++ []) μ1 Q)) else (sm_W ex d 0 0 231 150 [some (.ref 123), w1, some (.int a2), some (.int 0)] [] (n, y, I, L, R) Q)) : sm_W ex d 0 0 231 140 [some (.ref 123), w1, some (.int a2), w3] [] (n, y, I, L, R) Q := sm_in (sm_in (sm_in (And.intro (hG.1 123 (Nat.le_of_ble_eq_true rfl)) (sm_in (And.intro (fun c1 => have k1t := Eq.mp (if_pos c1) k; sm_in (sm_in (sm_in (And.intro (hG.1 123 (Nat.le_of_ble_eq_true rfl)) (sm_in (Exists.intro 11 (And.intro (hG.1 123 (Nat.le_of_ble_eq_true rfl)) (And.intro rfl (sm_calln h1 (Nat.le_of_ble_eq_true rfl) (Nat.le_of_ble_eq_true rfl) k1t))))))))) (fun c1 => have k1f := Eq.mp (if_neg c1) k; sm_in (sm_in (And.intro (Nat.le_of_ble_eq_true rfl) (k1f)))))))))
set_option maxRecDepth 100000 in
theorem w_X11_orders_150 {ex : sm_O} {d n : Nat} {y : sm_Y} {I : Nat → Nat → Int32} {L : Nat → Nat → Int64} {R : Nat → Nat → Option Nat} {Q : sm_Q} {a1 : Int32} {a2 : Int32} {a3 : Int32} {d1 : Nat} (hG : sm_G y R) (h1 : d1 < d) (k : vp_in ((8 * a2) + 7) 96 ∧ (if (I 154 ((8 * a2) + 7).toNatClampNeg) ≤ a3 then (sm_W ex d 0 0 231 140 [some (.ref 123), some (.int a1), some (.int (a2 + 1)), some (.int a3)] [] (n, y, I, L, R) Q) else (sm_W ex d1 0 0 230 0 [some (.ref 123), some (.int (8 * a2)), none, none] [] (n, y, I, L, R) (fun r μ1 => sm_W ex d 0 0 231 174 [some (.ref 123), some (.int a1), some (.int a2), some (.int a3)] (r.toList ++ []) μ1 Q)))) : sm_W ex d 0 0 231 150 [some (.ref 123), some (.int a1), some (.int a2), some (.int a3)] [] (n, y, I, L, R) Q := sm_in (sm_in (sm_in (And.intro (hG.1 123 (Nat.le_of_ble_eq_true rfl)) (sm_gfr rfl (hG.2 123 52 rfl) (sm_in (sm_in (sm_in (sm_in (sm_in ((have e1 := k.1; have k1 := k.2; sm_in (Exists.intro 96 (And.intro (hG.1 154 (Nat.le_of_ble_eq_true rfl)) (And.intro e1 (sm_in (And.intro (fun c2 => have k2t := Eq.mp (if_pos c2) k1; sm_in (And.intro (Nat.le_of_ble_eq_true rfl) (sm_in (k2t)))) (fun c2 => have k2f := Eq.mp (if_neg c2) k1; sm_in (sm_in (sm_in (sm_in (sm_in (Exists.intro 11 (And.intro (hG.1 123 (Nat.le_of_ble_eq_true rfl)) (And.intro rfl (sm_calln h1 (Nat.le_of_ble_eq_true rfl) (Nat.le_of_ble_eq_true rfl) k2f)))))))))))))))))))))))))
set_option maxRecDepth 100000 in
theorem w_X11_orders_174 {ex : sm_O} {d n : Nat} {y : sm_Y} {I : Nat → Nat → Int32} {L : Nat → Nat → Int64} {R : Nat → Nat → Option Nat} {Q : sm_Q} {a1 : Int32} {a2 : Int32} {a3 : Int32} {s0 : Int32} {d1 : Nat} (hG : sm_G y R) (h1 : d1 < d) (k : if 0 ≤ s0 then (sm_W ex d 0 0 231 150 [some (.ref 123), some (.int a1), some (.int a2), some (.int (a3 + 1))] [] (n, y, I, L, R) Q) else (sm_W ex d1 0 0 232 0 [some (.ref 123), some (.int a1), none] [] (n, y, I, L, R) (fun r μ1 => sm_W ex d 0 0 231 182 [some (.ref 123), some (.int a1), some (.int a2), some (.int a3)] (r.toList ++ []) μ1 Q))) : sm_W ex d 0 0 231 174 [some (.ref 123), some (.int a1), some (.int a2), some (.int a3)] [.int s0] (n, y, I, L, R) Q := sm_in (And.intro (fun c1 => have k1t := Eq.mp (if_pos c1) k; sm_in (And.intro (Nat.le_of_ble_eq_true rfl) (sm_in (k1t)))) (fun c1 => have k1f := Eq.mp (if_neg c1) k; sm_in (sm_in (sm_in (Exists.intro 11 (And.intro (hG.1 123 (Nat.le_of_ble_eq_true rfl)) (And.intro rfl (sm_calln h1 (Nat.le_of_ble_eq_true rfl) (Nat.le_of_ble_eq_true rfl) k1f))))))))
set_option maxRecDepth 100000 in
theorem w_X11_orders_182 {ex : sm_O} {d n : Nat} {y : sm_Y} {I : Nat → Nat → Int32} {L : Nat → Nat → Int64} {R : Nat → Nat → Option Nat} {Q : sm_Q} {w1 : Option Value} {w3 : Option Value} {a2 : Int32} {d1 : Nat} (hG : sm_G y R) (h1 : d1 < d) (k : sm_W ex d1 0 0 128 0 [some (.ref 123), some (.int (-3))] [] (n, y, sm_st I 123 55 a2, L, R) (fun r μ1 => sm_W ex d 0 0 231 193 [some (.ref 123), w1, some (.int a2), w3] (r.toList ++ []) μ1 Q)) : sm_W ex d 0 0 231 182 [some (.ref 123), w1, some (.int a2), w3] [] (n, y, I, L, R) Q := sm_in (sm_in (sm_in (And.intro (hG.1 123 (Nat.le_of_ble_eq_true rfl)) (sm_in (sm_in (sm_in (Exists.intro 11 (And.intro (hG.1 123 (Nat.le_of_ble_eq_true rfl)) (And.intro rfl (sm_calln h1 (Nat.le_of_ble_eq_true rfl) (Nat.le_of_ble_eq_true rfl) k))))))))))
set_option maxRecDepth 100000 in
theorem w_X11_orders_193 {ex : sm_O} {d n : Nat} {y : sm_Y} {I : Nat → Nat → Int32} {L : Nat → Nat → Int64} {R : Nat → Nat → Option Nat} {Q : sm_Q} {w0 : Option Value} {w1 : Option Value} {w2 : Option Value} {w3 : Option Value} {s0 : Int32} (k : Q (some (.int s0)) (n, y, I, L, R)) : sm_W ex d 0 0 231 193 [w0, w1, w2, w3] [.int s0] (n, y, I, L, R) Q := sm_in (And.intro rfl k)
set_option maxRecDepth 100000 in
theorem w_X11_orders_214 {ex : sm_O} {d n : Nat} {y : sm_Y} {I : Nat → Nat → Int32} {L : Nat → Nat → Int64} {R : Nat → Nat → Option Nat} {Q : sm_Q} {w0 : Option Value} {w1 : Option Value} {w2 : Option Value} {w3 : Option Value} {s0 : Int32} (k : Q (some (.int s0)) (n, y, I, L, R)) : sm_W ex d 0 0 231 214 [w0, w1, w2, w3] [.int s0] (n, y, I, L, R) Q := sm_in (And.intro rfl k)
-- ORDERS: the model, behind the text
set_option maxHeartbeats 1000000 in
theorem c_X11_giveBack {ex : sm_O} {n : Nat} {y : sm_Y} {I : Nat → Nat → Int32} {L : Nat → Nat → Int64} {R : Nat → Nat → Option Nat} {Q : sm_Q} {d : Nat} {w2 : Option Value} {had : Int32} (hd : 1 ≤ d) (hG : sm_G y R)
    (k : ∀ (I' : Nat → Nat → Int32), (∀ a j, ¬ (a = 125 ∧ 4 ≤ j ∧ j < 24) → ¬ (a = 128 ∧ j < 320) → ¬ (a = 129 ∧ j < 16) → ¬ (a = 123 ∧ j = 8) → I' a j = I a j) → (∀ j, j < 20 → I' 125 (4 + j) = I 128 (340 + j)) → (∀ j, j < 320 → I' 128 j = I 130 j) → (∀ j, j < 16 → I' 129 j = I 131 j) → I' 123 8 = had → Q none (n, y, I', L, R)) : sm_W ex d 0 0 232 0 [some (.ref 123), some (.int had), w2] [] (n, y, I, L, R) Q := by
  refine w_X11_giveBack_0 (d1 := 0) hG (by omega) ?_
  refine c_X11_putBack (c := 17) hG (by decide) ?_
  refine w_X11_giveBack_6 ?_
  generalize hI1 : sm_cp I 128 (20 * 17) 125 4 20 = I1
  have f1 : ∀ a j, ¬ (a = 125 ∧ 4 ≤ j ∧ j < 24) → I1 a j = I a j := fun a j q => by rw [← hI1]; exact sm_cp_or _ (by omega)
  have g1 : ∀ j, j < 20 → I1 125 (4 + j) = I 128 (340 + j) := fun j hj => by
    rw [← hI1]
    refine (sm_cp_in _ _ _ (by omega) (by omega)).trans ?_
    rw [show 20 * 17 + (4 + j - 4) = 340 + j by omega]
  have last : ∀ (q j : Nat) (I3 : Nat → Nat → Int32), j + q = 16 → (∀ a i, ¬ (a = 128 ∧ i < 320) → ¬ (a = 129 ∧ i < 16) → I3 a i = I1 a i) → (∀ i, i < 320 → I3 128 i = I1 130 i) → (∀ i, i < j → I3 129 i = I1 131 i) → sm_W ex d 0 0 232 35 [some (.ref 123), some (.int had), some (.int (nI j))] [] (n, y, I3, L, R) Q := by
    intro q
    induction q with
    | zero =>
      intro j I3 hj f3 h3 h4
      obtain rfl : j = 16 := by omega
      refine w_X11_giveBack_35 hG ?_
      rw [if_pos (show (16 : Int32) ≤ nI 16 by decide)]
      refine k _ (fun a j q1 q2 q3 q4 => ?_) (fun j hj => ?_) (fun j hj => ?_) (fun j hj => ?_) (sm_st_s _ _ _ _)
      · rw [sm_st_or _ _ (by omega)]
        exact (f3 a j q2 q3).trans (f1 a j q1)
      · rw [sm_st_or _ _ (by omega)]
        exact (f3 125 _ (by omega) (by omega)).trans (g1 j hj)
      · rw [sm_st_or _ _ (by omega)]
        exact (h3 j hj).trans (f1 130 j (by omega))
      · rw [sm_st_or _ _ (by omega)]
        exact (h4 j hj).trans (f1 131 j (by omega))
    | succ q ih =>
      intro j I3 hj f3 h3 h4
      refine w_X11_giveBack_35 hG ?_
      rw [if_neg (by rw [sm_of 16, nI_leI (by decide) (by omega)]; omega), nI_clamp (by omega), sm_n1]
      refine ⟨vp_in_nI (by omega) (by decide), ih (j + 1) _ (by omega) (fun a i q1 q2 => by rw [sm_st_or _ _ (by omega)]; exact f3 a i q1 q2) (fun i hi => by rw [sm_st_or _ _ (by omega)]; exact h3 i hi) (fun i hi => ?_)⟩
      by_cases e : i = j
      · subst e
        rw [sm_st_s]
        exact f3 131 i (by omega) (by omega)
      · rw [sm_st_j _ _ e]
        exact h4 i (by omega)
  have first : ∀ (q j : Nat) (I3 : Nat → Nat → Int32), j + q = 320 → (∀ a i, ¬ (a = 128 ∧ i < 320) → I3 a i = I1 a i) → (∀ i, i < j → I3 128 i = I1 130 i) → sm_W ex d 0 0 232 8 [some (.ref 123), some (.int had), some (.int (nI j))] [] (n, y, I3, L, R) Q := by
    intro q
    induction q with
    | zero =>
      intro j I3 hj f3 h3
      obtain rfl : j = 320 := by omega
      refine w_X11_giveBack_8 hG ?_
      rw [if_pos (show (320 : Int32) ≤ nI 320 by decide)]
      exact last 16 0 I3 (by omega) (fun a i q1 _ => f3 a i q1) h3 (fun i hi => absurd hi (by omega))
    | succ q ih =>
      intro j I3 hj f3 h3
      refine w_X11_giveBack_8 hG ?_
      rw [if_neg (by rw [sm_of 320, nI_leI (by decide) (by omega)]; omega), nI_clamp (by omega), sm_n1]
      refine ⟨vp_in_nI (by omega) (by decide), vp_in_nI (by omega) (by decide), ih (j + 1) _ (by omega) (fun a i q1 => by rw [sm_st_or _ _ (by omega)]; exact f3 a i q1) (fun i hi => ?_)⟩
      by_cases e : i = j
      · subst e
        rw [sm_st_s]
        exact f3 130 i (by omega)
      · rw [sm_st_j _ _ e]
        exact h3 i (by omega)
  exact first 320 0 I1 (by omega) (fun _ _ _ => rfl) (fun i hi => absurd hi (by omega))
theorem mU_ext3 {u : List (Nat × St)} {I I' : Nat → Nat → Int32} (h16 : u.length ≤ 16) (h7 : ∀ x ∈ u, sMen x.2 ≤ 7) (h : ∀ a j, (a = 123 ∧ j = 8) ∨ (a = 129 ∧ j < 16) ∨ (a = 128 ∧ j < 320) → I' a j = I a j) (hs : mU u I) : mU u I' := by
  refine ⟨by rw [h 123 8 (by omega)]; exact hs.1, fun i x hi => ?_⟩
  have hl : i < u.length := (List.getElem?_eq_some_iff.mp hi).1
  have hx7 := h7 x (List.mem_of_getElem? hi)
  obtain ⟨a1, a2, a3, a4, a5⟩ := hs.2 i x hi
  refine ⟨by rw [h 129 i (by omega)]; exact a1, fun j hj => ?_, ?_, ?_, fun j hj => ?_⟩
  · show I' 128 _ = _; rw [h 128 _ (by omega)]; exact a2 j hj
  · show I' 128 _ = _; rw [h 128 _ (by omega)]; exact a3
  · show I' 128 _ = _; rw [h 128 _ (by omega)]; exact a4
  · show I' 128 _ = _ ∧ I' 128 _ = _; rw [h 128 _ (by omega), h 128 _ (by omega)]; exact a5 j hj
def mRu (I I' : Nat → Nat → Int32) (L L' : Nat → Nat → Int64) : Prop := (∀ a j, ¬ (a = 123 ∧ (j = 38 ∨ j = 34 ∨ j = 8 ∨ j = 20 ∨ j = 56 ∨ j = 53 ∨ j = 54 ∨ j = 55)) → a ≠ 144 → ¬ (a = 125 ∧ 4 ≤ j ∧ j < 24) → a ≠ 128 → a ≠ 129 → a ≠ 130 → a ≠ 131 → I' a j = I a j) ∧ (∀ a j, a ≠ 143 → a ≠ 141 → a ≠ 142 → ¬ (a = 123 ∧ (j = 39 ∨ j = 40)) → L' a j = L a j) ∧ I' 123 20 = 0
set_option maxHeartbeats 2000000 in
theorem c_ordT {ex : sm_O} {n : Nat} {y : sm_Y} {I : Nat → Nat → Int32} {L : Nat → Nat → Int64} {R : Nat → Nat → Option Nat} {Q : sm_Q} {d : Nat} {w1 w2 w3 : Option Value} {s : St} {u : List (Nat × St)} {F : Option (Nat × Law)} {l : List OC} (hd : 11 ≤ d) (hG : sm_G y R) (h19 : I 123 19 = 0) (hs : mS s (I 125)) (hu : mU u I) (hws : wS s) (hwu : wU s u) (hF : mForce I F) (h20 : I 123 20 = 0) (hl : mOrd I l)
    (k0 : ∀ c, or_all F l 0 (s, u, 0, none) = .inl c → ∀ I' L', mRu I I' L L' → mS s (I' 125) → mU u I' → I' 123 55 = nI c → Q (some (.int (-3))) (n, y, rfuI 3 I', L', R))
    (k1 : ∀ z, or_all F l 0 (s, u, 0, none) = .inr z → wZ s 240 z → ∀ I' L', mRu I I' L L' → mS z.1 (I' 125) → mU z.2.1 I' → I' 123 55 = I 123 55 → Q (some (.int (nI z.2.2.1))) (n, y, telI I', L', R)) : sm_W ex d 0 0 231 50 [some (.ref 123), w1, w2, w3] [] (n, y, I, L, R) Q := by
  have h7 := hws.1.1
  have hu7 : ∀ x ∈ u, sMen x.2 ≤ 7 := fun x hx => (hwu.2 x hx).2.1.1.1
  refine w_X11_orders_50 (d1 := 10) hG (by omega) ?_
  rw [h19, if_pos rfl]
  refine c_X11_keepAll (c := 17) hG (by decide) ?_
  refine w_X11_orders_70 hG ?_
  generalize hI1 : sm_cp I 125 4 128 (20 * 17) 20 = I1
  have f1 : ∀ a j, ¬ (a = 128 ∧ 340 ≤ j ∧ j < 360) → I1 a j = I a j := fun a j q => by rw [← hI1]; exact sm_cp_or _ (by omega)
  have g1 : ∀ j, j < 20 → I1 128 (340 + j) = I 125 (4 + j) := fun j hj => by
    rw [← hI1]
    refine (sm_cp_in _ _ _ (by omega) (by omega)).trans ?_
    rw [show 4 + (340 + j - 20 * 17) = 4 + j by omega]
  rw [f1 123 8 (by omega), hu.1]
  -- the main part, from 140 on
  have main : ∀ (I3 : Nat → Nat → Int32), (∀ a j, a ≠ 130 → a ≠ 131 → ¬ (a = 123 ∧ (j = 53 ∨ j = 54)) → I3 a j = I1 a j) → (∀ j, j < 320 → I3 130 j = I1 128 j) → (∀ j, j < 16 → I3 131 j = I1 129 j) → I3 123 53 = nI 0 → I3 123 54 = sp_up none → sm_W ex d 0 0 231 140 [some (.ref 123), some (.int (nI u.length)), some (.int (nI 0)), w3] [] (n, y, I3, L, R) Q := by
    intro I3 f3 g30 g31 d3 l8
    have fr3 : ∀ a j, ¬ (a = 128 ∧ 340 ≤ j ∧ j < 360) → a ≠ 130 → a ≠ 131 → ¬ (a = 123 ∧ (j = 53 ∨ j = 54)) → I3 a j = I a j := fun a j q1 q2 q3 q4 => (f3 a j q2 q3 q4).trans (f1 a j q1)
    have l3 : mOrd I3 l := mOrd_kept (fun a j q => fr3 a j (by omega) (by omega) (by omega) (by omega)) hl
    have s3 : mS s (I3 125) := mS_ext (fun j q => fr3 125 j (by omega) (by omega) (by omega) (by omega)) h7 hs
    have u3 : mU u I3 := mU_ext2 hwu.1 hu7 (fun a j q => fr3 a j (by omega) (by omega) (by omega) (by omega)) hu
    have F3 : mForce I3 F := mForce_r (fun j _ => fr3 125 j (by omega) (by omega) (by omega) (by omega)) hF
    have z20 : I3 123 20 = 0 := (fr3 123 20 (by omega) (by omega) (by omega) (by omega)).trans h20
    have clauses : ∀ (q c : Nat) (z : ZZ) (I4 : Nat → Nat → Int32) (L4 : Nat → Nat → Int64) (w3 : Option Value), c + q = l.length → mRf I3 I4 L L4 → mS z.1 (I4 125) → mU z.2.1 I4 → mForce I4 F → I4 123 53 = nI z.2.2.1 → I4 123 54 = sp_up z.2.2.2 → wZ s (20 * c) z → or_all F l 0 (s, u, 0, none) = or_all F (l.drop c) c z → sm_W ex d 0 0 231 140 [some (.ref 123), some (.int (nI u.length)), some (.int (nI c)), w3] [] (n, y, I4, L4, R) Q := by
      intro q
      induction q with
      | zero =>
        intro c z I4 L4 w3 hc f4 s4 u4 F4 e7 e8 hz hall
        obtain rfl : c = l.length := by omega
        have hl12 := hl.2.1
        refine w_X11_orders_140 (d1 := 10) hG (by omega) ?_
        rw [show I4 123 21 = nI l.length from (f4.1 123 21 (by omega) (by omega) (by omega) (by omega) (by omega)).trans l3.1, if_pos (Int32.le_refl _), e7]
        rw [List.drop_length] at hall
        refine c_X11_tellP hG (nI_pos' (by have := hz.2.2.2.1; omega)) ?_
        refine w_X11_orders_214 ?_
        refine k1 z hall ⟨hz.1, hz.2.1, hz.2.2.1, by have := hz.2.2.2.1; omega, hz.2.2.2.2⟩ I4 L4 ⟨fun a j q1 q2 q3 q4 q5 q6 q7 => (f4.1 a j (by omega) q2 q3 q5 (by omega)).trans (fr3 a j (by omega) q6 q7 (by omega)), f4.2.1, f4.2.2⟩ s4 u4 ((f4.1 123 55 (by omega) (by omega) (by omega) (by omega) (by omega)).trans (fr3 123 55 (by omega) (by omega) (by omega) (by omega)))
      | succ q ih =>
        intro c z I4 L4 w3 hc f4 s4 u4 F4 e7 e8 hz hall
        have hcl : c < l.length := by omega
        have hl12 := hl.2.1
        have hx : l[c]? = some l[c] := List.getElem?_eq_getElem hcl
        generalize hxx : l[c] = x at hx
        have hdrop : l.drop c = x :: l.drop (c + 1) := by rw [← hxx]; exact List.drop_eq_getElem_cons hcl
        rw [hdrop] at hall
        have e8c : 8 * nI c = nI (8 * c) := by rw [show (8 : Int32) = nI 8 from rfl, pk_mul]
        have e8c7 : nI (8 * c) + 7 = nI (8 * c + 7) := nI_add (8 * c) 7
        obtain ⟨_, _, _, _, _, _, _, _, _, _, _, _, _, _, _, _, _, m14, m15⟩ := l3.2.2 c x hx
        have times : ∀ (p t : Nat) (z : ZZ) (I5 : Nat → Nat → Int32) (L5 : Nat → Nat → Int64), t + p = x.2 → mRf I3 I5 L L5 → mS z.1 (I5 125) → mU z.2.1 I5 → mForce I5 F → I5 123 53 = nI z.2.2.1 → I5 123 54 = sp_up z.2.2.2 → wZ s (20 * c + t) z → or_all F l 0 (s, u, 0, none) = (match or_times F x.1 p z with
            | none => .inl c
            | some z' => or_all F (l.drop (c + 1)) (c + 1) z') → sm_W ex d 0 0 231 150 [some (.ref 123), some (.int (nI u.length)), some (.int (nI c)), some (.int (nI t))] [] (n, y, I5, L5, R) Q := by
          intro p
          induction p with
          | zero =>
            intro t z I5 L5 ht f5 s5 u5 F5 e7 e8 hz hall
            refine w_X11_orders_150 (d1 := 10) hG (by omega) ?_
            rw [e8c, e8c7, nI_clamp (by omega), show I5 154 (8 * c + 7) = nI x.2 from (f5.1 154 _ (by omega) (by omega) (by omega) (by omega) (by omega)).trans m14, if_pos (by rw [nI_leI (by omega) (by omega)]; omega), sm_n1]
            exact ⟨vp_in_nI (by omega) (by decide), ih (c + 1) z I5 L5 _ (by omega) f5 s5 u5 F5 e7 e8 ⟨hz.1, hz.2.1, hz.2.2.1, by have := hz.2.2.2.1; omega, hz.2.2.2.2⟩ hall⟩
          | succ p ihp =>
            intro t z I5 L5 ht f5 s5 u5 F5 e7 e8 hz hall
            refine w_X11_orders_150 (d1 := 10) hG (by omega) ?_
            rw [e8c, e8c7, nI_clamp (by omega), show I5 154 (8 * c + 7) = nI x.2 from (f5.1 154 _ (by omega) (by omega) (by omega) (by omega) (by omega)).trans m14, if_neg (by rw [nI_leI (by omega) (by omega)]; omega)]
            refine ⟨vp_in_nI (by omega) (by decide), ?_⟩
            have l5 : mOrd I5 l := mOrd_kept (fun a j q => f5.1 a j (by omega) (by omega) (by omega) (by omega) (by omega)) l3
            refine c_X11_run (Nat.le_refl 10) hG s5 u5 hz (by omega) F5 f5.2.2 l5 hx e7 e8 ?_ ?_
            · intro hone I6 L6 f6
              have hall2 : or_all F l 0 (s, u, 0, none) = .inl c := by
                rw [hall]
                show (match (or_one F x.1 z).bind (or_times F x.1 p) with
                  | none => Sum.inl c
                  | some z' => or_all F (l.drop (c + 1)) (c + 1) z') = _
                rw [hone]
                rfl
              have f36 := f5.trans f6
              refine w_X11_orders_174 (d1 := 10) hG (by omega) ?_
              rw [if_neg (show ¬ (0 : Int32) ≤ -3 by decide)]
              refine c_X11_giveBack (by omega) hG ?_
              intro I7 f7 b1 b2 b3 b4
              refine w_X11_orders_182 (d1 := 10) hG (by omega) ?_
              refine c_X11_tellN (j := 3) hG (by omega) rfl ?_
              refine w_X11_orders_193 ?_
              have f8 : ∀ a j, ¬ (a = 123 ∧ j = 55) → sm_st I7 123 55 (nI c) a j = I7 a j := fun a j q => sm_st_or _ _ (by omega)
              have r125 : ∀ j, j = 0 ∨ (4 ≤ j ∧ j < 38) → sm_st I7 123 55 (nI c) 125 j = I 125 j := fun j hj => by
                rw [f8 125 j (by omega)]
                by_cases e : 4 ≤ j ∧ j < 24
                · obtain ⟨i, rfl⟩ : ∃ i, j = 4 + i := ⟨j - 4, by omega⟩
                  rw [b1 i (by omega), f36.1 128 _ (by omega) (by omega) (by omega) (by omega) (by omega), f3 128 _ (by omega) (by omega) (by omega)]
                  exact g1 i (by omega)
                · rw [f7 125 j (fun q => e q.2) (by omega) (by omega) (by omega), f36.1 125 j (by omega) (by omega) (fun q => e q.2) (by omega) (by omega)]
                  exact fr3 125 j (by omega) (by omega) (by omega) (by omega)
              refine k0 c hall2 _ L6 ⟨fun a j q1 q2 q3 q4 q5 q6 q7 => ?_, f36.2.1, ?_⟩ (mS_ext r125 h7 hs) (mU_ext3 hwu.1 hu7 (fun a j q => ?_) hu) (sm_st_s _ _ _ _)
              · rw [f8 a j (by omega), f7 a j q3 (by omega) (by omega) (by omega), f36.1 a j (by omega) q2 q3 q5 (by omega)]
                exact fr3 a j (by omega) q6 q7 (by omega)
              · rw [f8 123 20 (by omega), f7 123 20 (by omega) (by omega) (by omega) (by omega)]
                exact f36.2.2
              · rw [f8 a j (by omega)]
                rcases q with q | q | q
                · obtain ⟨rfl, rfl⟩ := q
                  rw [b4]
                  exact hu.1.symm
                · obtain ⟨rfl, q⟩ := q
                  rw [b3 j q, f36.1 131 j (by omega) (by omega) (by omega) (by omega) (by omega), g31 j q]
                  exact f1 129 j (by omega)
                · obtain ⟨rfl, q⟩ := q
                  rw [b2 j q, f36.1 130 j (by omega) (by omega) (by omega) (by omega) (by omega), g30 j q]
                  exact f1 128 j (by omega)
            · intro z' hone I6 L6 f6 s6 u6 F6 e76 e86
              refine w_X11_orders_174 (d1 := 10) hG (by omega) ?_
              rw [if_pos (show (0 : Int32) ≤ 0 by decide), sm_n1 t]
              refine ihp (t + 1) z' I6 L6 (by omega) (f5.trans f6) s6 u6 F6 e76 e86 (or_one_w hz hone) ?_
              rw [hall]
              show (match (or_one F x.1 z).bind (or_times F x.1 p) with
                  | none => Sum.inl c
                  | some z' => or_all F (l.drop (c + 1)) (c + 1) z') = _
              rw [hone]
              rfl
        refine w_X11_orders_140 (d1 := 10) hG (by omega) ?_
        rw [show I4 123 21 = nI l.length from (f4.1 123 21 (by omega) (by omega) (by omega) (by omega) (by omega)).trans l3.1, if_neg (by rw [nI_leI (by omega) (by omega)]; omega)]
        exact times x.2 0 z I4 L4 (by omega) f4 s4 u4 F4 e7 e8 hz hall
    exact clauses l.length 0 (s, u, 0, none) I3 L _ (by omega) ⟨fun _ _ _ _ _ _ _ => rfl, fun _ _ _ _ _ _ => rfl, z20⟩ s3 u3 F3 d3 l8 ⟨hws, hwu, ⟨rfl, rfl, rfl, fun _ _ => rfl⟩, Nat.zero_le _, fun r hr => by cases hr⟩ rfl
  -- what is put by
  have last : ∀ (q j : Nat) (I3 : Nat → Nat → Int32), j + q = 16 → (∀ a i, a ≠ 130 → a ≠ 131 → I3 a i = I1 a i) → (∀ i, i < 320 → I3 130 i = I1 128 i) → (∀ i, i < j → I3 131 i = I1 129 i) → sm_W ex d 0 0 231 104 [some (.ref 123), some (.int (nI u.length)), some (.int (nI j)), w3] [] (n, y, I3, L, R) Q := by
    intro q
    induction q with
    | zero =>
      intro j I3 hj f3 h3 h4
      obtain rfl : j = 16 := by omega
      refine w_X11_orders_104 hG ?_
      rw [if_pos (show (16 : Int32) ≤ nI 16 by decide)]
      refine main _ (fun a j q1 q2 q3 => ?_) (fun j hj => ?_) (fun j hj => ?_) ?_ (sm_st_s _ _ _ _)
      · rw [sm_st_or _ _ (by omega), sm_st_or _ _ (by omega)]
        exact f3 a j q1 q2
      · rw [sm_st_or _ _ (by omega), sm_st_or _ _ (by omega)]
        exact h3 j hj
      · rw [sm_st_or _ _ (by omega), sm_st_or _ _ (by omega)]
        exact h4 j hj
      · rw [sm_st_j _ _ (by decide)]
        exact sm_st_s _ _ _ _
    | succ q ih =>
      intro j I3 hj f3 h3 h4
      refine w_X11_orders_104 hG ?_
      rw [if_neg (by rw [sm_of 16, nI_leI (by decide) (by omega)]; omega), nI_clamp (by omega), sm_n1]
      refine ⟨vp_in_nI (by omega) (by decide), ih (j + 1) _ (by omega) (fun a i q1 q2 => by rw [sm_st_o _ _ q2]; exact f3 a i q1 q2) (fun i hi => by rw [sm_st_o _ _ (by decide)]; exact h3 i hi) (fun i hi => ?_)⟩
      by_cases e : i = j
      · subst e
        rw [sm_st_s]
        exact f3 129 i (by omega) (by omega)
      · rw [sm_st_j _ _ e]
        exact h4 i (by omega)
  have first : ∀ (q j : Nat) (I3 : Nat → Nat → Int32), j + q = 320 → (∀ a i, a ≠ 130 → I3 a i = I1 a i) → (∀ i, i < j → I3 130 i = I1 128 i) → sm_W ex d 0 0 231 77 [some (.ref 123), some (.int (nI u.length)), some (.int (nI j)), w3] [] (n, y, I3, L, R) Q := by
    intro q
    induction q with
    | zero =>
      intro j I3 hj f3 h3
      obtain rfl : j = 320 := by omega
      refine w_X11_orders_77 hG ?_
      rw [if_pos (show (320 : Int32) ≤ nI 320 by decide)]
      exact last 16 0 I3 (by omega) (fun a i q1 _ => f3 a i q1) h3 (fun i hi => absurd hi (by omega))
    | succ q ih =>
      intro j I3 hj f3 h3
      refine w_X11_orders_77 hG ?_
      rw [if_neg (by rw [sm_of 320, nI_leI (by decide) (by omega)]; omega), nI_clamp (by omega), sm_n1]
      refine ⟨vp_in_nI (by omega) (by decide), vp_in_nI (by omega) (by decide), ih (j + 1) _ (by omega) (fun a i q1 => by rw [sm_st_o _ _ q1]; exact f3 a i q1) (fun i hi => ?_)⟩
      by_cases e : i = j
      · subst e
        rw [sm_st_s]
        exact f3 128 i (by omega)
      · rw [sm_st_j _ _ e]
        exact h3 i (by omega)
  exact first 320 0 I1 (by omega) (fun _ _ _ => rfl) (fun i hi => absurd hi (by omega))

