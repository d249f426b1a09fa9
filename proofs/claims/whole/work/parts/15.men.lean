-- THE STATE IN WORDS
/-- men, hold, look, tired, cashiered, who is up, held, terms -/
abbrev St : Type := Nat × (Nat → Nat) × (Nat → Nat) × (Nat → Nat) × (Nat → Bool) × Option Nat × Nat × (Nat → Nat)
abbrev sMen (s : St) : Nat := s.1
abbrev sHold (s : St) : Nat → Nat := s.2.1
abbrev sLook (s : St) : Nat → Nat := s.2.2.1
abbrev sTired (s : St) : Nat → Nat := s.2.2.2.1
abbrev sCash (s : St) : Nat → Bool := s.2.2.2.2.1
abbrev sUp (s : St) : Option Nat := s.2.2.2.2.2.1
abbrev sHeld (s : St) : Nat := s.2.2.2.2.2.2.1
abbrev sTerm (s : St) : Nat → Nat := s.2.2.2.2.2.2.2
def sp_up : Option Nat → Int32
  | none => -1
  | some u => nI u
/-- what a state can be (the hour: on paper it goes on) -/
def sp_ok (s : St) : Prop := sMen s ≤ 7 ∧ (∀ i, i < sMen s → 1 ≤ sHold s i ∧ sHold s i ≤ 9 ∧ sLook s i < 64 ∧ sTired s i ≤ 99) ∧ (∀ u, sUp s = some u → u < sMen s) ∧ sHeld s ≤ 99 ∧ sTerm s 0 ≤ 100000 ∧ sTerm s 1 ≤ 10 ∧ sTerm s 2 ≤ 9 ∧ sTerm s 3 ≤ 99
/-- the model's row bears it -/
def mS (s : St) (r : Nat → Int32) : Prop := r 0 = nI (sMen s) ∧ (∀ i, i < sMen s → r (24 + i) = nI (sHold s i) ∧ r (31 + i) = nI (sLook s i) ∧ r (10 + i) = nI (sTired s i) ∧ r (17 + i) = if sCash s i then 1 else 0) ∧ r 8 = sp_up (sUp s) ∧ r 9 = nI (sHeld s) ∧ ∀ j, j < 4 → r (4 + j) = nI (sTerm s j)
/-- a Standing of the class bears it -/
def cS (s : St) (o : Nat) (I : Nat → Nat → Int32) : Prop := I o 4 = nI (sMen s) ∧ (∀ i, i < sMen s → I (o + 1) i = nI (sHold s i) ∧ I (o + 2) i = nI (sLook s i) ∧ I (o + 3) i = nI (sTired s i)) ∧ I o 5 = nI (sp_bits (sCash s) (sMen s)) ∧ I o 6 = sp_up (sUp s) ∧ I o 7 = nI (sHeld s) ∧ ∀ j, j < 4 → I (o + 4) j = nI (sTerm s j)
def sp_unlike (s : St) (a b : Nat) : Nat := sp_pop (fun f => (sLook s a).testBit f != (sLook s b).testBit f) 6
def sp_fit (s : St) : Nat := sp_pop (fun i => !sCash s i) (sMen s)
theorem sp_pop_not (p : Nat → Bool) : ∀ n, sp_pop (fun i => !p i) n + sp_pop p n = n
  | 0 => rfl
  | n + 1 => by
    have := sp_pop_not p n
    simp only [sp_pop]
    by_cases h : p n = true
    · simp only [h]
      simp
      omega
    · simp only [h]
      simp
      omega

set_option maxRecDepth 10000 in
theorem w_X11_fitBits_0 {ex : sm_O} {d n : Nat} {y : sm_Y} {I : Nat → Nat → Int32} {L : Nat → Nat → Int64} {R : Nat → Nat → Option Nat} {Q : sm_Q} {w1 : Option Value} {w2 : Option Value} (k : sm_W ex d 0 0 139 4 [some (.ref 123), some (.int 0), some (.int 0)] [] (n, y, I, L, R) Q) : sm_W ex d 0 0 139 0 [some (.ref 123), w1, w2] [] (n, y, I, L, R) Q := sm_in (sm_in (And.intro (Nat.le_of_ble_eq_true rfl) (sm_in (sm_in (And.intro (Nat.le_of_ble_eq_true rfl) (k))))))
set_option maxRecDepth 10000 in
theorem w_X11_fitBits_4 {ex : sm_O} {d n : Nat} {y : sm_Y} {I : Nat → Nat → Int32} {L : Nat → Nat → Int64} {R : Nat → Nat → Option Nat} {Q : sm_Q} {a1 : Int32} {a2 : Int32} (hG : sm_G y R) (hdep : 1 ≤ d) (k : if (I 125 0) ≤ a2 then (Q (some (.int a1)) (n, y, I, L, R)) else (vp_in (17 + a2) 5450 ∧ (if (I 125 (17 + a2).toNatClampNeg) = 0 then (sm_W ex d 0 0 139 4 [some (.ref 123), some (.int (a1 ||| ((1 : Int32) <<< (a2 &&& 31)))), some (.int (a2 + 1))] [] (n, y, I, L, R) Q) else (sm_W ex d 0 0 139 4 [some (.ref 123), some (.int (a1 ||| 0)), some (.int (a2 + 1))] [] (n, y, I, L, R) Q)))) : sm_W ex d 0 0 139 4 [some (.ref 123), some (.int a1), some (.int a2)] [] (n, y, I, L, R) Q := sm_in (sm_in (sm_in (And.intro (hG.1 123 (Nat.le_of_ble_eq_true rfl)) (sm_gfr rfl (hG.2 123 3 rfl) (sm_in (sm_in (Exists.intro 5450 (And.intro (hG.1 125 (Nat.le_of_ble_eq_true rfl)) (And.intro (sm_lin (by decide)) (sm_in (And.intro (fun c1 => have k1t := Eq.mp (if_pos c1) k; sm_in (sm_in (And.intro rfl k1t))) (fun c1 => have k1f := Eq.mp (if_neg c1) k; sm_in (sm_in (sm_in (sm_in (Exists.intro 11 (And.intro (hG.1 123 (Nat.le_of_ble_eq_true rfl)) (And.intro rfl (sm_calln (d1 := 0) (Nat.lt_of_lt_of_le (Nat.le_of_ble_eq_true rfl : 0 < 1) hdep) (Nat.le_of_ble_eq_true rfl) (Nat.le_of_ble_eq_true rfl) (sm_in (sm_in (And.intro (hG.1 123 (Nat.le_of_ble_eq_true rfl)) (sm_gfr rfl (hG.2 123 3 rfl) (sm_in (sm_in (sm_in ((have e2 := k1f.1; have k2 := k1f.2; sm_in (Exists.intro 5450 (And.intro (hG.1 125 (Nat.le_of_ble_eq_true rfl)) (And.intro e2 (sm_in (And.intro (fun c3 => have k3f := Eq.mp (if_neg c3) k2; sm_in (sm_in (And.intro rfl (And.intro (Or.inl rfl) (sm_in (And.intro (fun _ => sm_in (sm_in (sm_in (And.intro (Nat.le_of_ble_eq_true rfl) (sm_in (And.intro (Nat.le_of_ble_eq_true rfl) (sm_in (k3f)))))))) (fun c => absurd (by decide : (0 : Int32) = 0) c))))))) (fun c3 => have k3t := Eq.mp (if_pos c3) k2; sm_in (sm_in (sm_in (And.intro rfl (And.intro (Or.inr rfl) (sm_in (And.intro (fun c => absurd c (by decide : ¬ (1 : Int32) = 0)) (fun _ => sm_in (sm_in (sm_in (sm_in (sm_in (sm_in (And.intro (Nat.le_of_ble_eq_true rfl) (sm_in (And.intro (Nat.le_of_ble_eq_true rfl) (sm_in (k3t)))))))))))))))))))))))))))))))))))))))))))))))))))
theorem c_X11_fitBits {ex : sm_O} {n : Nat} {y : sm_Y} {I : Nat → Nat → Int32} {L : Nat → Nat → Int64} {R : Nat → Nat → Option Nat} {Q : sm_Q} {d : Nat} {w1 w2 : Option Value} {s : St} (hd : 1 ≤ d) (hG : sm_G y R) (hs : mS s (I 125)) (h7 : sMen s ≤ 7) (k : Q (some (.int (nI (sp_bits (fun i => !sCash s i) (sMen s))))) (n, y, I, L, R)) : sm_W ex d 0 0 139 0 [some (.ref 123), w1, w2] [] (n, y, I, L, R) Q := by
  have key : ∀ (q j : Nat), j + q = sMen s → sm_W ex d 0 0 139 4 [some (.ref 123), some (.int (nI (sp_bits (fun i => !sCash s i) j))), some (.int (nI j))] [] (n, y, I, L, R) Q := by
    intro q
    induction q with
    | zero =>
      intro j hj
      obtain rfl : j = sMen s := by omega
      refine w_X11_fitBits_4 hG hd ?_
      rw [if_pos (by rw [hs.1]; exact Int32.le_refl _)]
      exact k
    | succ q ih =>
      intro j hj
      refine w_X11_fitBits_4 hG hd ?_
      rw [if_neg (by rw [hs.1, nI_leI (by omega) (by omega)]; omega)]
      refine ⟨sm_ci17 (by omega) (by decide), ?_⟩
      have hl : sp_bits (fun i => !sCash s i) j < 128 := Nat.lt_of_lt_of_le (sp_bits_lt _ j) (show 2 ^ j ≤ 2 ^ 7 from Nat.pow_le_pow_right (by decide) (by omega))
      have hp : 2 ^ j < 128 := Nat.lt_of_lt_of_le (Nat.pow_lt_pow_right (by decide) (by omega : j < 7)) (by decide)
      have h9 := ih (j + 1) (by omega)
      rw [← sp_bits_or] at h9
      rw [sm_cx17 (by omega), (hs.2.1 j (by omega)).2.2.2]
      cases hc : sCash s j with
      | false =>
        rw [hc] at h9
        rw [if_pos (by decide), sm_shl7 j (by omega), sm_or7 _ hl _ hp, sm_n1]
        exact h9
      | true =>
        rw [hc] at h9
        rw [if_neg (by decide), sm_n1, show (0 : Int32) = nI 0 from rfl, sm_or7 _ hl 0 (by decide)]
        exact h9
  refine w_X11_fitBits_0 ?_
  exact key (sMen s) 0 (by omega)

set_option maxRecDepth 10000 in
theorem w_X11_unlike_0 {ex : sm_O} {d n : Nat} {y : sm_Y} {I : Nat → Nat → Int32} {L : Nat → Nat → Int64} {R : Nat → Nat → Option Nat} {Q : sm_Q} {w0 : Option Value} {w1 : Option Value} {w3 : Option Value} {w4 : Option Value} {a2 : Int32} (k : sm_W ex d 0 0 140 5 [w0, w1, some (.int a2), some (.int 0), some (.int 0)] [] (n, y, I, L, R) Q) : sm_W ex d 0 0 140 0 [w0, w1, some (.int a2), w3, w4] [] (n, y, I, L, R) Q := sm_in (sm_in (And.intro (Nat.le_of_ble_eq_true rfl) (sm_in (sm_in (And.intro (Nat.le_of_ble_eq_true rfl) (k))))))
set_option maxRecDepth 10000 in
theorem w_X11_unlike_5 {ex : sm_O} {d n : Nat} {y : sm_Y} {I : Nat → Nat → Int32} {L : Nat → Nat → Int64} {R : Nat → Nat → Option Nat} {Q : sm_Q} {a1 : Int32} {a2 : Int32} {a3 : Int32} {a4 : Int32} (hG : sm_G y R) (hdep : 1 ≤ d) (k : if 6 ≤ a4 then (Q (some (.int a3)) (n, y, I, L, R)) else (vp_in (31 + a1) 5450 ∧ vp_in (31 + a2) 5450 ∧ (if (sm_b (((I 125 (31 + a1).toNatClampNeg) >>> (a4 &&& 31)) &&& 1 = 1)) = (sm_b (((I 125 (31 + a2).toNatClampNeg) >>> (a4 &&& 31)) &&& 1 = 1)) then (sm_W ex d 0 0 140 5 [some (.ref 123), some (.int a1), some (.int a2), some (.int (a3 + 0)), some (.int (a4 + 1))] [] (n, y, I, L, R) Q) else (sm_W ex d 0 0 140 5 [some (.ref 123), some (.int a1), some (.int a2), some (.int (a3 + 1)), some (.int (a4 + 1))] [] (n, y, I, L, R) Q)))) : sm_W ex d 0 0 140 5 [some (.ref 123), some (.int a1), some (.int a2), some (.int a3), some (.int a4)] [] (n, y, I, L, R) Q := sm_in (sm_in (sm_in (And.intro (fun c1 => have k1t := Eq.mp (if_pos c1) k; sm_in (sm_in (And.intro rfl k1t))) (fun c1 => have k1f := Eq.mp (if_neg c1) k; sm_in (sm_in (sm_in (And.intro (hG.1 123 (Nat.le_of_ble_eq_true rfl)) (sm_gfr rfl (hG.2 123 3 rfl) (sm_in (sm_in (sm_in ((have e2 := k1f.1; have k2 := k1f.2; sm_in (Exists.intro 5450 (And.intro (hG.1 125 (Nat.le_of_ble_eq_true rfl)) (And.intro e2 (sm_in (sm_in (And.intro (Nat.le_of_ble_eq_true rfl) (sm_calln (d1 := 0) (Nat.lt_of_lt_of_le (Nat.lt_succ_self 0) (Nat.le_trans (Nat.le_of_ble_eq_true rfl) hdep)) (Nat.le_of_ble_eq_true rfl) (Nat.le_of_ble_eq_true rfl) (c_X11_is  (sm_in (sm_in (And.intro (hG.1 123 (Nat.le_of_ble_eq_true rfl)) (sm_gfr rfl (hG.2 123 3 rfl) (sm_in (sm_in (sm_in ((have e3 := k2.1; have k3 := k2.2; sm_in (Exists.intro 5450 (And.intro (hG.1 125 (Nat.le_of_ble_eq_true rfl)) (And.intro e3 (sm_in (sm_in (And.intro (Nat.le_of_ble_eq_true rfl) (sm_calln (d1 := 0) (Nat.lt_of_lt_of_le (Nat.lt_succ_self 0) (Nat.le_trans (Nat.le_of_ble_eq_true rfl) hdep)) (Nat.le_of_ble_eq_true rfl) (Nat.le_of_ble_eq_true rfl) (c_X11_is  (sm_in (And.intro (fun c4 => have k4t := Eq.mp (if_pos c4) k3; sm_in (sm_in (sm_in (And.intro (Nat.le_of_ble_eq_true rfl) (sm_in (And.intro (Nat.le_of_ble_eq_true rfl) (sm_in (k4t)))))))) (fun c4 => have k4f := Eq.mp (if_neg c4) k3; sm_in (sm_in (sm_in (sm_in (And.intro (Nat.le_of_ble_eq_true rfl) (sm_in (And.intro (Nat.le_of_ble_eq_true rfl) (sm_in (k4f)))))))))))))))))))))))))))))))))))))))))))))))))
theorem c_X11_unlike {ex : sm_O} {n : Nat} {y : sm_Y} {I : Nat → Nat → Int32} {L : Nat → Nat → Int64} {R : Nat → Nat → Option Nat} {Q : sm_Q} {d a b : Nat} {w3 w4 : Option Value} {s : St} (hd : 1 ≤ d) (hG : sm_G y R) (hs : mS s (I 125)) (hok : sp_ok s) (ha : a < sMen s) (hb : b < sMen s) (k : Q (some (.int (nI (sp_unlike s a b)))) (n, y, I, L, R)) : sm_W ex d 0 0 140 0 [some (.ref 123), some (.int (nI a)), some (.int (nI b)), w3, w4] [] (n, y, I, L, R) Q := by
  have h7 := hok.1
  have hla := (hok.2.1 a ha).2.2.1
  have hlb := (hok.2.1 b hb).2.2.1
  have key : ∀ (q j : Nat), j + q = 6 → sm_W ex d 0 0 140 5 [some (.ref 123), some (.int (nI a)), some (.int (nI b)), some (.int (nI (sp_pop (fun f => (sLook s a).testBit f != (sLook s b).testBit f) j))), some (.int (nI j))] [] (n, y, I, L, R) Q := by
    intro q
    induction q with
    | zero =>
      intro j hj
      obtain rfl : j = 6 := by omega
      refine w_X11_unlike_5 hG hd ?_
      rw [if_pos (by decide)]
      exact k
    | succ q ih =>
      intro j hj
      refine w_X11_unlike_5 hG hd ?_
      rw [if_neg (by rw [sm_of 6, nI_leI (by decide) (by omega)]; omega)]
      refine ⟨sm_ci31 (by omega) (by decide), sm_ci31 (by omega) (by decide), ?_⟩
      have h9 := ih (j + 1) (by omega)
      simp only [sm_cx31 (show a < 10000 by omega), sm_cx31 (show b < 10000 by omega), (hs.2.1 a ha).2.1, (hs.2.1 b hb).2.1, sm_bit64 _ hla j (by omega), sm_bit64 _ hlb j (by omega), sm_n1]
      simp only [sp_pop] at h9
      cases h1 : (sLook s a).testBit j <;> cases h2 : (sLook s b).testBit j <;> simp only [h1, h2] at h9 <;> first
        | (rw [if_pos (by simp [sm_b]), show (0 : Int32) = nI 0 from rfl, nI_add]; exact h9)
        | (rw [if_neg (by simp [sm_b])]; exact h9)
  refine w_X11_unlike_0 ?_
  exact key 6 0 rfl

