-- SMALL CONTRACTS
def sm_b (p : Prop) [Decidable p] : Int32 := if p then 1 else 0
theorem sm_b_0 {p : Prop} [Decidable p] : sm_b p = 0 ↔ ¬ p := by
  unfold sm_b
  by_cases h : p <;> simp [h]
theorem sm_b_n {p : Prop} [Decidable p] : ¬ sm_b p = 0 ↔ p := by
  unfold sm_b
  by_cases h : p <;> simp [h]
theorem sm_b_01 (p : Prop) [Decidable p] : sm_b p = 0 ∨ sm_b p = 1 := by
  unfold sm_b
  by_cases h : p <;> simp [h]
theorem sm_b_t {p : Prop} [Decidable p] (h : p) : sm_b p = 1 := if_pos h
theorem sm_b_f {p : Prop} [Decidable p] (h : ¬ p) : sm_b p = 0 := if_neg h
theorem sm_cmp_lt {x y : Int64} : lg_cmp x y < 0 ↔ x < y := by
  unfold lg_cmp
  split
  · rename_i h
    exact ⟨fun q => absurd q (by decide), fun q => absurd q (Int64.not_lt.mpr (Int64.le_of_lt h))⟩
  · split
    · rename_i h
      subst h
      exact ⟨fun q => absurd q (by decide), fun q => absurd q (Int64.lt_irrefl)⟩
    · rename_i h1 h2
      exact ⟨fun _ => (Int64.lt_or_eq_of_le (Int64.not_lt.mp h1)).resolve_right h2, fun _ => by decide⟩
theorem sm_cmp_gt {x y : Int64} : 0 < lg_cmp x y ↔ y < x := by
  unfold lg_cmp
  split
  · rename_i h
    exact ⟨fun _ => h, fun _ => by decide⟩
  · rename_i h
    refine ⟨fun q => ?_, fun q => absurd q h⟩
    split at q <;> exact absurd q (by decide)
theorem sm_cmp_eq {x y : Int64} : lg_cmp x y = 0 ↔ x = y := by
  unfold lg_cmp
  split
  · rename_i h
    exact ⟨fun q => absurd q (by decide), fun q => absurd (q ▸ h) (Int64.lt_irrefl)⟩
  · split
    · rename_i h
      exact ⟨fun _ => h, fun _ => rfl⟩
    · rename_i h
      exact ⟨fun q => absurd q (by decide), fun q => absurd q h⟩

set_option maxRecDepth 10000 in
theorem w_X11_in {ex : sm_O} {d n : Nat} {y : sm_Y} {I : Nat → Nat → Int32} {L : Nat → Nat → Int64} {R : Nat → Nat → Option Nat} {Q : sm_Q} {w1 : Option Value} {w3 : Option Value} {w5 : Option Value} {a0 : Int64} {a2 : Int64} {a4 : Int64} (k : if (lg_cmp a0 a2) < 0 then (Q (some (.int 0)) (n, y, I, L, R)) else (if 0 < (lg_cmp a0 a4) then (Q (some (.int 0)) (n, y, I, L, R)) else (Q (some (.int 1)) (n, y, I, L, R)))) : sm_W ex d 0 0 124 0 [some (.long a0), w1, some (.long a2), w3, some (.long a4), w5] [] (n, y, I, L, R) Q := sm_in (sm_in (sm_in (sm_in (And.intro (fun c1 => have k1t := Eq.mp (if_pos c1) k; sm_in (sm_in (And.intro rfl (And.intro (Or.inl rfl) k1t)))) (fun c1 => have k1f := Eq.mp (if_neg c1) k; sm_in (sm_in (sm_in (sm_in (And.intro (fun c2 => have k2t := Eq.mp (if_pos c2) k1f; sm_in (sm_in (And.intro rfl (And.intro (Or.inl rfl) k2t)))) (fun c2 => have k2f := Eq.mp (if_neg c2) k1f; sm_in (sm_in (sm_in (And.intro rfl (And.intro (Or.inr rfl) k2f))))))))))))))
theorem c_X11_in {ex : sm_O} {n : Nat} {y : sm_Y} {I : Nat → Nat → Int32} {L : Nat → Nat → Int64} {R : Nat → Nat → Option Nat} {Q : sm_Q} {w1 w3 w5 : Option Value} {a0 a2 a4 : Int64} (k : Q (some (.int (sm_b (a2 ≤ a0 ∧ a0 ≤ a4)))) (n, y, I, L, R)) : sm_W ex 0 0 0 124 0 [some (.long a0), w1, some (.long a2), w3, some (.long a4), w5] [] (n, y, I, L, R) Q := by
  refine w_X11_in ?_
  simp only [sm_cmp_lt, sm_cmp_gt]
  split
  · rename_i h
    rw [sm_b_f (fun q => absurd h (Int64.not_lt.mpr q.1))] at k
    exact k
  · rename_i h
    split
    · rename_i h2
      rw [sm_b_f (fun q => absurd h2 (Int64.not_lt.mpr q.2))] at k
      exact k
    · rename_i h2
      rw [sm_b_t ⟨Int64.not_lt.mp h, Int64.not_lt.mp h2⟩] at k
      exact k

set_option maxRecDepth 10000 in
theorem w_X11_is {ex : sm_O} {d n : Nat} {y : sm_Y} {I : Nat → Nat → Int32} {L : Nat → Nat → Int64} {R : Nat → Nat → Option Nat} {Q : sm_Q} {a0 : Int32} {a1 : Int32} (k : if ((a0 >>> (a1 &&& 31)) &&& 1) = 1 then (Q (some (.int 1)) (n, y, I, L, R)) else (Q (some (.int 0)) (n, y, I, L, R))) : sm_W ex d 0 0 125 0 [some (.int a0), some (.int a1)] [] (n, y, I, L, R) Q := sm_in (sm_in (sm_in (sm_in (sm_in (sm_in (sm_in (And.intro (fun c1 => have k1f := Eq.mp (if_neg c1) k; sm_in (sm_in (And.intro rfl (And.intro (Or.inl rfl) k1f)))) (fun c1 => have k1t := Eq.mp (if_pos c1) k; sm_in (sm_in (sm_in (And.intro rfl (And.intro (Or.inr rfl) k1t))))))))))))
theorem c_X11_is {ex : sm_O} {n : Nat} {y : sm_Y} {I : Nat → Nat → Int32} {L : Nat → Nat → Int64} {R : Nat → Nat → Option Nat} {Q : sm_Q} {a0 a1 : Int32} (k : Q (some (.int (sm_b ((a0 >>> (a1 &&& 31)) &&& 1 = 1)))) (n, y, I, L, R)) : sm_W ex 0 0 0 125 0 [some (.int a0), some (.int a1)] [] (n, y, I, L, R) Q := by
  refine w_X11_is ?_
  split
  · rename_i h
    rw [sm_b_t h] at k
    exact k
  · rename_i h
    rw [sm_b_f h] at k
    exact k

set_option maxRecDepth 10000 in
theorem w_X11_isMan {ex : sm_O} {d n : Nat} {y : sm_Y} {I : Nat → Nat → Int32} {L : Nat → Nat → Int64} {R : Nat → Nat → Option Nat} {Q : sm_Q} {a1 : Int32} (hG : sm_G y R) (hdep : 1 ≤ d) (k : Q (some (.int (sm_b ((0 : Int64) ≤ a1.toInt64 ∧ a1.toInt64 ≤ (((I 125 0).toInt64) - 1))))) (n, y, I, L, R)) : sm_W ex d 0 0 137 0 [some (.ref 123), some (.int a1)] [] (n, y, I, L, R) Q := sm_in (sm_in (sm_in (sm_in (sm_in (And.intro (hG.1 123 (Nat.le_of_ble_eq_true rfl)) (sm_gfr rfl (hG.2 123 3 rfl) (sm_in (sm_in (Exists.intro 5450 (And.intro (hG.1 125 (Nat.le_of_ble_eq_true rfl)) (And.intro (sm_lin (by decide)) (sm_in (sm_in (sm_in (sm_in (And.intro (Nat.le_of_ble_eq_true rfl) (sm_calln (d1 := 0) (Nat.lt_of_lt_of_le (Nat.lt_succ_self 0) (Nat.le_trans (Nat.le_of_ble_eq_true rfl) hdep)) (Nat.le_of_ble_eq_true rfl) (Nat.le_of_ble_eq_true rfl) (c_X11_in  (sm_in (And.intro rfl (And.intro (sm_b_01 _) k)))))))))))))))))))))
theorem sm_l64 {a b : Int32} : (0 : Int64) ≤ a.toInt64 ∧ a.toInt64 ≤ b.toInt64 - 1 ↔ 0 ≤ a ∧ a < b := by
  have ha := Int32.le_toInt a
  have ha2 := Int32.toInt_lt a
  have hb := Int32.le_toInt b
  have hb2 := Int32.toInt_lt b
  have e : (b.toInt64 - 1).toInt = b.toInt - 1 := by
    rw [Int64.toInt_sub, Int32.toInt_toInt64]
    show (b.toInt - 1).bmod (2 ^ 64) = _
    apply Int.bmod_eq_of_le <;> omega
  rw [Int64.le_iff_toInt_le, Int64.le_iff_toInt_le, e, Int32.toInt_toInt64, Int32.le_iff_toInt_le, Int32.lt_iff_toInt_lt]
  show (0 : Int) ≤ _ ∧ _ ↔ (0 : Int) ≤ _ ∧ _
  omega
theorem c_X11_isMan {ex : sm_O} {n : Nat} {y : sm_Y} {I : Nat → Nat → Int32} {L : Nat → Nat → Int64} {R : Nat → Nat → Option Nat} {Q : sm_Q} {a1 : Int32} (hG : sm_G y R) (k : Q (some (.int (sm_b (0 ≤ a1 ∧ a1 < I 125 0)))) (n, y, I, L, R)) : sm_W ex 1 0 0 137 0 [some (.ref 123), some (.int a1)] [] (n, y, I, L, R) Q := by
  refine w_X11_isMan hG (Nat.le_refl 1) ?_
  have e : sm_b ((0 : Int64) ≤ a1.toInt64 ∧ a1.toInt64 ≤ (I 125 0).toInt64 - 1) = sm_b (0 ≤ a1 ∧ a1 < I 125 0) := by
    unfold sm_b
    simp only [sm_l64]
  rw [e]
  exact k

