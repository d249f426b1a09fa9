-- WHAT IS NEW: the rest
theorem ok2_kept {y y' : sm_Y} {R R' : Nat → Nat → Option Nat} {o : Nat} (h : ok2 y R o) (hy : ∀ a, o ≤ a → a ≤ o + 2 → y' a = y a) (hR : ∀ j, R' o j = R o j) : ok2 y' R' o := by
  unfold ok2
  rw [hy o (by omega) (by omega), hy (o + 1) (by omega) (by omega), hy (o + 2) (by omega) (by omega), hR, hR]
  exact h
theorem ok4_kept {y y' : sm_Y} {R R' : Nat → Nat → Option Nat} {o : Nat} (h : ok4 y R o) (hy : ∀ a, o ≤ a → a ≤ o + 1 → y' a = y a) (hR : ∀ j, R' o j = R o j) : ok4 y' R' o := by
  unfold ok4
  rw [hy o (by omega) (by omega), hy (o + 1) (by omega) (by omega), hR]
  exact h
set_option maxHeartbeats 1000000 in
theorem c_X2_init0 {ex : sm_O} {y : sm_Y} {I : Nat → Nat → Int32} {L : Nat → Nat → Int64} {R : Nat → Nat → Option Nat} {Q : sm_Q} {d o : Nat} (hd0 : 1 ≤ d) (hy : y o = some (.inl 2)) (k : ∀ (y' : sm_Y) (R' : Nat → Nat → Option Nat), nw o y y' R R' → y' (o + 1) = some (.inr (0, 13)) → R' o 0 = some (o + 1) → y' (o + 2) = some (.inr (0, 40)) → R' o 1 = some (o + 2) → Q none (o + 3, y', I, L, R')) : sm_W ex d 2 53 10 0 [some (.ref o)] [] (o + 1, y, I, L, R) Q := by
  have hd : 1 ≤ d := by omega
  have hyo : y o = some (.inl 2) := hy
  have Y0 : ∀ a, a ≤ o → y a = y a := fun _ _ => rfl
  have G0 : ∀ a j, a < o → R a j = R a j := fun _ _ _ => rfl
  refine sm_in (sm_in (And.intro hd (And.intro (Nat.zero_le 8) (sm_in (sm_in (sm_in (And.intro (by decide) (And.intro (by decide) (And.intro (Nat.le_of_ble_eq_true rfl) (And.intro (Nat.le_of_ble_eq_true rfl) (sm_in (And.intro ((sm_up_ne (by omega)).trans hyo) (?_)))))))))))))
  show sm_W ex d 1 40 10 12 [some (.ref o)] [] (o + 2, sm_up y (o + 1) (some (.inr (0, 13))), I, L, sm_st R o 0 (some (o + 1))) Q
  have ey1 : ∀ a, a < o + 1 → (sm_up y (o + 1) (some (.inr (0, 13)))) a = y a := fun a h => sm_up_ne (by omega)
  have vy1 : (sm_up y (o + 1) (some (.inr (0, 13)))) (o + 1) = some (.inr (0, 13)) := sm_up_s
  have er1 : ∀ a j, ¬ (a = o ∧ j = 0) → (sm_st R o 0 (some (o + 1))) a j = R a j := fun a j h => sm_st_or _ _ (by omega)
  have vr1 : (sm_st R o 0 (some (o + 1))) o 0 = some (o + 1) := sm_st_s _ _ _ _
  generalize sm_up y (o + 1) (some (.inr (0, 13))) = y1 at ey1 vy1 ⊢
  generalize sm_st R o 0 (some (o + 1)) = R1 at er1 vr1 ⊢
  replace Y0 : ∀ a, a ≤ o → y1 a = y a := fun a h => (ey1 a (by omega)).trans (Y0 a h)
  replace hyo : y1 o = some (.inl 2) := (ey1 o (by omega)).trans hyo
  replace G0 : ∀ a j, a < o → R1 a j = R a j := fun a j h => (er1 a j (by omega)).trans (G0 a j h)
  refine sm_in (sm_in (sm_in (And.intro (by decide) (And.intro (by decide) (And.intro (Nat.le_of_ble_eq_true rfl) (And.intro (Nat.le_of_ble_eq_true rfl) (sm_in (And.intro ((sm_up_ne (by omega)).trans hyo) (?_)))))))))
  show sm_W ex d 0 0 10 20 [some (.ref o)] [] (o + 3, sm_up y1 (o + 2) (some (.inr (0, 40))), I, L, sm_st R1 o 1 (some (o + 2))) Q
  have ey2 : ∀ a, a < o + 2 → (sm_up y1 (o + 2) (some (.inr (0, 40)))) a = y1 a := fun a h => sm_up_ne (by omega)
  have vy2 : (sm_up y1 (o + 2) (some (.inr (0, 40)))) (o + 2) = some (.inr (0, 40)) := sm_up_s
  have er2 : ∀ a j, ¬ (a = o ∧ j = 1) → (sm_st R1 o 1 (some (o + 2))) a j = R1 a j := fun a j h => sm_st_or _ _ (by omega)
  have vr2 : (sm_st R1 o 1 (some (o + 2))) o 1 = some (o + 2) := sm_st_s _ _ _ _
  generalize sm_up y1 (o + 2) (some (.inr (0, 40))) = y2 at ey2 vy2 ⊢
  generalize sm_st R1 o 1 (some (o + 2)) = R2 at er2 vr2 ⊢
  replace vy1 : y2 (o + 1) = some (.inr (0, 13)) := (ey2 _ (by omega)).trans vy1
  replace vr1 : R2 o 0 = some (o + 1) := (er2 _ _ (by omega)).trans vr1
  replace Y0 : ∀ a, a ≤ o → y2 a = y a := fun a h => (ey2 a (by omega)).trans (Y0 a h)
  replace hyo : y2 o = some (.inl 2) := (ey2 o (by omega)).trans hyo
  replace G0 : ∀ a j, a < o → R2 a j = R a j := fun a j h => (er2 a j (by omega)).trans (G0 a j h)
  exact sm_in (And.intro rfl (And.intro rfl (k _ _ ⟨Y0, G0⟩ vy1 vr1 vy2 vr2)))
theorem c_X2_init {ex : sm_O} {y : sm_Y} {I : Nat → Nat → Int32} {L : Nat → Nat → Int64} {R : Nat → Nat → Option Nat} {Q : sm_Q} {d o : Nat} (hd0 : 1 ≤ d) (hy : y o = some (.inl 2)) (k : ∀ (y' : sm_Y) (R' : Nat → Nat → Option Nat), nw o y y' R R' → ok2 y' R' o → Q none (o + 3, y', I, L, R')) : sm_W ex d 2 53 10 0 [some (.ref o)] [] (o + 1, y, I, L, R) Q := c_X2_init0 hd0 hy (fun y' R' h1 h2 h3 h4 h5 => k y' R' h1 ⟨(h1.1 o (Nat.le_refl o)).trans hy, h3, h5, h2, h4⟩)
set_option maxHeartbeats 1000000 in
theorem c_X4_init0 {ex : sm_O} {y : sm_Y} {I : Nat → Nat → Int32} {L : Nat → Nat → Int64} {R : Nat → Nat → Option Nat} {Q : sm_Q} {d o : Nat} (hd0 : 1 ≤ d) (hy : y o = some (.inl 4)) (k : ∀ (y' : sm_Y) (R' : Nat → Nat → Option Nat), nw o y y' R R' → y' (o + 1) = some (.inr (0, 192)) → R' o 0 = some (o + 1) → Q none (o + 2, y', I, L, R')) : sm_W ex d 1 192 20 0 [some (.ref o)] [] (o + 1, y, I, L, R) Q := by
  have hd : 1 ≤ d := by omega
  have hyo : y o = some (.inl 4) := hy
  have Y0 : ∀ a, a ≤ o → y a = y a := fun _ _ => rfl
  have G0 : ∀ a j, a < o → R a j = R a j := fun _ _ _ => rfl
  refine sm_in (sm_in (And.intro hd (And.intro (Nat.zero_le 8) (sm_in (sm_in (sm_in (And.intro (by decide) (And.intro (by decide) (And.intro (Nat.le_of_ble_eq_true rfl) (And.intro (Nat.le_of_ble_eq_true rfl) (sm_in (And.intro ((sm_up_ne (by omega)).trans hyo) (?_)))))))))))))
  show sm_W ex d 0 0 20 13 [some (.ref o)] [] (o + 2, sm_up y (o + 1) (some (.inr (0, 192))), I, L, sm_st R o 0 (some (o + 1))) Q
  have ey1 : ∀ a, a < o + 1 → (sm_up y (o + 1) (some (.inr (0, 192)))) a = y a := fun a h => sm_up_ne (by omega)
  have vy1 : (sm_up y (o + 1) (some (.inr (0, 192)))) (o + 1) = some (.inr (0, 192)) := sm_up_s
  have er1 : ∀ a j, ¬ (a = o ∧ j = 0) → (sm_st R o 0 (some (o + 1))) a j = R a j := fun a j h => sm_st_or _ _ (by omega)
  have vr1 : (sm_st R o 0 (some (o + 1))) o 0 = some (o + 1) := sm_st_s _ _ _ _
  generalize sm_up y (o + 1) (some (.inr (0, 192))) = y1 at ey1 vy1 ⊢
  generalize sm_st R o 0 (some (o + 1)) = R1 at er1 vr1 ⊢
  replace Y0 : ∀ a, a ≤ o → y1 a = y a := fun a h => (ey1 a (by omega)).trans (Y0 a h)
  replace hyo : y1 o = some (.inl 4) := (ey1 o (by omega)).trans hyo
  replace G0 : ∀ a j, a < o → R1 a j = R a j := fun a j h => (er1 a j (by omega)).trans (G0 a j h)
  exact sm_in (And.intro rfl (And.intro rfl (k _ _ ⟨Y0, G0⟩ vy1 vr1)))
theorem c_X4_init {ex : sm_O} {y : sm_Y} {I : Nat → Nat → Int32} {L : Nat → Nat → Int64} {R : Nat → Nat → Option Nat} {Q : sm_Q} {d o : Nat} (hd0 : 1 ≤ d) (hy : y o = some (.inl 4)) (k : ∀ (y' : sm_Y) (R' : Nat → Nat → Option Nat), nw o y y' R R' → ok4 y' R' o → Q none (o + 2, y', I, L, R')) : sm_W ex d 1 192 20 0 [some (.ref o)] [] (o + 1, y, I, L, R) Q := c_X4_init0 hd0 hy (fun y' R' h1 h2 h3 => k y' R' h1 ⟨(h1.1 o (Nat.le_refl o)).trans hy, h3, h2⟩)
set_option maxHeartbeats 1000000 in
theorem c_X5_init {ex : sm_O} {y : sm_Y} {I : Nat → Nat → Int32} {L : Nat → Nat → Int64} {R : Nat → Nat → Option Nat} {Q : sm_Q} {d o : Nat} {b0 : Nat} (hd0 : 2 ≤ d) (hy : y o = some (.inl 5)) (k : ∀ (y' : sm_Y) (R' : Nat → Nat → Option Nat), nw o y y' R R' → y' (o + 1) = some (.inl 2) → R' o 1 = some (o + 1) → ok2 y' R' (o + 1) → R' o 0 = some b0 → Q none (o + 4, y', I, L, R')) : sm_W ex d 3 57 25 0 [some (.ref o), some (.ref b0)] [] (o + 1, y, I, L, R) Q := by
  have hd : 1 ≤ d := by omega
  have hyo : y o = some (.inl 5) := hy
  have Y0 : ∀ a, a ≤ o → y a = y a := fun _ _ => rfl
  have G0 : ∀ a j, a < o → R a j = R a j := fun _ _ _ => rfl
  refine sm_in (sm_in (And.intro hd (And.intro (Nat.zero_le 8) (sm_in (sm_in (And.intro (Nat.le_of_ble_eq_true rfl) (And.intro (Nat.le_of_ble_eq_true rfl) (sm_in (And.intro rfl (sm_in (sm_cal 1 2 53 (by omega) (Nat.le_of_ble_eq_true rfl) (Nat.le_of_ble_eq_true rfl) (Nat.le_of_ble_eq_true rfl) (Nat.le_of_ble_eq_true rfl) ?_)))))))))))
  refine c_X2_init (o := o + 1) (Nat.le_refl _) sm_up_s ?_
  intro ya1 Ra1 na1 q1_0
  have ey1 : ∀ a, a < o + 1 → ya1 a = y a := fun a h => (na1.1 a (by omega)).trans (sm_up_ne (by omega))
  have vy1 : ya1 (o + 1) = some (.inl 2) := (na1.1 _ (by omega)).trans sm_up_s
  have eq1 : ∀ a j, a < o + 1 → Ra1 a j = R a j := fun a j h => na1.2 a j h
  refine sm_in (And.intro ((ey1 o (by omega)).trans hyo) ?_)
  show sm_W ex d 0 0 25 15 [some (.ref o), some (.ref b0)] [] (o + 4, ya1, I, L, sm_st Ra1 o 1 (some (o + 1))) Q
  have er1 : ∀ a j, a < o + 1 → ¬ (a = o ∧ j = 1) → (sm_st Ra1 o 1 (some (o + 1))) a j = R a j := fun a j h1 h2 => (sm_st_or _ _ (by omega)).trans (eq1 a j h1)
  have vr1 : (sm_st Ra1 o 1 (some (o + 1))) o 1 = some (o + 1) := sm_st_s _ _ _ _
  have eh1 : ∀ a j, a ≠ o → (sm_st Ra1 o 1 (some (o + 1))) a j = Ra1 a j := fun a j h => sm_st_o _ _ h
  generalize sm_st Ra1 o 1 (some (o + 1)) = R1 at er1 vr1 eh1 ⊢
  have p1_0 : ok2 ya1 R1 (o + 1) := ok2_kept q1_0 (fun a h1 h2 => rfl) (fun j => (eh1 _ _ (by omega)))
  replace Y0 : ∀ a, a ≤ o → ya1 a = y a := fun a h => (ey1 a (by omega)).trans (Y0 a h)
  replace hyo : ya1 o = some (.inl 5) := (ey1 o (by omega)).trans hyo
  replace G0 : ∀ a j, a < o → R1 a j = R a j := fun a j h => (er1 a j (by omega) (by omega)).trans (G0 a j h)
  refine sm_in (sm_in (sm_in (And.intro hyo (?_))))
  show sm_W ex d 0 0 25 20 [some (.ref o), some (.ref b0)] [] (o + 4, ya1, I, L, sm_st R1 o 0 (some b0)) Q
  have er2 : ∀ a j, ¬ (a = o ∧ j = 0) → (sm_st R1 o 0 (some b0)) a j = R1 a j := fun a j h => sm_st_or _ _ (by omega)
  have vr2 : (sm_st R1 o 0 (some b0)) o 0 = some b0 := sm_st_s _ _ _ _
  generalize sm_st R1 o 0 (some b0) = R2 at er2 vr2 ⊢
  replace vr1 : R2 o 1 = some (o + 1) := (er2 _ _ (by omega)).trans vr1
  replace p1_0 : ok2 ya1 R2 (o + 1) := ok2_kept p1_0 (fun a h1 h2 => rfl) (fun j => (er2 _ _ (by omega)))
  replace G0 : ∀ a j, a < o → R2 a j = R a j := fun a j h => (er2 a j (by omega)).trans (G0 a j h)
  exact sm_in (And.intro rfl (And.intro rfl (k _ _ ⟨Y0, G0⟩ vy1 vr1 p1_0 vr2)))
set_option maxHeartbeats 1000000 in
theorem c_X3_init {ex : sm_O} {y : sm_Y} {I : Nat → Nat → Int32} {L : Nat → Nat → Int64} {R : Nat → Nat → Option Nat} {Q : sm_Q} {d o : Nat} {b0 : Nat} (hd0 : 1 ≤ d) (hy : y o = some (.inl 3)) (k : ∀ (y' : sm_Y) (R' : Nat → Nat → Option Nat), nw o y y' R R' → y' (o + 1) = some (.inr (0, 49)) → R' o 1 = some (o + 1) → y' (o + 2) = some (.inr (0, 7)) → R' o 3 = some (o + 2) → y' (o + 3) = some (.inr (0, 7)) → R' o 4 = some (o + 3) → y' (o + 4) = some (.inr (0, 7)) → R' o 7 = some (o + 4) → R' o 0 = some b0 → Q none (o + 5, y', I, L, R')) : sm_W ex d 4 70 13 0 [some (.ref o), some (.ref b0)] [] (o + 1, y, I, L, R) Q := by
  have hd : 1 ≤ d := by omega
  have hyo : y o = some (.inl 3) := hy
  have Y0 : ∀ a, a ≤ o → y a = y a := fun _ _ => rfl
  have G0 : ∀ a j, a < o → R a j = R a j := fun _ _ _ => rfl
  refine sm_in (sm_in (And.intro hd (And.intro (Nat.zero_le 8) (sm_in (sm_in (sm_in (And.intro (by decide) (And.intro (by decide) (And.intro (Nat.le_of_ble_eq_true rfl) (And.intro (Nat.le_of_ble_eq_true rfl) (sm_in (And.intro ((sm_up_ne (by omega)).trans hyo) (?_)))))))))))))
  show sm_W ex d 3 21 13 12 [some (.ref o), some (.ref b0)] [] (o + 2, sm_up y (o + 1) (some (.inr (0, 49))), I, L, sm_st R o 1 (some (o + 1))) Q
  have ey1 : ∀ a, a < o + 1 → (sm_up y (o + 1) (some (.inr (0, 49)))) a = y a := fun a h => sm_up_ne (by omega)
  have vy1 : (sm_up y (o + 1) (some (.inr (0, 49)))) (o + 1) = some (.inr (0, 49)) := sm_up_s
  have er1 : ∀ a j, ¬ (a = o ∧ j = 1) → (sm_st R o 1 (some (o + 1))) a j = R a j := fun a j h => sm_st_or _ _ (by omega)
  have vr1 : (sm_st R o 1 (some (o + 1))) o 1 = some (o + 1) := sm_st_s _ _ _ _
  generalize sm_up y (o + 1) (some (.inr (0, 49))) = y1 at ey1 vy1 ⊢
  generalize sm_st R o 1 (some (o + 1)) = R1 at er1 vr1 ⊢
  replace Y0 : ∀ a, a ≤ o → y1 a = y a := fun a h => (ey1 a (by omega)).trans (Y0 a h)
  replace hyo : y1 o = some (.inl 3) := (ey1 o (by omega)).trans hyo
  replace G0 : ∀ a j, a < o → R1 a j = R a j := fun a j h => (er1 a j (by omega)).trans (G0 a j h)
  refine sm_in (sm_in (sm_in (And.intro (by decide) (And.intro (by decide) (And.intro (Nat.le_of_ble_eq_true rfl) (And.intro (Nat.le_of_ble_eq_true rfl) (sm_in (And.intro ((sm_up_ne (by omega)).trans hyo) (?_)))))))))
  show sm_W ex d 2 14 13 20 [some (.ref o), some (.ref b0)] [] (o + 3, sm_up y1 (o + 2) (some (.inr (0, 7))), I, L, sm_st R1 o 3 (some (o + 2))) Q
  have ey2 : ∀ a, a < o + 2 → (sm_up y1 (o + 2) (some (.inr (0, 7)))) a = y1 a := fun a h => sm_up_ne (by omega)
  have vy2 : (sm_up y1 (o + 2) (some (.inr (0, 7)))) (o + 2) = some (.inr (0, 7)) := sm_up_s
  have er2 : ∀ a j, ¬ (a = o ∧ j = 3) → (sm_st R1 o 3 (some (o + 2))) a j = R1 a j := fun a j h => sm_st_or _ _ (by omega)
  have vr2 : (sm_st R1 o 3 (some (o + 2))) o 3 = some (o + 2) := sm_st_s _ _ _ _
  generalize sm_up y1 (o + 2) (some (.inr (0, 7))) = y2 at ey2 vy2 ⊢
  generalize sm_st R1 o 3 (some (o + 2)) = R2 at er2 vr2 ⊢
  replace vy1 : y2 (o + 1) = some (.inr (0, 49)) := (ey2 _ (by omega)).trans vy1
  replace vr1 : R2 o 1 = some (o + 1) := (er2 _ _ (by omega)).trans vr1
  replace Y0 : ∀ a, a ≤ o → y2 a = y a := fun a h => (ey2 a (by omega)).trans (Y0 a h)
  replace hyo : y2 o = some (.inl 3) := (ey2 o (by omega)).trans hyo
  replace G0 : ∀ a j, a < o → R2 a j = R a j := fun a j h => (er2 a j (by omega)).trans (G0 a j h)
  refine sm_in (sm_in (sm_in (And.intro (by decide) (And.intro (by decide) (And.intro (Nat.le_of_ble_eq_true rfl) (And.intro (Nat.le_of_ble_eq_true rfl) (sm_in (And.intro ((sm_up_ne (by omega)).trans hyo) (?_)))))))))
  show sm_W ex d 1 7 13 28 [some (.ref o), some (.ref b0)] [] (o + 4, sm_up y2 (o + 3) (some (.inr (0, 7))), I, L, sm_st R2 o 4 (some (o + 3))) Q
  have ey3 : ∀ a, a < o + 3 → (sm_up y2 (o + 3) (some (.inr (0, 7)))) a = y2 a := fun a h => sm_up_ne (by omega)
  have vy3 : (sm_up y2 (o + 3) (some (.inr (0, 7)))) (o + 3) = some (.inr (0, 7)) := sm_up_s
  have er3 : ∀ a j, ¬ (a = o ∧ j = 4) → (sm_st R2 o 4 (some (o + 3))) a j = R2 a j := fun a j h => sm_st_or _ _ (by omega)
  have vr3 : (sm_st R2 o 4 (some (o + 3))) o 4 = some (o + 3) := sm_st_s _ _ _ _
  generalize sm_up y2 (o + 3) (some (.inr (0, 7))) = y3 at ey3 vy3 ⊢
  generalize sm_st R2 o 4 (some (o + 3)) = R3 at er3 vr3 ⊢
  replace vy1 : y3 (o + 1) = some (.inr (0, 49)) := (ey3 _ (by omega)).trans vy1
  replace vr1 : R3 o 1 = some (o + 1) := (er3 _ _ (by omega)).trans vr1
  replace vy2 : y3 (o + 2) = some (.inr (0, 7)) := (ey3 _ (by omega)).trans vy2
  replace vr2 : R3 o 3 = some (o + 2) := (er3 _ _ (by omega)).trans vr2
  replace Y0 : ∀ a, a ≤ o → y3 a = y a := fun a h => (ey3 a (by omega)).trans (Y0 a h)
  replace hyo : y3 o = some (.inl 3) := (ey3 o (by omega)).trans hyo
  replace G0 : ∀ a j, a < o → R3 a j = R a j := fun a j h => (er3 a j (by omega)).trans (G0 a j h)
  refine sm_in (sm_in (sm_in (And.intro (by decide) (And.intro (by decide) (And.intro (Nat.le_of_ble_eq_true rfl) (And.intro (Nat.le_of_ble_eq_true rfl) (sm_in (And.intro ((sm_up_ne (by omega)).trans hyo) (?_)))))))))
  show sm_W ex d 0 0 13 36 [some (.ref o), some (.ref b0)] [] (o + 5, sm_up y3 (o + 4) (some (.inr (0, 7))), I, L, sm_st R3 o 7 (some (o + 4))) Q
  have ey4 : ∀ a, a < o + 4 → (sm_up y3 (o + 4) (some (.inr (0, 7)))) a = y3 a := fun a h => sm_up_ne (by omega)
  have vy4 : (sm_up y3 (o + 4) (some (.inr (0, 7)))) (o + 4) = some (.inr (0, 7)) := sm_up_s
  have er4 : ∀ a j, ¬ (a = o ∧ j = 7) → (sm_st R3 o 7 (some (o + 4))) a j = R3 a j := fun a j h => sm_st_or _ _ (by omega)
  have vr4 : (sm_st R3 o 7 (some (o + 4))) o 7 = some (o + 4) := sm_st_s _ _ _ _
  generalize sm_up y3 (o + 4) (some (.inr (0, 7))) = y4 at ey4 vy4 ⊢
  generalize sm_st R3 o 7 (some (o + 4)) = R4 at er4 vr4 ⊢
  replace vy1 : y4 (o + 1) = some (.inr (0, 49)) := (ey4 _ (by omega)).trans vy1
  replace vr1 : R4 o 1 = some (o + 1) := (er4 _ _ (by omega)).trans vr1
  replace vy2 : y4 (o + 2) = some (.inr (0, 7)) := (ey4 _ (by omega)).trans vy2
  replace vr2 : R4 o 3 = some (o + 2) := (er4 _ _ (by omega)).trans vr2
  replace vy3 : y4 (o + 3) = some (.inr (0, 7)) := (ey4 _ (by omega)).trans vy3
  replace vr3 : R4 o 4 = some (o + 3) := (er4 _ _ (by omega)).trans vr3
  replace Y0 : ∀ a, a ≤ o → y4 a = y a := fun a h => (ey4 a (by omega)).trans (Y0 a h)
  replace hyo : y4 o = some (.inl 3) := (ey4 o (by omega)).trans hyo
  replace G0 : ∀ a j, a < o → R4 a j = R a j := fun a j h => (er4 a j (by omega)).trans (G0 a j h)
  refine sm_in (sm_in (sm_in (And.intro hyo (?_))))
  show sm_W ex d 0 0 13 41 [some (.ref o), some (.ref b0)] [] (o + 5, y4, I, L, sm_st R4 o 0 (some b0)) Q
  have er5 : ∀ a j, ¬ (a = o ∧ j = 0) → (sm_st R4 o 0 (some b0)) a j = R4 a j := fun a j h => sm_st_or _ _ (by omega)
  have vr5 : (sm_st R4 o 0 (some b0)) o 0 = some b0 := sm_st_s _ _ _ _
  generalize sm_st R4 o 0 (some b0) = R5 at er5 vr5 ⊢
  replace vr1 : R5 o 1 = some (o + 1) := (er5 _ _ (by omega)).trans vr1
  replace vr2 : R5 o 3 = some (o + 2) := (er5 _ _ (by omega)).trans vr2
  replace vr3 : R5 o 4 = some (o + 3) := (er5 _ _ (by omega)).trans vr3
  replace vr4 : R5 o 7 = some (o + 4) := (er5 _ _ (by omega)).trans vr4
  replace G0 : ∀ a j, a < o → R5 a j = R a j := fun a j h => (er5 a j (by omega)).trans (G0 a j h)
  exact sm_in (And.intro rfl (And.intro rfl (k _ _ ⟨Y0, G0⟩ vy1 vr1 vy2 vr2 vy3 vr3 vy4 vr4 vr5)))
set_option maxHeartbeats 1000000 in
theorem c_X1_init {ex : sm_O} {y : sm_Y} {I : Nat → Nat → Int32} {L : Nat → Nat → Int64} {R : Nat → Nat → Option Nat} {Q : sm_Q} {d o : Nat} {b0 b1 : Nat} (hd0 : 2 ≤ d) (hx : exOK ex) (hy : y o = some (.inl 1)) (k : ∀ (y' : sm_Y) (R' : Nat → Nat → Option Nat), nw o y y' R R' → y' (o + 1) = some (.inl 2) → R' o 2 = some (o + 1) → ok2 y' R' (o + 1) → y' (o + 4) = some (.inl 9) → R' o 3 = some (o + 4) → ok9 y' R' (o + 4) → y' (o + 9) = some (.inl 4) → R' o 4 = some (o + 9) → ok4 y' R' (o + 9) → y' (o + 11) = some (.inl 4) → R' o 5 = some (o + 11) → ok4 y' R' (o + 11) → y' (o + 13) = some (.inl 6) → R' o 6 = some (o + 13) → ok6 y' R' (o + 13) 200 12 → R' o 0 = some b0 → R' o 1 = some b1 → Q none (o + 19, y', (sm_st (nI9 (o + 4) I) o 9 (-1)), L, R')) : sm_W ex d 18 736 5 0 [some (.ref o), some (.ref b0), some (.ref b1)] [] (o + 1, y, I, L, R) Q := by
  have hd : 1 ≤ d := by omega
  have hyo : y o = some (.inl 1) := hy
  have Y0 : ∀ a, a ≤ o → y a = y a := fun _ _ => rfl
  have G0 : ∀ a j, a < o → R a j = R a j := fun _ _ _ => rfl
  refine sm_in (sm_in (And.intro hd (And.intro (Nat.zero_le 8) (sm_in (sm_in (And.intro (Nat.le_of_ble_eq_true rfl) (And.intro (Nat.le_of_ble_eq_true rfl) (sm_in (And.intro rfl (sm_in (sm_cal 1 2 53 (by omega) (Nat.le_of_ble_eq_true rfl) (Nat.le_of_ble_eq_true rfl) (Nat.le_of_ble_eq_true rfl) (Nat.le_of_ble_eq_true rfl) ?_)))))))))))
  refine c_X2_init (o := o + 1) (Nat.le_refl _) sm_up_s ?_
  intro ya1 Ra1 na1 q1_0
  have ey1 : ∀ a, a < o + 1 → ya1 a = y a := fun a h => (na1.1 a (by omega)).trans (sm_up_ne (by omega))
  have vy1 : ya1 (o + 1) = some (.inl 2) := (na1.1 _ (by omega)).trans sm_up_s
  have eq1 : ∀ a j, a < o + 1 → Ra1 a j = R a j := fun a j h => na1.2 a j h
  refine sm_in (And.intro ((ey1 o (by omega)).trans hyo) ?_)
  show sm_W ex d 15 679 5 15 [some (.ref o), some (.ref b0), some (.ref b1)] [] (o + 4, ya1, I, L, sm_st Ra1 o 2 (some (o + 1))) Q
  have er1 : ∀ a j, a < o + 1 → ¬ (a = o ∧ j = 2) → (sm_st Ra1 o 2 (some (o + 1))) a j = R a j := fun a j h1 h2 => (sm_st_or _ _ (by omega)).trans (eq1 a j h1)
  have vr1 : (sm_st Ra1 o 2 (some (o + 1))) o 2 = some (o + 1) := sm_st_s _ _ _ _
  have eh1 : ∀ a j, a ≠ o → (sm_st Ra1 o 2 (some (o + 1))) a j = Ra1 a j := fun a j h => sm_st_o _ _ h
  generalize sm_st Ra1 o 2 (some (o + 1)) = R1 at er1 vr1 eh1 ⊢
  have p1_0 : ok2 ya1 R1 (o + 1) := ok2_kept q1_0 (fun a h1 h2 => rfl) (fun j => (eh1 _ _ (by omega)))
  replace Y0 : ∀ a, a ≤ o → ya1 a = y a := fun a h => (ey1 a (by omega)).trans (Y0 a h)
  replace hyo : ya1 o = some (.inl 1) := (ey1 o (by omega)).trans hyo
  replace G0 : ∀ a j, a < o → R1 a j = R a j := fun a j h => (er1 a j (by omega) (by omega)).trans (G0 a j h)
  refine sm_in (sm_in (And.intro (Nat.le_of_ble_eq_true rfl) (And.intro (Nat.le_of_ble_eq_true rfl) (sm_in (And.intro rfl (sm_in (sm_cal 1 4 25 (by omega) (Nat.le_of_ble_eq_true rfl) (Nat.le_of_ble_eq_true rfl) (Nat.le_of_ble_eq_true rfl) (Nat.le_of_ble_eq_true rfl) ?_)))))))
  refine c_X9_init (o := o + 4) (Nat.le_refl _) hx sm_up_s ?_
  intro ya2 Ra2 na2 q2_0
  have ey2 : ∀ a, a < o + 4 → ya2 a = ya1 a := fun a h => (na2.1 a (by omega)).trans (sm_up_ne (by omega))
  have vy2 : ya2 (o + 4) = some (.inl 9) := (na2.1 _ (by omega)).trans sm_up_s
  have eq2 : ∀ a j, a < o + 4 → Ra2 a j = R1 a j := fun a j h => na2.2 a j h
  refine sm_in (And.intro ((ey2 o (by omega)).trans hyo) ?_)
  show sm_W ex d 10 643 5 26 [some (.ref o), some (.ref b0), some (.ref b1)] [] (o + 9, ya2, (nI9 (o + 4) I), L, sm_st Ra2 o 3 (some (o + 4))) Q
  have er2 : ∀ a j, a < o + 4 → ¬ (a = o ∧ j = 3) → (sm_st Ra2 o 3 (some (o + 4))) a j = R1 a j := fun a j h1 h2 => (sm_st_or _ _ (by omega)).trans (eq2 a j h1)
  have vr2 : (sm_st Ra2 o 3 (some (o + 4))) o 3 = some (o + 4) := sm_st_s _ _ _ _
  have eh2 : ∀ a j, a ≠ o → (sm_st Ra2 o 3 (some (o + 4))) a j = Ra2 a j := fun a j h => sm_st_o _ _ h
  generalize sm_st Ra2 o 3 (some (o + 4)) = R2 at er2 vr2 eh2 ⊢
  have p2_0 : ok9 ya2 R2 (o + 4) := ok9_kept q2_0 (fun a h1 h2 => rfl) (fun j => (eh2 _ _ (by omega)))
  replace vy1 : ya2 (o + 1) = some (.inl 2) := (ey2 _ (by omega)).trans vy1
  replace vr1 : R2 o 2 = some (o + 1) := (er2 _ _ (by omega) (by omega)).trans vr1
  replace p1_0 : ok2 ya2 R2 (o + 1) := ok2_kept p1_0 (fun a h1 h2 => (ey2 a (by omega))) (fun j => (er2 _ _ (by omega) (by omega)))
  replace Y0 : ∀ a, a ≤ o → ya2 a = y a := fun a h => (ey2 a (by omega)).trans (Y0 a h)
  replace hyo : ya2 o = some (.inl 1) := (ey2 o (by omega)).trans hyo
  replace G0 : ∀ a j, a < o → R2 a j = R a j := fun a j h => (er2 a j (by omega) (by omega)).trans (G0 a j h)
  refine sm_in (sm_in (And.intro (Nat.le_of_ble_eq_true rfl) (And.intro (Nat.le_of_ble_eq_true rfl) (sm_in (And.intro rfl (sm_in (sm_cal 1 1 192 (by omega) (Nat.le_of_ble_eq_true rfl) (Nat.le_of_ble_eq_true rfl) (Nat.le_of_ble_eq_true rfl) (Nat.le_of_ble_eq_true rfl) ?_)))))))
  refine c_X4_init (o := o + 9) (Nat.le_refl _) sm_up_s ?_
  intro ya3 Ra3 na3 q3_0
  have ey3 : ∀ a, a < o + 9 → ya3 a = ya2 a := fun a h => (na3.1 a (by omega)).trans (sm_up_ne (by omega))
  have vy3 : ya3 (o + 9) = some (.inl 4) := (na3.1 _ (by omega)).trans sm_up_s
  have eq3 : ∀ a j, a < o + 9 → Ra3 a j = R2 a j := fun a j h => na3.2 a j h
  refine sm_in (And.intro ((ey3 o (by omega)).trans hyo) ?_)
  show sm_W ex d 8 449 5 37 [some (.ref o), some (.ref b0), some (.ref b1)] [] (o + 11, ya3, (nI9 (o + 4) I), L, sm_st Ra3 o 4 (some (o + 9))) Q
  have er3 : ∀ a j, a < o + 9 → ¬ (a = o ∧ j = 4) → (sm_st Ra3 o 4 (some (o + 9))) a j = R2 a j := fun a j h1 h2 => (sm_st_or _ _ (by omega)).trans (eq3 a j h1)
  have vr3 : (sm_st Ra3 o 4 (some (o + 9))) o 4 = some (o + 9) := sm_st_s _ _ _ _
  have eh3 : ∀ a j, a ≠ o → (sm_st Ra3 o 4 (some (o + 9))) a j = Ra3 a j := fun a j h => sm_st_o _ _ h
  generalize sm_st Ra3 o 4 (some (o + 9)) = R3 at er3 vr3 eh3 ⊢
  have p3_0 : ok4 ya3 R3 (o + 9) := ok4_kept q3_0 (fun a h1 h2 => rfl) (fun j => (eh3 _ _ (by omega)))
  replace vy1 : ya3 (o + 1) = some (.inl 2) := (ey3 _ (by omega)).trans vy1
  replace vr1 : R3 o 2 = some (o + 1) := (er3 _ _ (by omega) (by omega)).trans vr1
  replace p1_0 : ok2 ya3 R3 (o + 1) := ok2_kept p1_0 (fun a h1 h2 => (ey3 a (by omega))) (fun j => (er3 _ _ (by omega) (by omega)))
  replace vy2 : ya3 (o + 4) = some (.inl 9) := (ey3 _ (by omega)).trans vy2
  replace vr2 : R3 o 3 = some (o + 4) := (er3 _ _ (by omega) (by omega)).trans vr2
  replace p2_0 : ok9 ya3 R3 (o + 4) := ok9_kept p2_0 (fun a h1 h2 => (ey3 a (by omega))) (fun j => (er3 _ _ (by omega) (by omega)))
  replace Y0 : ∀ a, a ≤ o → ya3 a = y a := fun a h => (ey3 a (by omega)).trans (Y0 a h)
  replace hyo : ya3 o = some (.inl 1) := (ey3 o (by omega)).trans hyo
  replace G0 : ∀ a j, a < o → R3 a j = R a j := fun a j h => (er3 a j (by omega) (by omega)).trans (G0 a j h)
  refine sm_in (sm_in (And.intro (Nat.le_of_ble_eq_true rfl) (And.intro (Nat.le_of_ble_eq_true rfl) (sm_in (And.intro rfl (sm_in (sm_cal 1 1 192 (by omega) (Nat.le_of_ble_eq_true rfl) (Nat.le_of_ble_eq_true rfl) (Nat.le_of_ble_eq_true rfl) (Nat.le_of_ble_eq_true rfl) ?_)))))))
  refine c_X4_init (o := o + 11) (Nat.le_refl _) sm_up_s ?_
  intro ya4 Ra4 na4 q4_0
  have ey4 : ∀ a, a < o + 11 → ya4 a = ya3 a := fun a h => (na4.1 a (by omega)).trans (sm_up_ne (by omega))
  have vy4 : ya4 (o + 11) = some (.inl 4) := (na4.1 _ (by omega)).trans sm_up_s
  have eq4 : ∀ a j, a < o + 11 → Ra4 a j = R3 a j := fun a j h => na4.2 a j h
  refine sm_in (And.intro ((ey4 o (by omega)).trans hyo) ?_)
  show sm_W ex d 6 255 5 48 [some (.ref o), some (.ref b0), some (.ref b1)] [] (o + 13, ya4, (nI9 (o + 4) I), L, sm_st Ra4 o 5 (some (o + 11))) Q
  have er4 : ∀ a j, a < o + 11 → ¬ (a = o ∧ j = 5) → (sm_st Ra4 o 5 (some (o + 11))) a j = R3 a j := fun a j h1 h2 => (sm_st_or _ _ (by omega)).trans (eq4 a j h1)
  have vr4 : (sm_st Ra4 o 5 (some (o + 11))) o 5 = some (o + 11) := sm_st_s _ _ _ _
  have eh4 : ∀ a j, a ≠ o → (sm_st Ra4 o 5 (some (o + 11))) a j = Ra4 a j := fun a j h => sm_st_o _ _ h
  generalize sm_st Ra4 o 5 (some (o + 11)) = R4 at er4 vr4 eh4 ⊢
  have p4_0 : ok4 ya4 R4 (o + 11) := ok4_kept q4_0 (fun a h1 h2 => rfl) (fun j => (eh4 _ _ (by omega)))
  replace vy1 : ya4 (o + 1) = some (.inl 2) := (ey4 _ (by omega)).trans vy1
  replace vr1 : R4 o 2 = some (o + 1) := (er4 _ _ (by omega) (by omega)).trans vr1
  replace p1_0 : ok2 ya4 R4 (o + 1) := ok2_kept p1_0 (fun a h1 h2 => (ey4 a (by omega))) (fun j => (er4 _ _ (by omega) (by omega)))
  replace vy2 : ya4 (o + 4) = some (.inl 9) := (ey4 _ (by omega)).trans vy2
  replace vr2 : R4 o 3 = some (o + 4) := (er4 _ _ (by omega) (by omega)).trans vr2
  replace p2_0 : ok9 ya4 R4 (o + 4) := ok9_kept p2_0 (fun a h1 h2 => (ey4 a (by omega))) (fun j => (er4 _ _ (by omega) (by omega)))
  replace vy3 : ya4 (o + 9) = some (.inl 4) := (ey4 _ (by omega)).trans vy3
  replace vr3 : R4 o 4 = some (o + 9) := (er4 _ _ (by omega) (by omega)).trans vr3
  replace p3_0 : ok4 ya4 R4 (o + 9) := ok4_kept p3_0 (fun a h1 h2 => (ey4 a (by omega))) (fun j => (er4 _ _ (by omega) (by omega)))
  replace Y0 : ∀ a, a ≤ o → ya4 a = y a := fun a h => (ey4 a (by omega)).trans (Y0 a h)
  replace hyo : ya4 o = some (.inl 1) := (ey4 o (by omega)).trans hyo
  replace G0 : ∀ a j, a < o → R4 a j = R a j := fun a j h => (er4 a j (by omega) (by omega)).trans (G0 a j h)
  refine sm_in (sm_in (And.intro (Nat.le_of_ble_eq_true rfl) (And.intro (Nat.le_of_ble_eq_true rfl) (sm_in (And.intro rfl (sm_in (sm_in (sm_in (sm_cal 1 5 248 (by omega) (Nat.le_of_ble_eq_true rfl) (Nat.le_of_ble_eq_true rfl) (Nat.le_of_ble_eq_true rfl) (Nat.le_of_ble_eq_true rfl) ?_)))))))))
  refine c_X6_init (o := o + 13) (ns := 200) (nc := 12) (Nat.le_refl _) sm_up_s (by decide) (by decide) ?_
  intro ya5 Ra5 na5 q5_0
  have ey5 : ∀ a, a < o + 13 → ya5 a = ya4 a := fun a h => (na5.1 a (by omega)).trans (sm_up_ne (by omega))
  have vy5 : ya5 (o + 13) = some (.inl 6) := (na5.1 _ (by omega)).trans sm_up_s
  have eq5 : ∀ a j, a < o + 13 → Ra5 a j = R4 a j := fun a j h => na5.2 a j h
  refine sm_in (And.intro ((ey5 o (by omega)).trans hyo) ?_)
  show sm_W ex d 0 0 5 64 [some (.ref o), some (.ref b0), some (.ref b1)] [] (o + 19, ya5, (nI9 (o + 4) I), L, sm_st Ra5 o 6 (some (o + 13))) Q
  have er5 : ∀ a j, a < o + 13 → ¬ (a = o ∧ j = 6) → (sm_st Ra5 o 6 (some (o + 13))) a j = R4 a j := fun a j h1 h2 => (sm_st_or _ _ (by omega)).trans (eq5 a j h1)
  have vr5 : (sm_st Ra5 o 6 (some (o + 13))) o 6 = some (o + 13) := sm_st_s _ _ _ _
  have eh5 : ∀ a j, a ≠ o → (sm_st Ra5 o 6 (some (o + 13))) a j = Ra5 a j := fun a j h => sm_st_o _ _ h
  generalize sm_st Ra5 o 6 (some (o + 13)) = R5 at er5 vr5 eh5 ⊢
  have p5_0 : ok6 ya5 R5 (o + 13) 200 12 := ok6_kept q5_0 (fun a h1 h2 => rfl) (fun j => (eh5 _ _ (by omega)))
  replace vy1 : ya5 (o + 1) = some (.inl 2) := (ey5 _ (by omega)).trans vy1
  replace vr1 : R5 o 2 = some (o + 1) := (er5 _ _ (by omega) (by omega)).trans vr1
  replace p1_0 : ok2 ya5 R5 (o + 1) := ok2_kept p1_0 (fun a h1 h2 => (ey5 a (by omega))) (fun j => (er5 _ _ (by omega) (by omega)))
  replace vy2 : ya5 (o + 4) = some (.inl 9) := (ey5 _ (by omega)).trans vy2
  replace vr2 : R5 o 3 = some (o + 4) := (er5 _ _ (by omega) (by omega)).trans vr2
  replace p2_0 : ok9 ya5 R5 (o + 4) := ok9_kept p2_0 (fun a h1 h2 => (ey5 a (by omega))) (fun j => (er5 _ _ (by omega) (by omega)))
  replace vy3 : ya5 (o + 9) = some (.inl 4) := (ey5 _ (by omega)).trans vy3
  replace vr3 : R5 o 4 = some (o + 9) := (er5 _ _ (by omega) (by omega)).trans vr3
  replace p3_0 : ok4 ya5 R5 (o + 9) := ok4_kept p3_0 (fun a h1 h2 => (ey5 a (by omega))) (fun j => (er5 _ _ (by omega) (by omega)))
  replace vy4 : ya5 (o + 11) = some (.inl 4) := (ey5 _ (by omega)).trans vy4
  replace vr4 : R5 o 5 = some (o + 11) := (er5 _ _ (by omega) (by omega)).trans vr4
  replace p4_0 : ok4 ya5 R5 (o + 11) := ok4_kept p4_0 (fun a h1 h2 => (ey5 a (by omega))) (fun j => (er5 _ _ (by omega) (by omega)))
  replace Y0 : ∀ a, a ≤ o → ya5 a = y a := fun a h => (ey5 a (by omega)).trans (Y0 a h)
  replace hyo : ya5 o = some (.inl 1) := (ey5 o (by omega)).trans hyo
  replace G0 : ∀ a j, a < o → R5 a j = R a j := fun a j h => (er5 a j (by omega) (by omega)).trans (G0 a j h)
  refine sm_in (sm_in (sm_in (And.intro hyo (?_))))
  show sm_W ex d 0 0 5 69 [some (.ref o), some (.ref b0), some (.ref b1)] [] (o + 19, ya5, (sm_st (nI9 (o + 4) I) o 9 (-1)), L, R5) Q
  refine sm_in (sm_in (sm_in (And.intro hyo (?_))))
  show sm_W ex d 0 0 5 74 [some (.ref o), some (.ref b0), some (.ref b1)] [] (o + 19, ya5, (sm_st (nI9 (o + 4) I) o 9 (-1)), L, sm_st R5 o 0 (some b0)) Q
  have er7 : ∀ a j, ¬ (a = o ∧ j = 0) → (sm_st R5 o 0 (some b0)) a j = R5 a j := fun a j h => sm_st_or _ _ (by omega)
  have vr7 : (sm_st R5 o 0 (some b0)) o 0 = some b0 := sm_st_s _ _ _ _
  generalize sm_st R5 o 0 (some b0) = R7 at er7 vr7 ⊢
  replace vr1 : R7 o 2 = some (o + 1) := (er7 _ _ (by omega)).trans vr1
  replace p1_0 : ok2 ya5 R7 (o + 1) := ok2_kept p1_0 (fun a h1 h2 => rfl) (fun j => (er7 _ _ (by omega)))
  replace vr2 : R7 o 3 = some (o + 4) := (er7 _ _ (by omega)).trans vr2
  replace p2_0 : ok9 ya5 R7 (o + 4) := ok9_kept p2_0 (fun a h1 h2 => rfl) (fun j => (er7 _ _ (by omega)))
  replace vr3 : R7 o 4 = some (o + 9) := (er7 _ _ (by omega)).trans vr3
  replace p3_0 : ok4 ya5 R7 (o + 9) := ok4_kept p3_0 (fun a h1 h2 => rfl) (fun j => (er7 _ _ (by omega)))
  replace vr4 : R7 o 5 = some (o + 11) := (er7 _ _ (by omega)).trans vr4
  replace p4_0 : ok4 ya5 R7 (o + 11) := ok4_kept p4_0 (fun a h1 h2 => rfl) (fun j => (er7 _ _ (by omega)))
  replace vr5 : R7 o 6 = some (o + 13) := (er7 _ _ (by omega)).trans vr5
  replace p5_0 : ok6 ya5 R7 (o + 13) 200 12 := ok6_kept p5_0 (fun a h1 h2 => rfl) (fun j => (er7 _ _ (by omega)))
  replace G0 : ∀ a j, a < o → R7 a j = R a j := fun a j h => (er7 a j (by omega)).trans (G0 a j h)
  refine sm_in (sm_in (sm_in (And.intro hyo (?_))))
  show sm_W ex d 0 0 5 79 [some (.ref o), some (.ref b0), some (.ref b1)] [] (o + 19, ya5, (sm_st (nI9 (o + 4) I) o 9 (-1)), L, sm_st R7 o 1 (some b1)) Q
  have er8 : ∀ a j, ¬ (a = o ∧ j = 1) → (sm_st R7 o 1 (some b1)) a j = R7 a j := fun a j h => sm_st_or _ _ (by omega)
  have vr8 : (sm_st R7 o 1 (some b1)) o 1 = some b1 := sm_st_s _ _ _ _
  generalize sm_st R7 o 1 (some b1) = R8 at er8 vr8 ⊢
  replace vr1 : R8 o 2 = some (o + 1) := (er8 _ _ (by omega)).trans vr1
  replace p1_0 : ok2 ya5 R8 (o + 1) := ok2_kept p1_0 (fun a h1 h2 => rfl) (fun j => (er8 _ _ (by omega)))
  replace vr2 : R8 o 3 = some (o + 4) := (er8 _ _ (by omega)).trans vr2
  replace p2_0 : ok9 ya5 R8 (o + 4) := ok9_kept p2_0 (fun a h1 h2 => rfl) (fun j => (er8 _ _ (by omega)))
  replace vr3 : R8 o 4 = some (o + 9) := (er8 _ _ (by omega)).trans vr3
  replace p3_0 : ok4 ya5 R8 (o + 9) := ok4_kept p3_0 (fun a h1 h2 => rfl) (fun j => (er8 _ _ (by omega)))
  replace vr4 : R8 o 5 = some (o + 11) := (er8 _ _ (by omega)).trans vr4
  replace p4_0 : ok4 ya5 R8 (o + 11) := ok4_kept p4_0 (fun a h1 h2 => rfl) (fun j => (er8 _ _ (by omega)))
  replace vr5 : R8 o 6 = some (o + 13) := (er8 _ _ (by omega)).trans vr5
  replace p5_0 : ok6 ya5 R8 (o + 13) 200 12 := ok6_kept p5_0 (fun a h1 h2 => rfl) (fun j => (er8 _ _ (by omega)))
  replace vr7 : R8 o 0 = some b0 := (er8 _ _ (by omega)).trans vr7
  replace G0 : ∀ a j, a < o → R8 a j = R a j := fun a j h => (er8 a j (by omega)).trans (G0 a j h)
  exact sm_in (And.intro rfl (And.intro rfl (k _ _ ⟨Y0, G0⟩ vy1 vr1 p1_0 vy2 vr2 p2_0 vy3 vr3 p3_0 vy4 vr4 p4_0 vy5 vr5 p5_0 vr7 vr8)))
set_option maxHeartbeats 1000000 in
theorem c_X7_init {ex : sm_O} {y : sm_Y} {I : Nat → Nat → Int32} {L : Nat → Nat → Int64} {R : Nat → Nat → Option Nat} {Q : sm_Q} {d o : Nat} {b0 b1 : Nat} (hd0 : 1 ≤ d) (hy : y o = some (.inl 7)) (k : ∀ (y' : sm_Y) (R' : Nat → Nat → Option Nat), nw o y y' R R' → R' o 0 = some b0 → R' o 3 = some b1 → Q none (o + 1, y', I, L, R')) : sm_W ex d 0 0 39 0 [some (.ref o), some (.ref b0), some (.ref b1)] [] (o + 1, y, I, L, R) Q := by
  have hd : 1 ≤ d := by omega
  have hyo : y o = some (.inl 7) := hy
  have Y0 : ∀ a, a ≤ o → y a = y a := fun _ _ => rfl
  have G0 : ∀ a j, a < o → R a j = R a j := fun _ _ _ => rfl
  refine sm_in (sm_in (And.intro hd (And.intro (Nat.zero_le 8) (sm_in (sm_in (sm_in (And.intro hyo (?_))))))))
  show sm_W ex d 0 0 39 9 [some (.ref o), some (.ref b0), some (.ref b1)] [] (o + 1, y, I, L, sm_st R o 0 (some b0)) Q
  have er1 : ∀ a j, ¬ (a = o ∧ j = 0) → (sm_st R o 0 (some b0)) a j = R a j := fun a j h => sm_st_or _ _ (by omega)
  have vr1 : (sm_st R o 0 (some b0)) o 0 = some b0 := sm_st_s _ _ _ _
  generalize sm_st R o 0 (some b0) = R1 at er1 vr1 ⊢
  replace G0 : ∀ a j, a < o → R1 a j = R a j := fun a j h => (er1 a j (by omega)).trans (G0 a j h)
  refine sm_in (sm_in (sm_in (And.intro hyo (?_))))
  show sm_W ex d 0 0 39 14 [some (.ref o), some (.ref b0), some (.ref b1)] [] (o + 1, y, I, L, sm_st R1 o 3 (some b1)) Q
  have er2 : ∀ a j, ¬ (a = o ∧ j = 3) → (sm_st R1 o 3 (some b1)) a j = R1 a j := fun a j h => sm_st_or _ _ (by omega)
  have vr2 : (sm_st R1 o 3 (some b1)) o 3 = some b1 := sm_st_s _ _ _ _
  generalize sm_st R1 o 3 (some b1) = R2 at er2 vr2 ⊢
  replace vr1 : R2 o 0 = some b0 := (er2 _ _ (by omega)).trans vr1
  replace G0 : ∀ a j, a < o → R2 a j = R a j := fun a j h => (er2 a j (by omega)).trans (G0 a j h)
  exact sm_in (And.intro rfl (And.intro rfl (k _ _ ⟨Y0, G0⟩ vr1 vr2)))

