-- WHAT IS NEW: the model
set_option maxHeartbeats 1000000 in
theorem c_X11_init {ex : sm_O} {y : sm_Y} {I : Nat → Nat → Int32} {L : Nat → Nat → Int64} {R : Nat → Nat → Option Nat} {Q : sm_Q} {d o : Nat} (hd0 : 1 ≤ d) (hy : y o = some (.inl 11)) (k : ∀ (y' : sm_Y) (R' : Nat → Nat → Option Nat), nw o y y' R R' → y' (o + 1) = some (.inr (0, 7)) → R' o 2 = some (o + 1) → y' (o + 2) = some (.inr (0, 5450)) → R' o 3 = some (o + 2) → y' (o + 3) = some (.inr (0, 10900)) → R' o 4 = some (o + 3) → y' (o + 4) = some (.inr (2, 2)) → R' o 5 = some (o + 4) → y' (o + 5) = some (.inr (0, 360)) → R' o 6 = some (o + 5) → y' (o + 6) = some (.inr (0, 16)) → R' o 7 = some (o + 6) → y' (o + 7) = some (.inr (0, 320)) → R' o 9 = some (o + 7) → y' (o + 8) = some (.inr (0, 16)) → R' o 10 = some (o + 8) → y' (o + 9) = some (.inr (0, 400)) → R' o 12 = some (o + 9) → y' (o + 10) = some (.inr (0, 96)) → R' o 22 = some (o + 10) → y' (o + 11) = some (.inr (0, 400)) → R' o 24 = some (o + 11) → y' (o + 12) = some (.inr (0, 400)) → R' o 25 = some (o + 12) → y' (o + 13) = some (.inr (0, 400)) → R' o 27 = some (o + 13) → y' (o + 14) = some (.inr (0, 400)) → R' o 28 = some (o + 14) → y' (o + 15) = some (.inr (1, 8)) → R' o 31 = some (o + 15) → y' (o + 16) = some (.inr (1, 7)) → R' o 32 = some (o + 16) → y' (o + 17) = some (.inr (1, 4)) → R' o 33 = some (o + 17) → y' (o + 18) = some (.inr (1, 13)) → R' o 35 = some (o + 18) → y' (o + 19) = some (.inr (1, 13)) → R' o 36 = some (o + 19) → y' (o + 20) = some (.inr (1, 400)) → R' o 37 = some (o + 20) → y' (o + 21) = some (.inr (0, 7)) → R' o 41 = some (o + 21) → y' (o + 22) = some (.inr (0, 120)) → R' o 42 = some (o + 22) → y' (o + 23) = some (.inr (0, 6)) → R' o 43 = some (o + 23) → y' (o + 24) = some (.inr (0, 6)) → R' o 44 = some (o + 24) → y' (o + 25) = some (.inr (0, 6)) → R' o 45 = some (o + 25) → y' (o + 26) = some (.inr (0, 49)) → R' o 47 = some (o + 26) → y' (o + 27) = some (.inr (0, 896)) → R' o 48 = some (o + 27) → y' (o + 28) = some (.inr (0, 7)) → R' o 49 = some (o + 28) → y' (o + 29) = some (.inr (1, 21)) → R' o 50 = some (o + 29) → y' (o + 30) = some (.inr (1, 4)) → R' o 51 = some (o + 30) → y' (o + 31) = some (.inr (0, 96)) → R' o 52 = some (o + 31) → y' (o + 32) = some (.inr (0, 20)) → R' o 58 = some (o + 32) → Q none (o + 33, y', (sm_st (sm_st (sm_st (sm_st (sm_st (sm_st (sm_st I o 18 (-1)) o 55 (-1)) o 59 (-1)) (o + 2) 3 (-1)) (o + 2) 5 1) (o + 2) 7 2) (o + 2) 8 (-1)), (sm_st (sm_st (sm_st (sm_st (sm_st (sm_st (sm_st (sm_st (sm_st (sm_st (sm_st (sm_st (sm_st (sm_st (sm_st (sm_st (sm_st (sm_st (sm_st (sm_st (sm_st (sm_st (sm_st L (o + 15) 0 13358) (o + 15) 1 277892) (o + 15) 2 21285028) (o + 15) 3 267652) (o + 15) 4 16392370) (o + 15) 5 719725925) (o + 15) 6 278194) (o + 15) 7 24865546418) (o + 16) 0 278194) (o + 16) 1 146885) (o + 16) 2 404362868) (o + 16) 3 688) (o + 16) 4 267652) (o + 16) 5 6452) (o + 16) 6 21285028) (o + 17) 0 21285043) (o + 17) 1 19058323) (o + 17) 2 15556971699) (o + 17) 3 67155) (o + 30) 0 19508008645) (o + 30) 1 652384069) (o + 30) 2 538513902) (o + 30) 3 525939), R')) : sm_W ex d 32 20850 123 0 [some (.ref o)] [] (o + 1, y, I, L, R) Q := by
  have hd : 1 ≤ d := by omega
  have hyo : y o = some (.inl 11) := hy
  have Y0 : ∀ a, a ≤ o → y a = y a := fun _ _ => rfl
  have G0 : ∀ a j, a < o → R a j = R a j := fun _ _ _ => rfl
  refine sm_in (sm_in (And.intro hd (And.intro (Nat.zero_le 8) (sm_in (sm_in (sm_in (And.intro (by decide) (And.intro (by decide) (And.intro (Nat.le_of_ble_eq_true rfl) (And.intro (Nat.le_of_ble_eq_true rfl) (sm_in (And.intro ((sm_up_ne (by omega)).trans hyo) (?_)))))))))))))
  show sm_W ex d 31 20843 123 12 [some (.ref o)] [] (o + 2, sm_up y (o + 1) (some (.inr (0, 7))), I, L, sm_st R o 2 (some (o + 1))) Q
  have ey1 : ∀ a, a < o + 1 → (sm_up y (o + 1) (some (.inr (0, 7)))) a = y a := fun a h => sm_up_ne (by omega)
  have vy1 : (sm_up y (o + 1) (some (.inr (0, 7)))) (o + 1) = some (.inr (0, 7)) := sm_up_s
  have er1 : ∀ a j, ¬ (a = o ∧ j = 2) → (sm_st R o 2 (some (o + 1))) a j = R a j := fun a j h => sm_st_or _ _ (by omega)
  have vr1 : (sm_st R o 2 (some (o + 1))) o 2 = some (o + 1) := sm_st_s _ _ _ _
  generalize sm_up y (o + 1) (some (.inr (0, 7))) = y1 at ey1 vy1 ⊢
  generalize sm_st R o 2 (some (o + 1)) = R1 at er1 vr1 ⊢
  replace Y0 : ∀ a, a ≤ o → y1 a = y a := fun a h => (ey1 a (by omega)).trans (Y0 a h)
  replace hyo : y1 o = some (.inl 11) := (ey1 o (by omega)).trans hyo
  replace G0 : ∀ a j, a < o → R1 a j = R a j := fun a j h => (er1 a j (by omega)).trans (G0 a j h)
  refine sm_in (sm_in (sm_in (And.intro (by decide) (And.intro (by decide) (And.intro (Nat.le_of_ble_eq_true rfl) (And.intro (Nat.le_of_ble_eq_true rfl) (sm_in (And.intro ((sm_up_ne (by omega)).trans hyo) (?_)))))))))
  show sm_W ex d 30 15393 123 21 [some (.ref o)] [] (o + 3, sm_up y1 (o + 2) (some (.inr (0, 5450))), I, L, sm_st R1 o 3 (some (o + 2))) Q
  have ey2 : ∀ a, a < o + 2 → (sm_up y1 (o + 2) (some (.inr (0, 5450)))) a = y1 a := fun a h => sm_up_ne (by omega)
  have vy2 : (sm_up y1 (o + 2) (some (.inr (0, 5450)))) (o + 2) = some (.inr (0, 5450)) := sm_up_s
  have er2 : ∀ a j, ¬ (a = o ∧ j = 3) → (sm_st R1 o 3 (some (o + 2))) a j = R1 a j := fun a j h => sm_st_or _ _ (by omega)
  have vr2 : (sm_st R1 o 3 (some (o + 2))) o 3 = some (o + 2) := sm_st_s _ _ _ _
  generalize sm_up y1 (o + 2) (some (.inr (0, 5450))) = y2 at ey2 vy2 ⊢
  generalize sm_st R1 o 3 (some (o + 2)) = R2 at er2 vr2 ⊢
  replace vy1 : y2 (o + 1) = some (.inr (0, 7)) := (ey2 _ (by omega)).trans vy1
  replace vr1 : R2 o 2 = some (o + 1) := (er2 _ _ (by omega)).trans vr1
  replace Y0 : ∀ a, a ≤ o → y2 a = y a := fun a h => (ey2 a (by omega)).trans (Y0 a h)
  replace hyo : y2 o = some (.inl 11) := (ey2 o (by omega)).trans hyo
  replace G0 : ∀ a j, a < o → R2 a j = R a j := fun a j h => (er2 a j (by omega)).trans (G0 a j h)
  refine sm_in (sm_in (sm_in (And.intro (by decide) (And.intro (by decide) (And.intro (Nat.le_of_ble_eq_true rfl) (And.intro (Nat.le_of_ble_eq_true rfl) (sm_in (And.intro ((sm_up_ne (by omega)).trans hyo) (?_)))))))))
  show sm_W ex d 29 4493 123 30 [some (.ref o)] [] (o + 4, sm_up y2 (o + 3) (some (.inr (0, 10900))), I, L, sm_st R2 o 4 (some (o + 3))) Q
  have ey3 : ∀ a, a < o + 3 → (sm_up y2 (o + 3) (some (.inr (0, 10900)))) a = y2 a := fun a h => sm_up_ne (by omega)
  have vy3 : (sm_up y2 (o + 3) (some (.inr (0, 10900)))) (o + 3) = some (.inr (0, 10900)) := sm_up_s
  have er3 : ∀ a j, ¬ (a = o ∧ j = 4) → (sm_st R2 o 4 (some (o + 3))) a j = R2 a j := fun a j h => sm_st_or _ _ (by omega)
  have vr3 : (sm_st R2 o 4 (some (o + 3))) o 4 = some (o + 3) := sm_st_s _ _ _ _
  generalize sm_up y2 (o + 3) (some (.inr (0, 10900))) = y3 at ey3 vy3 ⊢
  generalize sm_st R2 o 4 (some (o + 3)) = R3 at er3 vr3 ⊢
  replace vy1 : y3 (o + 1) = some (.inr (0, 7)) := (ey3 _ (by omega)).trans vy1
  replace vr1 : R3 o 2 = some (o + 1) := (er3 _ _ (by omega)).trans vr1
  replace vy2 : y3 (o + 2) = some (.inr (0, 5450)) := (ey3 _ (by omega)).trans vy2
  replace vr2 : R3 o 3 = some (o + 2) := (er3 _ _ (by omega)).trans vr2
  replace Y0 : ∀ a, a ≤ o → y3 a = y a := fun a h => (ey3 a (by omega)).trans (Y0 a h)
  replace hyo : y3 o = some (.inl 11) := (ey3 o (by omega)).trans hyo
  replace G0 : ∀ a j, a < o → R3 a j = R a j := fun a j h => (er3 a j (by omega)).trans (G0 a j h)
  refine sm_in (sm_in (sm_in (And.intro (by decide) (And.intro (by decide) (And.intro (Nat.le_of_ble_eq_true rfl) (And.intro (Nat.le_of_ble_eq_true rfl) (sm_in (And.intro ((sm_up_ne (by omega)).trans hyo) (?_)))))))))
  show sm_W ex d 28 4491 123 37 [some (.ref o)] [] (o + 5, sm_up y3 (o + 4) (some (.inr (2, 2))), I, L, sm_st R3 o 5 (some (o + 4))) Q
  have ey4 : ∀ a, a < o + 4 → (sm_up y3 (o + 4) (some (.inr (2, 2)))) a = y3 a := fun a h => sm_up_ne (by omega)
  have vy4 : (sm_up y3 (o + 4) (some (.inr (2, 2)))) (o + 4) = some (.inr (2, 2)) := sm_up_s
  have er4 : ∀ a j, ¬ (a = o ∧ j = 5) → (sm_st R3 o 5 (some (o + 4))) a j = R3 a j := fun a j h => sm_st_or _ _ (by omega)
  have vr4 : (sm_st R3 o 5 (some (o + 4))) o 5 = some (o + 4) := sm_st_s _ _ _ _
  generalize sm_up y3 (o + 4) (some (.inr (2, 2))) = y4 at ey4 vy4 ⊢
  generalize sm_st R3 o 5 (some (o + 4)) = R4 at er4 vr4 ⊢
  replace vy1 : y4 (o + 1) = some (.inr (0, 7)) := (ey4 _ (by omega)).trans vy1
  replace vr1 : R4 o 2 = some (o + 1) := (er4 _ _ (by omega)).trans vr1
  replace vy2 : y4 (o + 2) = some (.inr (0, 5450)) := (ey4 _ (by omega)).trans vy2
  replace vr2 : R4 o 3 = some (o + 2) := (er4 _ _ (by omega)).trans vr2
  replace vy3 : y4 (o + 3) = some (.inr (0, 10900)) := (ey4 _ (by omega)).trans vy3
  replace vr3 : R4 o 4 = some (o + 3) := (er4 _ _ (by omega)).trans vr3
  replace Y0 : ∀ a, a ≤ o → y4 a = y a := fun a h => (ey4 a (by omega)).trans (Y0 a h)
  replace hyo : y4 o = some (.inl 11) := (ey4 o (by omega)).trans hyo
  replace G0 : ∀ a j, a < o → R4 a j = R a j := fun a j h => (er4 a j (by omega)).trans (G0 a j h)
  refine sm_in (sm_in (sm_in (And.intro (by decide) (And.intro (by decide) (And.intro (Nat.le_of_ble_eq_true rfl) (And.intro (Nat.le_of_ble_eq_true rfl) (sm_in (And.intro ((sm_up_ne (by omega)).trans hyo) (?_)))))))))
  show sm_W ex d 27 4131 123 46 [some (.ref o)] [] (o + 6, sm_up y4 (o + 5) (some (.inr (0, 360))), I, L, sm_st R4 o 6 (some (o + 5))) Q
  have ey5 : ∀ a, a < o + 5 → (sm_up y4 (o + 5) (some (.inr (0, 360)))) a = y4 a := fun a h => sm_up_ne (by omega)
  have vy5 : (sm_up y4 (o + 5) (some (.inr (0, 360)))) (o + 5) = some (.inr (0, 360)) := sm_up_s
  have er5 : ∀ a j, ¬ (a = o ∧ j = 6) → (sm_st R4 o 6 (some (o + 5))) a j = R4 a j := fun a j h => sm_st_or _ _ (by omega)
  have vr5 : (sm_st R4 o 6 (some (o + 5))) o 6 = some (o + 5) := sm_st_s _ _ _ _
  generalize sm_up y4 (o + 5) (some (.inr (0, 360))) = y5 at ey5 vy5 ⊢
  generalize sm_st R4 o 6 (some (o + 5)) = R5 at er5 vr5 ⊢
  replace vy1 : y5 (o + 1) = some (.inr (0, 7)) := (ey5 _ (by omega)).trans vy1
  replace vr1 : R5 o 2 = some (o + 1) := (er5 _ _ (by omega)).trans vr1
  replace vy2 : y5 (o + 2) = some (.inr (0, 5450)) := (ey5 _ (by omega)).trans vy2
  replace vr2 : R5 o 3 = some (o + 2) := (er5 _ _ (by omega)).trans vr2
  replace vy3 : y5 (o + 3) = some (.inr (0, 10900)) := (ey5 _ (by omega)).trans vy3
  replace vr3 : R5 o 4 = some (o + 3) := (er5 _ _ (by omega)).trans vr3
  replace vy4 : y5 (o + 4) = some (.inr (2, 2)) := (ey5 _ (by omega)).trans vy4
  replace vr4 : R5 o 5 = some (o + 4) := (er5 _ _ (by omega)).trans vr4
  replace Y0 : ∀ a, a ≤ o → y5 a = y a := fun a h => (ey5 a (by omega)).trans (Y0 a h)
  replace hyo : y5 o = some (.inl 11) := (ey5 o (by omega)).trans hyo
  replace G0 : ∀ a j, a < o → R5 a j = R a j := fun a j h => (er5 a j (by omega)).trans (G0 a j h)
  refine sm_in (sm_in (sm_in (And.intro (by decide) (And.intro (by decide) (And.intro (Nat.le_of_ble_eq_true rfl) (And.intro (Nat.le_of_ble_eq_true rfl) (sm_in (And.intro ((sm_up_ne (by omega)).trans hyo) (?_)))))))))
  show sm_W ex d 26 4115 123 54 [some (.ref o)] [] (o + 7, sm_up y5 (o + 6) (some (.inr (0, 16))), I, L, sm_st R5 o 7 (some (o + 6))) Q
  have ey6 : ∀ a, a < o + 6 → (sm_up y5 (o + 6) (some (.inr (0, 16)))) a = y5 a := fun a h => sm_up_ne (by omega)
  have vy6 : (sm_up y5 (o + 6) (some (.inr (0, 16)))) (o + 6) = some (.inr (0, 16)) := sm_up_s
  have er6 : ∀ a j, ¬ (a = o ∧ j = 7) → (sm_st R5 o 7 (some (o + 6))) a j = R5 a j := fun a j h => sm_st_or _ _ (by omega)
  have vr6 : (sm_st R5 o 7 (some (o + 6))) o 7 = some (o + 6) := sm_st_s _ _ _ _
  generalize sm_up y5 (o + 6) (some (.inr (0, 16))) = y6 at ey6 vy6 ⊢
  generalize sm_st R5 o 7 (some (o + 6)) = R6 at er6 vr6 ⊢
  replace vy1 : y6 (o + 1) = some (.inr (0, 7)) := (ey6 _ (by omega)).trans vy1
  replace vr1 : R6 o 2 = some (o + 1) := (er6 _ _ (by omega)).trans vr1
  replace vy2 : y6 (o + 2) = some (.inr (0, 5450)) := (ey6 _ (by omega)).trans vy2
  replace vr2 : R6 o 3 = some (o + 2) := (er6 _ _ (by omega)).trans vr2
  replace vy3 : y6 (o + 3) = some (.inr (0, 10900)) := (ey6 _ (by omega)).trans vy3
  replace vr3 : R6 o 4 = some (o + 3) := (er6 _ _ (by omega)).trans vr3
  replace vy4 : y6 (o + 4) = some (.inr (2, 2)) := (ey6 _ (by omega)).trans vy4
  replace vr4 : R6 o 5 = some (o + 4) := (er6 _ _ (by omega)).trans vr4
  replace vy5 : y6 (o + 5) = some (.inr (0, 360)) := (ey6 _ (by omega)).trans vy5
  replace vr5 : R6 o 6 = some (o + 5) := (er6 _ _ (by omega)).trans vr5
  replace Y0 : ∀ a, a ≤ o → y6 a = y a := fun a h => (ey6 a (by omega)).trans (Y0 a h)
  replace hyo : y6 o = some (.inl 11) := (ey6 o (by omega)).trans hyo
  replace G0 : ∀ a j, a < o → R6 a j = R a j := fun a j h => (er6 a j (by omega)).trans (G0 a j h)
  refine sm_in (sm_in (sm_in (And.intro (by decide) (And.intro (by decide) (And.intro (Nat.le_of_ble_eq_true rfl) (And.intro (Nat.le_of_ble_eq_true rfl) (sm_in (And.intro ((sm_up_ne (by omega)).trans hyo) (?_)))))))))
  show sm_W ex d 25 3795 123 63 [some (.ref o)] [] (o + 8, sm_up y6 (o + 7) (some (.inr (0, 320))), I, L, sm_st R6 o 9 (some (o + 7))) Q
  have ey7 : ∀ a, a < o + 7 → (sm_up y6 (o + 7) (some (.inr (0, 320)))) a = y6 a := fun a h => sm_up_ne (by omega)
  have vy7 : (sm_up y6 (o + 7) (some (.inr (0, 320)))) (o + 7) = some (.inr (0, 320)) := sm_up_s
  have er7 : ∀ a j, ¬ (a = o ∧ j = 9) → (sm_st R6 o 9 (some (o + 7))) a j = R6 a j := fun a j h => sm_st_or _ _ (by omega)
  have vr7 : (sm_st R6 o 9 (some (o + 7))) o 9 = some (o + 7) := sm_st_s _ _ _ _
  generalize sm_up y6 (o + 7) (some (.inr (0, 320))) = y7 at ey7 vy7 ⊢
  generalize sm_st R6 o 9 (some (o + 7)) = R7 at er7 vr7 ⊢
  replace vy1 : y7 (o + 1) = some (.inr (0, 7)) := (ey7 _ (by omega)).trans vy1
  replace vr1 : R7 o 2 = some (o + 1) := (er7 _ _ (by omega)).trans vr1
  replace vy2 : y7 (o + 2) = some (.inr (0, 5450)) := (ey7 _ (by omega)).trans vy2
  replace vr2 : R7 o 3 = some (o + 2) := (er7 _ _ (by omega)).trans vr2
  replace vy3 : y7 (o + 3) = some (.inr (0, 10900)) := (ey7 _ (by omega)).trans vy3
  replace vr3 : R7 o 4 = some (o + 3) := (er7 _ _ (by omega)).trans vr3
  replace vy4 : y7 (o + 4) = some (.inr (2, 2)) := (ey7 _ (by omega)).trans vy4
  replace vr4 : R7 o 5 = some (o + 4) := (er7 _ _ (by omega)).trans vr4
  replace vy5 : y7 (o + 5) = some (.inr (0, 360)) := (ey7 _ (by omega)).trans vy5
  replace vr5 : R7 o 6 = some (o + 5) := (er7 _ _ (by omega)).trans vr5
  replace vy6 : y7 (o + 6) = some (.inr (0, 16)) := (ey7 _ (by omega)).trans vy6
  replace vr6 : R7 o 7 = some (o + 6) := (er7 _ _ (by omega)).trans vr6
  replace Y0 : ∀ a, a ≤ o → y7 a = y a := fun a h => (ey7 a (by omega)).trans (Y0 a h)
  replace hyo : y7 o = some (.inl 11) := (ey7 o (by omega)).trans hyo
  replace G0 : ∀ a j, a < o → R7 a j = R a j := fun a j h => (er7 a j (by omega)).trans (G0 a j h)
  refine sm_in (sm_in (sm_in (And.intro (by decide) (And.intro (by decide) (And.intro (Nat.le_of_ble_eq_true rfl) (And.intro (Nat.le_of_ble_eq_true rfl) (sm_in (And.intro ((sm_up_ne (by omega)).trans hyo) (?_)))))))))
  show sm_W ex d 24 3779 123 71 [some (.ref o)] [] (o + 9, sm_up y7 (o + 8) (some (.inr (0, 16))), I, L, sm_st R7 o 10 (some (o + 8))) Q
  have ey8 : ∀ a, a < o + 8 → (sm_up y7 (o + 8) (some (.inr (0, 16)))) a = y7 a := fun a h => sm_up_ne (by omega)
  have vy8 : (sm_up y7 (o + 8) (some (.inr (0, 16)))) (o + 8) = some (.inr (0, 16)) := sm_up_s
  have er8 : ∀ a j, ¬ (a = o ∧ j = 10) → (sm_st R7 o 10 (some (o + 8))) a j = R7 a j := fun a j h => sm_st_or _ _ (by omega)
  have vr8 : (sm_st R7 o 10 (some (o + 8))) o 10 = some (o + 8) := sm_st_s _ _ _ _
  generalize sm_up y7 (o + 8) (some (.inr (0, 16))) = y8 at ey8 vy8 ⊢
  generalize sm_st R7 o 10 (some (o + 8)) = R8 at er8 vr8 ⊢
  replace vy1 : y8 (o + 1) = some (.inr (0, 7)) := (ey8 _ (by omega)).trans vy1
  replace vr1 : R8 o 2 = some (o + 1) := (er8 _ _ (by omega)).trans vr1
  replace vy2 : y8 (o + 2) = some (.inr (0, 5450)) := (ey8 _ (by omega)).trans vy2
  replace vr2 : R8 o 3 = some (o + 2) := (er8 _ _ (by omega)).trans vr2
  replace vy3 : y8 (o + 3) = some (.inr (0, 10900)) := (ey8 _ (by omega)).trans vy3
  replace vr3 : R8 o 4 = some (o + 3) := (er8 _ _ (by omega)).trans vr3
  replace vy4 : y8 (o + 4) = some (.inr (2, 2)) := (ey8 _ (by omega)).trans vy4
  replace vr4 : R8 o 5 = some (o + 4) := (er8 _ _ (by omega)).trans vr4
  replace vy5 : y8 (o + 5) = some (.inr (0, 360)) := (ey8 _ (by omega)).trans vy5
  replace vr5 : R8 o 6 = some (o + 5) := (er8 _ _ (by omega)).trans vr5
  replace vy6 : y8 (o + 6) = some (.inr (0, 16)) := (ey8 _ (by omega)).trans vy6
  replace vr6 : R8 o 7 = some (o + 6) := (er8 _ _ (by omega)).trans vr6
  replace vy7 : y8 (o + 7) = some (.inr (0, 320)) := (ey8 _ (by omega)).trans vy7
  replace vr7 : R8 o 9 = some (o + 7) := (er8 _ _ (by omega)).trans vr7
  replace Y0 : ∀ a, a ≤ o → y8 a = y a := fun a h => (ey8 a (by omega)).trans (Y0 a h)
  replace hyo : y8 o = some (.inl 11) := (ey8 o (by omega)).trans hyo
  replace G0 : ∀ a j, a < o → R8 a j = R a j := fun a j h => (er8 a j (by omega)).trans (G0 a j h)
  refine sm_in (sm_in (sm_in (And.intro (by decide) (And.intro (by decide) (And.intro (Nat.le_of_ble_eq_true rfl) (And.intro (Nat.le_of_ble_eq_true rfl) (sm_in (And.intro ((sm_up_ne (by omega)).trans hyo) (?_)))))))))
  show sm_W ex d 23 3379 123 80 [some (.ref o)] [] (o + 10, sm_up y8 (o + 9) (some (.inr (0, 400))), I, L, sm_st R8 o 12 (some (o + 9))) Q
  have ey9 : ∀ a, a < o + 9 → (sm_up y8 (o + 9) (some (.inr (0, 400)))) a = y8 a := fun a h => sm_up_ne (by omega)
  have vy9 : (sm_up y8 (o + 9) (some (.inr (0, 400)))) (o + 9) = some (.inr (0, 400)) := sm_up_s
  have er9 : ∀ a j, ¬ (a = o ∧ j = 12) → (sm_st R8 o 12 (some (o + 9))) a j = R8 a j := fun a j h => sm_st_or _ _ (by omega)
  have vr9 : (sm_st R8 o 12 (some (o + 9))) o 12 = some (o + 9) := sm_st_s _ _ _ _
  generalize sm_up y8 (o + 9) (some (.inr (0, 400))) = y9 at ey9 vy9 ⊢
  generalize sm_st R8 o 12 (some (o + 9)) = R9 at er9 vr9 ⊢
  replace vy1 : y9 (o + 1) = some (.inr (0, 7)) := (ey9 _ (by omega)).trans vy1
  replace vr1 : R9 o 2 = some (o + 1) := (er9 _ _ (by omega)).trans vr1
  replace vy2 : y9 (o + 2) = some (.inr (0, 5450)) := (ey9 _ (by omega)).trans vy2
  replace vr2 : R9 o 3 = some (o + 2) := (er9 _ _ (by omega)).trans vr2
  replace vy3 : y9 (o + 3) = some (.inr (0, 10900)) := (ey9 _ (by omega)).trans vy3
  replace vr3 : R9 o 4 = some (o + 3) := (er9 _ _ (by omega)).trans vr3
  replace vy4 : y9 (o + 4) = some (.inr (2, 2)) := (ey9 _ (by omega)).trans vy4
  replace vr4 : R9 o 5 = some (o + 4) := (er9 _ _ (by omega)).trans vr4
  replace vy5 : y9 (o + 5) = some (.inr (0, 360)) := (ey9 _ (by omega)).trans vy5
  replace vr5 : R9 o 6 = some (o + 5) := (er9 _ _ (by omega)).trans vr5
  replace vy6 : y9 (o + 6) = some (.inr (0, 16)) := (ey9 _ (by omega)).trans vy6
  replace vr6 : R9 o 7 = some (o + 6) := (er9 _ _ (by omega)).trans vr6
  replace vy7 : y9 (o + 7) = some (.inr (0, 320)) := (ey9 _ (by omega)).trans vy7
  replace vr7 : R9 o 9 = some (o + 7) := (er9 _ _ (by omega)).trans vr7
  replace vy8 : y9 (o + 8) = some (.inr (0, 16)) := (ey9 _ (by omega)).trans vy8
  replace vr8 : R9 o 10 = some (o + 8) := (er9 _ _ (by omega)).trans vr8
  replace Y0 : ∀ a, a ≤ o → y9 a = y a := fun a h => (ey9 a (by omega)).trans (Y0 a h)
  replace hyo : y9 o = some (.inl 11) := (ey9 o (by omega)).trans hyo
  replace G0 : ∀ a j, a < o → R9 a j = R a j := fun a j h => (er9 a j (by omega)).trans (G0 a j h)
  refine sm_in (sm_in (sm_in (And.intro hyo (?_))))
  show sm_W ex d 23 3379 123 85 [some (.ref o)] [] (o + 10, y9, (sm_st I o 18 (-1)), L, R9) Q
  refine sm_in (sm_in (sm_in (And.intro (by decide) (And.intro (by decide) (And.intro (Nat.le_of_ble_eq_true rfl) (And.intro (Nat.le_of_ble_eq_true rfl) (sm_in (And.intro ((sm_up_ne (by omega)).trans hyo) (?_)))))))))
  show sm_W ex d 22 3283 123 93 [some (.ref o)] [] (o + 11, sm_up y9 (o + 10) (some (.inr (0, 96))), (sm_st I o 18 (-1)), L, sm_st R9 o 22 (some (o + 10))) Q
  have ey11 : ∀ a, a < o + 10 → (sm_up y9 (o + 10) (some (.inr (0, 96)))) a = y9 a := fun a h => sm_up_ne (by omega)
  have vy11 : (sm_up y9 (o + 10) (some (.inr (0, 96)))) (o + 10) = some (.inr (0, 96)) := sm_up_s
  have er11 : ∀ a j, ¬ (a = o ∧ j = 22) → (sm_st R9 o 22 (some (o + 10))) a j = R9 a j := fun a j h => sm_st_or _ _ (by omega)
  have vr11 : (sm_st R9 o 22 (some (o + 10))) o 22 = some (o + 10) := sm_st_s _ _ _ _
  generalize sm_up y9 (o + 10) (some (.inr (0, 96))) = y11 at ey11 vy11 ⊢
  generalize sm_st R9 o 22 (some (o + 10)) = R11 at er11 vr11 ⊢
  replace vy1 : y11 (o + 1) = some (.inr (0, 7)) := (ey11 _ (by omega)).trans vy1
  replace vr1 : R11 o 2 = some (o + 1) := (er11 _ _ (by omega)).trans vr1
  replace vy2 : y11 (o + 2) = some (.inr (0, 5450)) := (ey11 _ (by omega)).trans vy2
  replace vr2 : R11 o 3 = some (o + 2) := (er11 _ _ (by omega)).trans vr2
  replace vy3 : y11 (o + 3) = some (.inr (0, 10900)) := (ey11 _ (by omega)).trans vy3
  replace vr3 : R11 o 4 = some (o + 3) := (er11 _ _ (by omega)).trans vr3
  replace vy4 : y11 (o + 4) = some (.inr (2, 2)) := (ey11 _ (by omega)).trans vy4
  replace vr4 : R11 o 5 = some (o + 4) := (er11 _ _ (by omega)).trans vr4
  replace vy5 : y11 (o + 5) = some (.inr (0, 360)) := (ey11 _ (by omega)).trans vy5
  replace vr5 : R11 o 6 = some (o + 5) := (er11 _ _ (by omega)).trans vr5
  replace vy6 : y11 (o + 6) = some (.inr (0, 16)) := (ey11 _ (by omega)).trans vy6
  replace vr6 : R11 o 7 = some (o + 6) := (er11 _ _ (by omega)).trans vr6
  replace vy7 : y11 (o + 7) = some (.inr (0, 320)) := (ey11 _ (by omega)).trans vy7
  replace vr7 : R11 o 9 = some (o + 7) := (er11 _ _ (by omega)).trans vr7
  replace vy8 : y11 (o + 8) = some (.inr (0, 16)) := (ey11 _ (by omega)).trans vy8
  replace vr8 : R11 o 10 = some (o + 8) := (er11 _ _ (by omega)).trans vr8
  replace vy9 : y11 (o + 9) = some (.inr (0, 400)) := (ey11 _ (by omega)).trans vy9
  replace vr9 : R11 o 12 = some (o + 9) := (er11 _ _ (by omega)).trans vr9
  replace Y0 : ∀ a, a ≤ o → y11 a = y a := fun a h => (ey11 a (by omega)).trans (Y0 a h)
  replace hyo : y11 o = some (.inl 11) := (ey11 o (by omega)).trans hyo
  replace G0 : ∀ a j, a < o → R11 a j = R a j := fun a j h => (er11 a j (by omega)).trans (G0 a j h)
  refine sm_in (sm_in (sm_in (And.intro (by decide) (And.intro (by decide) (And.intro (Nat.le_of_ble_eq_true rfl) (And.intro (Nat.le_of_ble_eq_true rfl) (sm_in (And.intro ((sm_up_ne (by omega)).trans hyo) (?_)))))))))
  show sm_W ex d 21 2883 123 102 [some (.ref o)] [] (o + 12, sm_up y11 (o + 11) (some (.inr (0, 400))), (sm_st I o 18 (-1)), L, sm_st R11 o 24 (some (o + 11))) Q
  have ey12 : ∀ a, a < o + 11 → (sm_up y11 (o + 11) (some (.inr (0, 400)))) a = y11 a := fun a h => sm_up_ne (by omega)
  have vy12 : (sm_up y11 (o + 11) (some (.inr (0, 400)))) (o + 11) = some (.inr (0, 400)) := sm_up_s
  have er12 : ∀ a j, ¬ (a = o ∧ j = 24) → (sm_st R11 o 24 (some (o + 11))) a j = R11 a j := fun a j h => sm_st_or _ _ (by omega)
  have vr12 : (sm_st R11 o 24 (some (o + 11))) o 24 = some (o + 11) := sm_st_s _ _ _ _
  generalize sm_up y11 (o + 11) (some (.inr (0, 400))) = y12 at ey12 vy12 ⊢
  generalize sm_st R11 o 24 (some (o + 11)) = R12 at er12 vr12 ⊢
  replace vy1 : y12 (o + 1) = some (.inr (0, 7)) := (ey12 _ (by omega)).trans vy1
  replace vr1 : R12 o 2 = some (o + 1) := (er12 _ _ (by omega)).trans vr1
  replace vy2 : y12 (o + 2) = some (.inr (0, 5450)) := (ey12 _ (by omega)).trans vy2
  replace vr2 : R12 o 3 = some (o + 2) := (er12 _ _ (by omega)).trans vr2
  replace vy3 : y12 (o + 3) = some (.inr (0, 10900)) := (ey12 _ (by omega)).trans vy3
  replace vr3 : R12 o 4 = some (o + 3) := (er12 _ _ (by omega)).trans vr3
  replace vy4 : y12 (o + 4) = some (.inr (2, 2)) := (ey12 _ (by omega)).trans vy4
  replace vr4 : R12 o 5 = some (o + 4) := (er12 _ _ (by omega)).trans vr4
  replace vy5 : y12 (o + 5) = some (.inr (0, 360)) := (ey12 _ (by omega)).trans vy5
  replace vr5 : R12 o 6 = some (o + 5) := (er12 _ _ (by omega)).trans vr5
  replace vy6 : y12 (o + 6) = some (.inr (0, 16)) := (ey12 _ (by omega)).trans vy6
  replace vr6 : R12 o 7 = some (o + 6) := (er12 _ _ (by omega)).trans vr6
  replace vy7 : y12 (o + 7) = some (.inr (0, 320)) := (ey12 _ (by omega)).trans vy7
  replace vr7 : R12 o 9 = some (o + 7) := (er12 _ _ (by omega)).trans vr7
  replace vy8 : y12 (o + 8) = some (.inr (0, 16)) := (ey12 _ (by omega)).trans vy8
  replace vr8 : R12 o 10 = some (o + 8) := (er12 _ _ (by omega)).trans vr8
  replace vy9 : y12 (o + 9) = some (.inr (0, 400)) := (ey12 _ (by omega)).trans vy9
  replace vr9 : R12 o 12 = some (o + 9) := (er12 _ _ (by omega)).trans vr9
  replace vy11 : y12 (o + 10) = some (.inr (0, 96)) := (ey12 _ (by omega)).trans vy11
  replace vr11 : R12 o 22 = some (o + 10) := (er12 _ _ (by omega)).trans vr11
  replace Y0 : ∀ a, a ≤ o → y12 a = y a := fun a h => (ey12 a (by omega)).trans (Y0 a h)
  replace hyo : y12 o = some (.inl 11) := (ey12 o (by omega)).trans hyo
  replace G0 : ∀ a j, a < o → R12 a j = R a j := fun a j h => (er12 a j (by omega)).trans (G0 a j h)
  refine sm_in (sm_in (sm_in (And.intro (by decide) (And.intro (by decide) (And.intro (Nat.le_of_ble_eq_true rfl) (And.intro (Nat.le_of_ble_eq_true rfl) (sm_in (And.intro ((sm_up_ne (by omega)).trans hyo) (?_)))))))))
  show sm_W ex d 20 2483 123 111 [some (.ref o)] [] (o + 13, sm_up y12 (o + 12) (some (.inr (0, 400))), (sm_st I o 18 (-1)), L, sm_st R12 o 25 (some (o + 12))) Q
  have ey13 : ∀ a, a < o + 12 → (sm_up y12 (o + 12) (some (.inr (0, 400)))) a = y12 a := fun a h => sm_up_ne (by omega)
  have vy13 : (sm_up y12 (o + 12) (some (.inr (0, 400)))) (o + 12) = some (.inr (0, 400)) := sm_up_s
  have er13 : ∀ a j, ¬ (a = o ∧ j = 25) → (sm_st R12 o 25 (some (o + 12))) a j = R12 a j := fun a j h => sm_st_or _ _ (by omega)
  have vr13 : (sm_st R12 o 25 (some (o + 12))) o 25 = some (o + 12) := sm_st_s _ _ _ _
  generalize sm_up y12 (o + 12) (some (.inr (0, 400))) = y13 at ey13 vy13 ⊢
  generalize sm_st R12 o 25 (some (o + 12)) = R13 at er13 vr13 ⊢
  replace vy1 : y13 (o + 1) = some (.inr (0, 7)) := (ey13 _ (by omega)).trans vy1
  replace vr1 : R13 o 2 = some (o + 1) := (er13 _ _ (by omega)).trans vr1
  replace vy2 : y13 (o + 2) = some (.inr (0, 5450)) := (ey13 _ (by omega)).trans vy2
  replace vr2 : R13 o 3 = some (o + 2) := (er13 _ _ (by omega)).trans vr2
  replace vy3 : y13 (o + 3) = some (.inr (0, 10900)) := (ey13 _ (by omega)).trans vy3
  replace vr3 : R13 o 4 = some (o + 3) := (er13 _ _ (by omega)).trans vr3
  replace vy4 : y13 (o + 4) = some (.inr (2, 2)) := (ey13 _ (by omega)).trans vy4
  replace vr4 : R13 o 5 = some (o + 4) := (er13 _ _ (by omega)).trans vr4
  replace vy5 : y13 (o + 5) = some (.inr (0, 360)) := (ey13 _ (by omega)).trans vy5
  replace vr5 : R13 o 6 = some (o + 5) := (er13 _ _ (by omega)).trans vr5
  replace vy6 : y13 (o + 6) = some (.inr (0, 16)) := (ey13 _ (by omega)).trans vy6
  replace vr6 : R13 o 7 = some (o + 6) := (er13 _ _ (by omega)).trans vr6
  replace vy7 : y13 (o + 7) = some (.inr (0, 320)) := (ey13 _ (by omega)).trans vy7
  replace vr7 : R13 o 9 = some (o + 7) := (er13 _ _ (by omega)).trans vr7
  replace vy8 : y13 (o + 8) = some (.inr (0, 16)) := (ey13 _ (by omega)).trans vy8
  replace vr8 : R13 o 10 = some (o + 8) := (er13 _ _ (by omega)).trans vr8
  replace vy9 : y13 (o + 9) = some (.inr (0, 400)) := (ey13 _ (by omega)).trans vy9
  replace vr9 : R13 o 12 = some (o + 9) := (er13 _ _ (by omega)).trans vr9
  replace vy11 : y13 (o + 10) = some (.inr (0, 96)) := (ey13 _ (by omega)).trans vy11
  replace vr11 : R13 o 22 = some (o + 10) := (er13 _ _ (by omega)).trans vr11
  replace vy12 : y13 (o + 11) = some (.inr (0, 400)) := (ey13 _ (by omega)).trans vy12
  replace vr12 : R13 o 24 = some (o + 11) := (er13 _ _ (by omega)).trans vr12
  replace Y0 : ∀ a, a ≤ o → y13 a = y a := fun a h => (ey13 a (by omega)).trans (Y0 a h)
  replace hyo : y13 o = some (.inl 11) := (ey13 o (by omega)).trans hyo
  replace G0 : ∀ a j, a < o → R13 a j = R a j := fun a j h => (er13 a j (by omega)).trans (G0 a j h)
  refine sm_in (sm_in (sm_in (And.intro (by decide) (And.intro (by decide) (And.intro (Nat.le_of_ble_eq_true rfl) (And.intro (Nat.le_of_ble_eq_true rfl) (sm_in (And.intro ((sm_up_ne (by omega)).trans hyo) (?_)))))))))
  show sm_W ex d 19 2083 123 120 [some (.ref o)] [] (o + 14, sm_up y13 (o + 13) (some (.inr (0, 400))), (sm_st I o 18 (-1)), L, sm_st R13 o 27 (some (o + 13))) Q
  have ey14 : ∀ a, a < o + 13 → (sm_up y13 (o + 13) (some (.inr (0, 400)))) a = y13 a := fun a h => sm_up_ne (by omega)
  have vy14 : (sm_up y13 (o + 13) (some (.inr (0, 400)))) (o + 13) = some (.inr (0, 400)) := sm_up_s
  have er14 : ∀ a j, ¬ (a = o ∧ j = 27) → (sm_st R13 o 27 (some (o + 13))) a j = R13 a j := fun a j h => sm_st_or _ _ (by omega)
  have vr14 : (sm_st R13 o 27 (some (o + 13))) o 27 = some (o + 13) := sm_st_s _ _ _ _
  generalize sm_up y13 (o + 13) (some (.inr (0, 400))) = y14 at ey14 vy14 ⊢
  generalize sm_st R13 o 27 (some (o + 13)) = R14 at er14 vr14 ⊢
  replace vy1 : y14 (o + 1) = some (.inr (0, 7)) := (ey14 _ (by omega)).trans vy1
  replace vr1 : R14 o 2 = some (o + 1) := (er14 _ _ (by omega)).trans vr1
  replace vy2 : y14 (o + 2) = some (.inr (0, 5450)) := (ey14 _ (by omega)).trans vy2
  replace vr2 : R14 o 3 = some (o + 2) := (er14 _ _ (by omega)).trans vr2
  replace vy3 : y14 (o + 3) = some (.inr (0, 10900)) := (ey14 _ (by omega)).trans vy3
  replace vr3 : R14 o 4 = some (o + 3) := (er14 _ _ (by omega)).trans vr3
  replace vy4 : y14 (o + 4) = some (.inr (2, 2)) := (ey14 _ (by omega)).trans vy4
  replace vr4 : R14 o 5 = some (o + 4) := (er14 _ _ (by omega)).trans vr4
  replace vy5 : y14 (o + 5) = some (.inr (0, 360)) := (ey14 _ (by omega)).trans vy5
  replace vr5 : R14 o 6 = some (o + 5) := (er14 _ _ (by omega)).trans vr5
  replace vy6 : y14 (o + 6) = some (.inr (0, 16)) := (ey14 _ (by omega)).trans vy6
  replace vr6 : R14 o 7 = some (o + 6) := (er14 _ _ (by omega)).trans vr6
  replace vy7 : y14 (o + 7) = some (.inr (0, 320)) := (ey14 _ (by omega)).trans vy7
  replace vr7 : R14 o 9 = some (o + 7) := (er14 _ _ (by omega)).trans vr7
  replace vy8 : y14 (o + 8) = some (.inr (0, 16)) := (ey14 _ (by omega)).trans vy8
  replace vr8 : R14 o 10 = some (o + 8) := (er14 _ _ (by omega)).trans vr8
  replace vy9 : y14 (o + 9) = some (.inr (0, 400)) := (ey14 _ (by omega)).trans vy9
  replace vr9 : R14 o 12 = some (o + 9) := (er14 _ _ (by omega)).trans vr9
  replace vy11 : y14 (o + 10) = some (.inr (0, 96)) := (ey14 _ (by omega)).trans vy11
  replace vr11 : R14 o 22 = some (o + 10) := (er14 _ _ (by omega)).trans vr11
  replace vy12 : y14 (o + 11) = some (.inr (0, 400)) := (ey14 _ (by omega)).trans vy12
  replace vr12 : R14 o 24 = some (o + 11) := (er14 _ _ (by omega)).trans vr12
  replace vy13 : y14 (o + 12) = some (.inr (0, 400)) := (ey14 _ (by omega)).trans vy13
  replace vr13 : R14 o 25 = some (o + 12) := (er14 _ _ (by omega)).trans vr13
  replace Y0 : ∀ a, a ≤ o → y14 a = y a := fun a h => (ey14 a (by omega)).trans (Y0 a h)
  replace hyo : y14 o = some (.inl 11) := (ey14 o (by omega)).trans hyo
  replace G0 : ∀ a j, a < o → R14 a j = R a j := fun a j h => (er14 a j (by omega)).trans (G0 a j h)
  refine sm_in (sm_in (sm_in (And.intro (by decide) (And.intro (by decide) (And.intro (Nat.le_of_ble_eq_true rfl) (And.intro (Nat.le_of_ble_eq_true rfl) (sm_in (And.intro ((sm_up_ne (by omega)).trans hyo) (?_)))))))))
  show sm_W ex d 18 1683 123 129 [some (.ref o)] [] (o + 15, sm_up y14 (o + 14) (some (.inr (0, 400))), (sm_st I o 18 (-1)), L, sm_st R14 o 28 (some (o + 14))) Q
  have ey15 : ∀ a, a < o + 14 → (sm_up y14 (o + 14) (some (.inr (0, 400)))) a = y14 a := fun a h => sm_up_ne (by omega)
  have vy15 : (sm_up y14 (o + 14) (some (.inr (0, 400)))) (o + 14) = some (.inr (0, 400)) := sm_up_s
  have er15 : ∀ a j, ¬ (a = o ∧ j = 28) → (sm_st R14 o 28 (some (o + 14))) a j = R14 a j := fun a j h => sm_st_or _ _ (by omega)
  have vr15 : (sm_st R14 o 28 (some (o + 14))) o 28 = some (o + 14) := sm_st_s _ _ _ _
  generalize sm_up y14 (o + 14) (some (.inr (0, 400))) = y15 at ey15 vy15 ⊢
  generalize sm_st R14 o 28 (some (o + 14)) = R15 at er15 vr15 ⊢
  replace vy1 : y15 (o + 1) = some (.inr (0, 7)) := (ey15 _ (by omega)).trans vy1
  replace vr1 : R15 o 2 = some (o + 1) := (er15 _ _ (by omega)).trans vr1
  replace vy2 : y15 (o + 2) = some (.inr (0, 5450)) := (ey15 _ (by omega)).trans vy2
  replace vr2 : R15 o 3 = some (o + 2) := (er15 _ _ (by omega)).trans vr2
  replace vy3 : y15 (o + 3) = some (.inr (0, 10900)) := (ey15 _ (by omega)).trans vy3
  replace vr3 : R15 o 4 = some (o + 3) := (er15 _ _ (by omega)).trans vr3
  replace vy4 : y15 (o + 4) = some (.inr (2, 2)) := (ey15 _ (by omega)).trans vy4
  replace vr4 : R15 o 5 = some (o + 4) := (er15 _ _ (by omega)).trans vr4
  replace vy5 : y15 (o + 5) = some (.inr (0, 360)) := (ey15 _ (by omega)).trans vy5
  replace vr5 : R15 o 6 = some (o + 5) := (er15 _ _ (by omega)).trans vr5
  replace vy6 : y15 (o + 6) = some (.inr (0, 16)) := (ey15 _ (by omega)).trans vy6
  replace vr6 : R15 o 7 = some (o + 6) := (er15 _ _ (by omega)).trans vr6
  replace vy7 : y15 (o + 7) = some (.inr (0, 320)) := (ey15 _ (by omega)).trans vy7
  replace vr7 : R15 o 9 = some (o + 7) := (er15 _ _ (by omega)).trans vr7
  replace vy8 : y15 (o + 8) = some (.inr (0, 16)) := (ey15 _ (by omega)).trans vy8
  replace vr8 : R15 o 10 = some (o + 8) := (er15 _ _ (by omega)).trans vr8
  replace vy9 : y15 (o + 9) = some (.inr (0, 400)) := (ey15 _ (by omega)).trans vy9
  replace vr9 : R15 o 12 = some (o + 9) := (er15 _ _ (by omega)).trans vr9
  replace vy11 : y15 (o + 10) = some (.inr (0, 96)) := (ey15 _ (by omega)).trans vy11
  replace vr11 : R15 o 22 = some (o + 10) := (er15 _ _ (by omega)).trans vr11
  replace vy12 : y15 (o + 11) = some (.inr (0, 400)) := (ey15 _ (by omega)).trans vy12
  replace vr12 : R15 o 24 = some (o + 11) := (er15 _ _ (by omega)).trans vr12
  replace vy13 : y15 (o + 12) = some (.inr (0, 400)) := (ey15 _ (by omega)).trans vy13
  replace vr13 : R15 o 25 = some (o + 12) := (er15 _ _ (by omega)).trans vr13
  replace vy14 : y15 (o + 13) = some (.inr (0, 400)) := (ey15 _ (by omega)).trans vy14
  replace vr14 : R15 o 27 = some (o + 13) := (er15 _ _ (by omega)).trans vr14
  replace Y0 : ∀ a, a ≤ o → y15 a = y a := fun a h => (ey15 a (by omega)).trans (Y0 a h)
  replace hyo : y15 o = some (.inl 11) := (ey15 o (by omega)).trans hyo
  replace G0 : ∀ a j, a < o → R15 a j = R a j := fun a j h => (er15 a j (by omega)).trans (G0 a j h)
  refine sm_in (sm_in (sm_in (And.intro (by decide) (And.intro (by decide) (And.intro (Nat.le_of_ble_eq_true rfl) (And.intro (Nat.le_of_ble_eq_true rfl) (sm_in (And.intro rfl (sm_in (sm_in (sm_in (Exists.intro 8 (And.intro sm_up_s (And.intro (sm_lin (by decide)) (sm_in (And.intro rfl (sm_in (sm_in (sm_in (Exists.intro 8 (And.intro sm_up_s (And.intro (sm_lin (by decide)) (sm_in (And.intro rfl (sm_in (sm_in (sm_in (Exists.intro 8 (And.intro sm_up_s (And.intro (sm_lin (by decide)) (sm_in (And.intro rfl (sm_in (sm_in (sm_in (Exists.intro 8 (And.intro sm_up_s (And.intro (sm_lin (by decide)) (sm_in (And.intro rfl (sm_in (sm_in (sm_in (Exists.intro 8 (And.intro sm_up_s (And.intro (sm_lin (by decide)) (sm_in (And.intro rfl (sm_in (sm_in (sm_in (Exists.intro 8 (And.intro sm_up_s (And.intro (sm_lin (by decide)) (sm_in (And.intro rfl (sm_in (sm_in (sm_in (Exists.intro 8 (And.intro sm_up_s (And.intro (sm_lin (by decide)) (sm_in (And.intro rfl (sm_in (sm_in (sm_in (Exists.intro 8 (And.intro sm_up_s (And.intro (sm_lin (by decide)) (sm_in (And.intro ((sm_up_ne (by omega)).trans hyo) (?_)))))))))))))))))))))))))))))))))))))))))))))))))))))))))))))))))))))))))
  show sm_W ex d 17 1675 123 187 [some (.ref o)] [] (o + 16, sm_up y15 (o + 15) (some (.inr (1, 8))), (sm_st I o 18 (-1)), (sm_st (sm_st (sm_st (sm_st (sm_st (sm_st (sm_st (sm_st L (o + 15) 0 13358) (o + 15) 1 277892) (o + 15) 2 21285028) (o + 15) 3 267652) (o + 15) 4 16392370) (o + 15) 5 719725925) (o + 15) 6 278194) (o + 15) 7 24865546418), sm_st R15 o 31 (some (o + 15))) Q
  have ey16 : ∀ a, a < o + 15 → (sm_up y15 (o + 15) (some (.inr (1, 8)))) a = y15 a := fun a h => sm_up_ne (by omega)
  have vy16 : (sm_up y15 (o + 15) (some (.inr (1, 8)))) (o + 15) = some (.inr (1, 8)) := sm_up_s
  have er16 : ∀ a j, ¬ (a = o ∧ j = 31) → (sm_st R15 o 31 (some (o + 15))) a j = R15 a j := fun a j h => sm_st_or _ _ (by omega)
  have vr16 : (sm_st R15 o 31 (some (o + 15))) o 31 = some (o + 15) := sm_st_s _ _ _ _
  generalize sm_up y15 (o + 15) (some (.inr (1, 8))) = y16 at ey16 vy16 ⊢
  generalize sm_st R15 o 31 (some (o + 15)) = R16 at er16 vr16 ⊢
  replace vy1 : y16 (o + 1) = some (.inr (0, 7)) := (ey16 _ (by omega)).trans vy1
  replace vr1 : R16 o 2 = some (o + 1) := (er16 _ _ (by omega)).trans vr1
  replace vy2 : y16 (o + 2) = some (.inr (0, 5450)) := (ey16 _ (by omega)).trans vy2
  replace vr2 : R16 o 3 = some (o + 2) := (er16 _ _ (by omega)).trans vr2
  replace vy3 : y16 (o + 3) = some (.inr (0, 10900)) := (ey16 _ (by omega)).trans vy3
  replace vr3 : R16 o 4 = some (o + 3) := (er16 _ _ (by omega)).trans vr3
  replace vy4 : y16 (o + 4) = some (.inr (2, 2)) := (ey16 _ (by omega)).trans vy4
  replace vr4 : R16 o 5 = some (o + 4) := (er16 _ _ (by omega)).trans vr4
  replace vy5 : y16 (o + 5) = some (.inr (0, 360)) := (ey16 _ (by omega)).trans vy5
  replace vr5 : R16 o 6 = some (o + 5) := (er16 _ _ (by omega)).trans vr5
  replace vy6 : y16 (o + 6) = some (.inr (0, 16)) := (ey16 _ (by omega)).trans vy6
  replace vr6 : R16 o 7 = some (o + 6) := (er16 _ _ (by omega)).trans vr6
  replace vy7 : y16 (o + 7) = some (.inr (0, 320)) := (ey16 _ (by omega)).trans vy7
  replace vr7 : R16 o 9 = some (o + 7) := (er16 _ _ (by omega)).trans vr7
  replace vy8 : y16 (o + 8) = some (.inr (0, 16)) := (ey16 _ (by omega)).trans vy8
  replace vr8 : R16 o 10 = some (o + 8) := (er16 _ _ (by omega)).trans vr8
  replace vy9 : y16 (o + 9) = some (.inr (0, 400)) := (ey16 _ (by omega)).trans vy9
  replace vr9 : R16 o 12 = some (o + 9) := (er16 _ _ (by omega)).trans vr9
  replace vy11 : y16 (o + 10) = some (.inr (0, 96)) := (ey16 _ (by omega)).trans vy11
  replace vr11 : R16 o 22 = some (o + 10) := (er16 _ _ (by omega)).trans vr11
  replace vy12 : y16 (o + 11) = some (.inr (0, 400)) := (ey16 _ (by omega)).trans vy12
  replace vr12 : R16 o 24 = some (o + 11) := (er16 _ _ (by omega)).trans vr12
  replace vy13 : y16 (o + 12) = some (.inr (0, 400)) := (ey16 _ (by omega)).trans vy13
  replace vr13 : R16 o 25 = some (o + 12) := (er16 _ _ (by omega)).trans vr13
  replace vy14 : y16 (o + 13) = some (.inr (0, 400)) := (ey16 _ (by omega)).trans vy14
  replace vr14 : R16 o 27 = some (o + 13) := (er16 _ _ (by omega)).trans vr14
  replace vy15 : y16 (o + 14) = some (.inr (0, 400)) := (ey16 _ (by omega)).trans vy15
  replace vr15 : R16 o 28 = some (o + 14) := (er16 _ _ (by omega)).trans vr15
  replace Y0 : ∀ a, a ≤ o → y16 a = y a := fun a h => (ey16 a (by omega)).trans (Y0 a h)
  replace hyo : y16 o = some (.inl 11) := (ey16 o (by omega)).trans hyo
  replace G0 : ∀ a j, a < o → R16 a j = R a j := fun a j h => (er16 a j (by omega)).trans (G0 a j h)
  refine sm_in (sm_in (sm_in (And.intro (by decide) (And.intro (by decide) (And.intro (Nat.le_of_ble_eq_true rfl) (And.intro (Nat.le_of_ble_eq_true rfl) (sm_in (And.intro rfl (sm_in (sm_in (sm_in (Exists.intro 7 (And.intro sm_up_s (And.intro (sm_lin (by decide)) (sm_in (And.intro rfl (sm_in (sm_in (sm_in (Exists.intro 7 (And.intro sm_up_s (And.intro (sm_lin (by decide)) (sm_in (And.intro rfl (sm_in (sm_in (sm_in (Exists.intro 7 (And.intro sm_up_s (And.intro (sm_lin (by decide)) (sm_in (And.intro rfl (sm_in (sm_in (sm_in (Exists.intro 7 (And.intro sm_up_s (And.intro (sm_lin (by decide)) (sm_in (And.intro rfl (sm_in (sm_in (sm_in (Exists.intro 7 (And.intro sm_up_s (And.intro (sm_lin (by decide)) (sm_in (And.intro rfl (sm_in (sm_in (sm_in (Exists.intro 7 (And.intro sm_up_s (And.intro (sm_lin (by decide)) (sm_in (And.intro rfl (sm_in (sm_in (sm_in (Exists.intro 7 (And.intro sm_up_s (And.intro (sm_lin (by decide)) (sm_in (And.intro ((sm_up_ne (by omega)).trans hyo) (?_)))))))))))))))))))))))))))))))))))))))))))))))))))))))))))))))))
  show sm_W ex d 16 1668 123 238 [some (.ref o)] [] (o + 17, sm_up y16 (o + 16) (some (.inr (1, 7))), (sm_st I o 18 (-1)), (sm_st (sm_st (sm_st (sm_st (sm_st (sm_st (sm_st (sm_st (sm_st (sm_st (sm_st (sm_st (sm_st (sm_st (sm_st L (o + 15) 0 13358) (o + 15) 1 277892) (o + 15) 2 21285028) (o + 15) 3 267652) (o + 15) 4 16392370) (o + 15) 5 719725925) (o + 15) 6 278194) (o + 15) 7 24865546418) (o + 16) 0 278194) (o + 16) 1 146885) (o + 16) 2 404362868) (o + 16) 3 688) (o + 16) 4 267652) (o + 16) 5 6452) (o + 16) 6 21285028), sm_st R16 o 32 (some (o + 16))) Q
  have ey17 : ∀ a, a < o + 16 → (sm_up y16 (o + 16) (some (.inr (1, 7)))) a = y16 a := fun a h => sm_up_ne (by omega)
  have vy17 : (sm_up y16 (o + 16) (some (.inr (1, 7)))) (o + 16) = some (.inr (1, 7)) := sm_up_s
  have er17 : ∀ a j, ¬ (a = o ∧ j = 32) → (sm_st R16 o 32 (some (o + 16))) a j = R16 a j := fun a j h => sm_st_or _ _ (by omega)
  have vr17 : (sm_st R16 o 32 (some (o + 16))) o 32 = some (o + 16) := sm_st_s _ _ _ _
  generalize sm_up y16 (o + 16) (some (.inr (1, 7))) = y17 at ey17 vy17 ⊢
  generalize sm_st R16 o 32 (some (o + 16)) = R17 at er17 vr17 ⊢
  replace vy1 : y17 (o + 1) = some (.inr (0, 7)) := (ey17 _ (by omega)).trans vy1
  replace vr1 : R17 o 2 = some (o + 1) := (er17 _ _ (by omega)).trans vr1
  replace vy2 : y17 (o + 2) = some (.inr (0, 5450)) := (ey17 _ (by omega)).trans vy2
  replace vr2 : R17 o 3 = some (o + 2) := (er17 _ _ (by omega)).trans vr2
  replace vy3 : y17 (o + 3) = some (.inr (0, 10900)) := (ey17 _ (by omega)).trans vy3
  replace vr3 : R17 o 4 = some (o + 3) := (er17 _ _ (by omega)).trans vr3
  replace vy4 : y17 (o + 4) = some (.inr (2, 2)) := (ey17 _ (by omega)).trans vy4
  replace vr4 : R17 o 5 = some (o + 4) := (er17 _ _ (by omega)).trans vr4
  replace vy5 : y17 (o + 5) = some (.inr (0, 360)) := (ey17 _ (by omega)).trans vy5
  replace vr5 : R17 o 6 = some (o + 5) := (er17 _ _ (by omega)).trans vr5
  replace vy6 : y17 (o + 6) = some (.inr (0, 16)) := (ey17 _ (by omega)).trans vy6
  replace vr6 : R17 o 7 = some (o + 6) := (er17 _ _ (by omega)).trans vr6
  replace vy7 : y17 (o + 7) = some (.inr (0, 320)) := (ey17 _ (by omega)).trans vy7
  replace vr7 : R17 o 9 = some (o + 7) := (er17 _ _ (by omega)).trans vr7
  replace vy8 : y17 (o + 8) = some (.inr (0, 16)) := (ey17 _ (by omega)).trans vy8
  replace vr8 : R17 o 10 = some (o + 8) := (er17 _ _ (by omega)).trans vr8
  replace vy9 : y17 (o + 9) = some (.inr (0, 400)) := (ey17 _ (by omega)).trans vy9
  replace vr9 : R17 o 12 = some (o + 9) := (er17 _ _ (by omega)).trans vr9
  replace vy11 : y17 (o + 10) = some (.inr (0, 96)) := (ey17 _ (by omega)).trans vy11
  replace vr11 : R17 o 22 = some (o + 10) := (er17 _ _ (by omega)).trans vr11
  replace vy12 : y17 (o + 11) = some (.inr (0, 400)) := (ey17 _ (by omega)).trans vy12
  replace vr12 : R17 o 24 = some (o + 11) := (er17 _ _ (by omega)).trans vr12
  replace vy13 : y17 (o + 12) = some (.inr (0, 400)) := (ey17 _ (by omega)).trans vy13
  replace vr13 : R17 o 25 = some (o + 12) := (er17 _ _ (by omega)).trans vr13
  replace vy14 : y17 (o + 13) = some (.inr (0, 400)) := (ey17 _ (by omega)).trans vy14
  replace vr14 : R17 o 27 = some (o + 13) := (er17 _ _ (by omega)).trans vr14
  replace vy15 : y17 (o + 14) = some (.inr (0, 400)) := (ey17 _ (by omega)).trans vy15
  replace vr15 : R17 o 28 = some (o + 14) := (er17 _ _ (by omega)).trans vr15
  replace vy16 : y17 (o + 15) = some (.inr (1, 8)) := (ey17 _ (by omega)).trans vy16
  replace vr16 : R17 o 31 = some (o + 15) := (er17 _ _ (by omega)).trans vr16
  replace Y0 : ∀ a, a ≤ o → y17 a = y a := fun a h => (ey17 a (by omega)).trans (Y0 a h)
  replace hyo : y17 o = some (.inl 11) := (ey17 o (by omega)).trans hyo
  replace G0 : ∀ a j, a < o → R17 a j = R a j := fun a j h => (er17 a j (by omega)).trans (G0 a j h)
  refine sm_in (sm_in (sm_in (And.intro (by decide) (And.intro (by decide) (And.intro (Nat.le_of_ble_eq_true rfl) (And.intro (Nat.le_of_ble_eq_true rfl) (sm_in (And.intro rfl (sm_in (sm_in (sm_in (Exists.intro 4 (And.intro sm_up_s (And.intro (sm_lin (by decide)) (sm_in (And.intro rfl (sm_in (sm_in (sm_in (Exists.intro 4 (And.intro sm_up_s (And.intro (sm_lin (by decide)) (sm_in (And.intro rfl (sm_in (sm_in (sm_in (Exists.intro 4 (And.intro sm_up_s (And.intro (sm_lin (by decide)) (sm_in (And.intro rfl (sm_in (sm_in (sm_in (Exists.intro 4 (And.intro sm_up_s (And.intro (sm_lin (by decide)) (sm_in (And.intro ((sm_up_ne (by omega)).trans hyo) (?_)))))))))))))))))))))))))))))))))))))))))
  show sm_W ex d 15 1664 123 269 [some (.ref o)] [] (o + 18, sm_up y17 (o + 17) (some (.inr (1, 4))), (sm_st I o 18 (-1)), (sm_st (sm_st (sm_st (sm_st (sm_st (sm_st (sm_st (sm_st (sm_st (sm_st (sm_st (sm_st (sm_st (sm_st (sm_st (sm_st (sm_st (sm_st (sm_st L (o + 15) 0 13358) (o + 15) 1 277892) (o + 15) 2 21285028) (o + 15) 3 267652) (o + 15) 4 16392370) (o + 15) 5 719725925) (o + 15) 6 278194) (o + 15) 7 24865546418) (o + 16) 0 278194) (o + 16) 1 146885) (o + 16) 2 404362868) (o + 16) 3 688) (o + 16) 4 267652) (o + 16) 5 6452) (o + 16) 6 21285028) (o + 17) 0 21285043) (o + 17) 1 19058323) (o + 17) 2 15556971699) (o + 17) 3 67155), sm_st R17 o 33 (some (o + 17))) Q
  have ey18 : ∀ a, a < o + 17 → (sm_up y17 (o + 17) (some (.inr (1, 4)))) a = y17 a := fun a h => sm_up_ne (by omega)
  have vy18 : (sm_up y17 (o + 17) (some (.inr (1, 4)))) (o + 17) = some (.inr (1, 4)) := sm_up_s
  have er18 : ∀ a j, ¬ (a = o ∧ j = 33) → (sm_st R17 o 33 (some (o + 17))) a j = R17 a j := fun a j h => sm_st_or _ _ (by omega)
  have vr18 : (sm_st R17 o 33 (some (o + 17))) o 33 = some (o + 17) := sm_st_s _ _ _ _
  generalize sm_up y17 (o + 17) (some (.inr (1, 4))) = y18 at ey18 vy18 ⊢
  generalize sm_st R17 o 33 (some (o + 17)) = R18 at er18 vr18 ⊢
  replace vy1 : y18 (o + 1) = some (.inr (0, 7)) := (ey18 _ (by omega)).trans vy1
  replace vr1 : R18 o 2 = some (o + 1) := (er18 _ _ (by omega)).trans vr1
  replace vy2 : y18 (o + 2) = some (.inr (0, 5450)) := (ey18 _ (by omega)).trans vy2
  replace vr2 : R18 o 3 = some (o + 2) := (er18 _ _ (by omega)).trans vr2
  replace vy3 : y18 (o + 3) = some (.inr (0, 10900)) := (ey18 _ (by omega)).trans vy3
  replace vr3 : R18 o 4 = some (o + 3) := (er18 _ _ (by omega)).trans vr3
  replace vy4 : y18 (o + 4) = some (.inr (2, 2)) := (ey18 _ (by omega)).trans vy4
  replace vr4 : R18 o 5 = some (o + 4) := (er18 _ _ (by omega)).trans vr4
  replace vy5 : y18 (o + 5) = some (.inr (0, 360)) := (ey18 _ (by omega)).trans vy5
  replace vr5 : R18 o 6 = some (o + 5) := (er18 _ _ (by omega)).trans vr5
  replace vy6 : y18 (o + 6) = some (.inr (0, 16)) := (ey18 _ (by omega)).trans vy6
  replace vr6 : R18 o 7 = some (o + 6) := (er18 _ _ (by omega)).trans vr6
  replace vy7 : y18 (o + 7) = some (.inr (0, 320)) := (ey18 _ (by omega)).trans vy7
  replace vr7 : R18 o 9 = some (o + 7) := (er18 _ _ (by omega)).trans vr7
  replace vy8 : y18 (o + 8) = some (.inr (0, 16)) := (ey18 _ (by omega)).trans vy8
  replace vr8 : R18 o 10 = some (o + 8) := (er18 _ _ (by omega)).trans vr8
  replace vy9 : y18 (o + 9) = some (.inr (0, 400)) := (ey18 _ (by omega)).trans vy9
  replace vr9 : R18 o 12 = some (o + 9) := (er18 _ _ (by omega)).trans vr9
  replace vy11 : y18 (o + 10) = some (.inr (0, 96)) := (ey18 _ (by omega)).trans vy11
  replace vr11 : R18 o 22 = some (o + 10) := (er18 _ _ (by omega)).trans vr11
  replace vy12 : y18 (o + 11) = some (.inr (0, 400)) := (ey18 _ (by omega)).trans vy12
  replace vr12 : R18 o 24 = some (o + 11) := (er18 _ _ (by omega)).trans vr12
  replace vy13 : y18 (o + 12) = some (.inr (0, 400)) := (ey18 _ (by omega)).trans vy13
  replace vr13 : R18 o 25 = some (o + 12) := (er18 _ _ (by omega)).trans vr13
  replace vy14 : y18 (o + 13) = some (.inr (0, 400)) := (ey18 _ (by omega)).trans vy14
  replace vr14 : R18 o 27 = some (o + 13) := (er18 _ _ (by omega)).trans vr14
  replace vy15 : y18 (o + 14) = some (.inr (0, 400)) := (ey18 _ (by omega)).trans vy15
  replace vr15 : R18 o 28 = some (o + 14) := (er18 _ _ (by omega)).trans vr15
  replace vy16 : y18 (o + 15) = some (.inr (1, 8)) := (ey18 _ (by omega)).trans vy16
  replace vr16 : R18 o 31 = some (o + 15) := (er18 _ _ (by omega)).trans vr16
  replace vy17 : y18 (o + 16) = some (.inr (1, 7)) := (ey18 _ (by omega)).trans vy17
  replace vr17 : R18 o 32 = some (o + 16) := (er18 _ _ (by omega)).trans vr17
  replace Y0 : ∀ a, a ≤ o → y18 a = y a := fun a h => (ey18 a (by omega)).trans (Y0 a h)
  replace hyo : y18 o = some (.inl 11) := (ey18 o (by omega)).trans hyo
  replace G0 : ∀ a j, a < o → R18 a j = R a j := fun a j h => (er18 a j (by omega)).trans (G0 a j h)
  refine sm_in (sm_in (sm_in (And.intro (by decide) (And.intro (by decide) (And.intro (Nat.le_of_ble_eq_true rfl) (And.intro (Nat.le_of_ble_eq_true rfl) (sm_in (And.intro ((sm_up_ne (by omega)).trans hyo) (?_)))))))))
  show sm_W ex d 14 1651 123 277 [some (.ref o)] [] (o + 19, sm_up y18 (o + 18) (some (.inr (1, 13))), (sm_st I o 18 (-1)), (sm_st (sm_st (sm_st (sm_st (sm_st (sm_st (sm_st (sm_st (sm_st (sm_st (sm_st (sm_st (sm_st (sm_st (sm_st (sm_st (sm_st (sm_st (sm_st L (o + 15) 0 13358) (o + 15) 1 277892) (o + 15) 2 21285028) (o + 15) 3 267652) (o + 15) 4 16392370) (o + 15) 5 719725925) (o + 15) 6 278194) (o + 15) 7 24865546418) (o + 16) 0 278194) (o + 16) 1 146885) (o + 16) 2 404362868) (o + 16) 3 688) (o + 16) 4 267652) (o + 16) 5 6452) (o + 16) 6 21285028) (o + 17) 0 21285043) (o + 17) 1 19058323) (o + 17) 2 15556971699) (o + 17) 3 67155), sm_st R18 o 35 (some (o + 18))) Q
  have ey19 : ∀ a, a < o + 18 → (sm_up y18 (o + 18) (some (.inr (1, 13)))) a = y18 a := fun a h => sm_up_ne (by omega)
  have vy19 : (sm_up y18 (o + 18) (some (.inr (1, 13)))) (o + 18) = some (.inr (1, 13)) := sm_up_s
  have er19 : ∀ a j, ¬ (a = o ∧ j = 35) → (sm_st R18 o 35 (some (o + 18))) a j = R18 a j := fun a j h => sm_st_or _ _ (by omega)
  have vr19 : (sm_st R18 o 35 (some (o + 18))) o 35 = some (o + 18) := sm_st_s _ _ _ _
  generalize sm_up y18 (o + 18) (some (.inr (1, 13))) = y19 at ey19 vy19 ⊢
  generalize sm_st R18 o 35 (some (o + 18)) = R19 at er19 vr19 ⊢
  replace vy1 : y19 (o + 1) = some (.inr (0, 7)) := (ey19 _ (by omega)).trans vy1
  replace vr1 : R19 o 2 = some (o + 1) := (er19 _ _ (by omega)).trans vr1
  replace vy2 : y19 (o + 2) = some (.inr (0, 5450)) := (ey19 _ (by omega)).trans vy2
  replace vr2 : R19 o 3 = some (o + 2) := (er19 _ _ (by omega)).trans vr2
  replace vy3 : y19 (o + 3) = some (.inr (0, 10900)) := (ey19 _ (by omega)).trans vy3
  replace vr3 : R19 o 4 = some (o + 3) := (er19 _ _ (by omega)).trans vr3
  replace vy4 : y19 (o + 4) = some (.inr (2, 2)) := (ey19 _ (by omega)).trans vy4
  replace vr4 : R19 o 5 = some (o + 4) := (er19 _ _ (by omega)).trans vr4
  replace vy5 : y19 (o + 5) = some (.inr (0, 360)) := (ey19 _ (by omega)).trans vy5
  replace vr5 : R19 o 6 = some (o + 5) := (er19 _ _ (by omega)).trans vr5
  replace vy6 : y19 (o + 6) = some (.inr (0, 16)) := (ey19 _ (by omega)).trans vy6
  replace vr6 : R19 o 7 = some (o + 6) := (er19 _ _ (by omega)).trans vr6
  replace vy7 : y19 (o + 7) = some (.inr (0, 320)) := (ey19 _ (by omega)).trans vy7
  replace vr7 : R19 o 9 = some (o + 7) := (er19 _ _ (by omega)).trans vr7
  replace vy8 : y19 (o + 8) = some (.inr (0, 16)) := (ey19 _ (by omega)).trans vy8
  replace vr8 : R19 o 10 = some (o + 8) := (er19 _ _ (by omega)).trans vr8
  replace vy9 : y19 (o + 9) = some (.inr (0, 400)) := (ey19 _ (by omega)).trans vy9
  replace vr9 : R19 o 12 = some (o + 9) := (er19 _ _ (by omega)).trans vr9
  replace vy11 : y19 (o + 10) = some (.inr (0, 96)) := (ey19 _ (by omega)).trans vy11
  replace vr11 : R19 o 22 = some (o + 10) := (er19 _ _ (by omega)).trans vr11
  replace vy12 : y19 (o + 11) = some (.inr (0, 400)) := (ey19 _ (by omega)).trans vy12
  replace vr12 : R19 o 24 = some (o + 11) := (er19 _ _ (by omega)).trans vr12
  replace vy13 : y19 (o + 12) = some (.inr (0, 400)) := (ey19 _ (by omega)).trans vy13
  replace vr13 : R19 o 25 = some (o + 12) := (er19 _ _ (by omega)).trans vr13
  replace vy14 : y19 (o + 13) = some (.inr (0, 400)) := (ey19 _ (by omega)).trans vy14
  replace vr14 : R19 o 27 = some (o + 13) := (er19 _ _ (by omega)).trans vr14
  replace vy15 : y19 (o + 14) = some (.inr (0, 400)) := (ey19 _ (by omega)).trans vy15
  replace vr15 : R19 o 28 = some (o + 14) := (er19 _ _ (by omega)).trans vr15
  replace vy16 : y19 (o + 15) = some (.inr (1, 8)) := (ey19 _ (by omega)).trans vy16
  replace vr16 : R19 o 31 = some (o + 15) := (er19 _ _ (by omega)).trans vr16
  replace vy17 : y19 (o + 16) = some (.inr (1, 7)) := (ey19 _ (by omega)).trans vy17
  replace vr17 : R19 o 32 = some (o + 16) := (er19 _ _ (by omega)).trans vr17
  replace vy18 : y19 (o + 17) = some (.inr (1, 4)) := (ey19 _ (by omega)).trans vy18
  replace vr18 : R19 o 33 = some (o + 17) := (er19 _ _ (by omega)).trans vr18
  replace Y0 : ∀ a, a ≤ o → y19 a = y a := fun a h => (ey19 a (by omega)).trans (Y0 a h)
  replace hyo : y19 o = some (.inl 11) := (ey19 o (by omega)).trans hyo
  replace G0 : ∀ a j, a < o → R19 a j = R a j := fun a j h => (er19 a j (by omega)).trans (G0 a j h)
  refine sm_in (sm_in (sm_in (And.intro (by decide) (And.intro (by decide) (And.intro (Nat.le_of_ble_eq_true rfl) (And.intro (Nat.le_of_ble_eq_true rfl) (sm_in (And.intro ((sm_up_ne (by omega)).trans hyo) (?_)))))))))
  show sm_W ex d 13 1638 123 285 [some (.ref o)] [] (o + 20, sm_up y19 (o + 19) (some (.inr (1, 13))), (sm_st I o 18 (-1)), (sm_st (sm_st (sm_st (sm_st (sm_st (sm_st (sm_st (sm_st (sm_st (sm_st (sm_st (sm_st (sm_st (sm_st (sm_st (sm_st (sm_st (sm_st (sm_st L (o + 15) 0 13358) (o + 15) 1 277892) (o + 15) 2 21285028) (o + 15) 3 267652) (o + 15) 4 16392370) (o + 15) 5 719725925) (o + 15) 6 278194) (o + 15) 7 24865546418) (o + 16) 0 278194) (o + 16) 1 146885) (o + 16) 2 404362868) (o + 16) 3 688) (o + 16) 4 267652) (o + 16) 5 6452) (o + 16) 6 21285028) (o + 17) 0 21285043) (o + 17) 1 19058323) (o + 17) 2 15556971699) (o + 17) 3 67155), sm_st R19 o 36 (some (o + 19))) Q
  have ey20 : ∀ a, a < o + 19 → (sm_up y19 (o + 19) (some (.inr (1, 13)))) a = y19 a := fun a h => sm_up_ne (by omega)
  have vy20 : (sm_up y19 (o + 19) (some (.inr (1, 13)))) (o + 19) = some (.inr (1, 13)) := sm_up_s
  have er20 : ∀ a j, ¬ (a = o ∧ j = 36) → (sm_st R19 o 36 (some (o + 19))) a j = R19 a j := fun a j h => sm_st_or _ _ (by omega)
  have vr20 : (sm_st R19 o 36 (some (o + 19))) o 36 = some (o + 19) := sm_st_s _ _ _ _
  generalize sm_up y19 (o + 19) (some (.inr (1, 13))) = y20 at ey20 vy20 ⊢
  generalize sm_st R19 o 36 (some (o + 19)) = R20 at er20 vr20 ⊢
  replace vy1 : y20 (o + 1) = some (.inr (0, 7)) := (ey20 _ (by omega)).trans vy1
  replace vr1 : R20 o 2 = some (o + 1) := (er20 _ _ (by omega)).trans vr1
  replace vy2 : y20 (o + 2) = some (.inr (0, 5450)) := (ey20 _ (by omega)).trans vy2
  replace vr2 : R20 o 3 = some (o + 2) := (er20 _ _ (by omega)).trans vr2
  replace vy3 : y20 (o + 3) = some (.inr (0, 10900)) := (ey20 _ (by omega)).trans vy3
  replace vr3 : R20 o 4 = some (o + 3) := (er20 _ _ (by omega)).trans vr3
  replace vy4 : y20 (o + 4) = some (.inr (2, 2)) := (ey20 _ (by omega)).trans vy4
  replace vr4 : R20 o 5 = some (o + 4) := (er20 _ _ (by omega)).trans vr4
  replace vy5 : y20 (o + 5) = some (.inr (0, 360)) := (ey20 _ (by omega)).trans vy5
  replace vr5 : R20 o 6 = some (o + 5) := (er20 _ _ (by omega)).trans vr5
  replace vy6 : y20 (o + 6) = some (.inr (0, 16)) := (ey20 _ (by omega)).trans vy6
  replace vr6 : R20 o 7 = some (o + 6) := (er20 _ _ (by omega)).trans vr6
  replace vy7 : y20 (o + 7) = some (.inr (0, 320)) := (ey20 _ (by omega)).trans vy7
  replace vr7 : R20 o 9 = some (o + 7) := (er20 _ _ (by omega)).trans vr7
  replace vy8 : y20 (o + 8) = some (.inr (0, 16)) := (ey20 _ (by omega)).trans vy8
  replace vr8 : R20 o 10 = some (o + 8) := (er20 _ _ (by omega)).trans vr8
  replace vy9 : y20 (o + 9) = some (.inr (0, 400)) := (ey20 _ (by omega)).trans vy9
  replace vr9 : R20 o 12 = some (o + 9) := (er20 _ _ (by omega)).trans vr9
  replace vy11 : y20 (o + 10) = some (.inr (0, 96)) := (ey20 _ (by omega)).trans vy11
  replace vr11 : R20 o 22 = some (o + 10) := (er20 _ _ (by omega)).trans vr11
  replace vy12 : y20 (o + 11) = some (.inr (0, 400)) := (ey20 _ (by omega)).trans vy12
  replace vr12 : R20 o 24 = some (o + 11) := (er20 _ _ (by omega)).trans vr12
  replace vy13 : y20 (o + 12) = some (.inr (0, 400)) := (ey20 _ (by omega)).trans vy13
  replace vr13 : R20 o 25 = some (o + 12) := (er20 _ _ (by omega)).trans vr13
  replace vy14 : y20 (o + 13) = some (.inr (0, 400)) := (ey20 _ (by omega)).trans vy14
  replace vr14 : R20 o 27 = some (o + 13) := (er20 _ _ (by omega)).trans vr14
  replace vy15 : y20 (o + 14) = some (.inr (0, 400)) := (ey20 _ (by omega)).trans vy15
  replace vr15 : R20 o 28 = some (o + 14) := (er20 _ _ (by omega)).trans vr15
  replace vy16 : y20 (o + 15) = some (.inr (1, 8)) := (ey20 _ (by omega)).trans vy16
  replace vr16 : R20 o 31 = some (o + 15) := (er20 _ _ (by omega)).trans vr16
  replace vy17 : y20 (o + 16) = some (.inr (1, 7)) := (ey20 _ (by omega)).trans vy17
  replace vr17 : R20 o 32 = some (o + 16) := (er20 _ _ (by omega)).trans vr17
  replace vy18 : y20 (o + 17) = some (.inr (1, 4)) := (ey20 _ (by omega)).trans vy18
  replace vr18 : R20 o 33 = some (o + 17) := (er20 _ _ (by omega)).trans vr18
  replace vy19 : y20 (o + 18) = some (.inr (1, 13)) := (ey20 _ (by omega)).trans vy19
  replace vr19 : R20 o 35 = some (o + 18) := (er20 _ _ (by omega)).trans vr19
  replace Y0 : ∀ a, a ≤ o → y20 a = y a := fun a h => (ey20 a (by omega)).trans (Y0 a h)
  replace hyo : y20 o = some (.inl 11) := (ey20 o (by omega)).trans hyo
  replace G0 : ∀ a j, a < o → R20 a j = R a j := fun a j h => (er20 a j (by omega)).trans (G0 a j h)
  refine sm_in (sm_in (sm_in (And.intro (by decide) (And.intro (by decide) (And.intro (Nat.le_of_ble_eq_true rfl) (And.intro (Nat.le_of_ble_eq_true rfl) (sm_in (And.intro ((sm_up_ne (by omega)).trans hyo) (?_)))))))))
  show sm_W ex d 12 1238 123 294 [some (.ref o)] [] (o + 21, sm_up y20 (o + 20) (some (.inr (1, 400))), (sm_st I o 18 (-1)), (sm_st (sm_st (sm_st (sm_st (sm_st (sm_st (sm_st (sm_st (sm_st (sm_st (sm_st (sm_st (sm_st (sm_st (sm_st (sm_st (sm_st (sm_st (sm_st L (o + 15) 0 13358) (o + 15) 1 277892) (o + 15) 2 21285028) (o + 15) 3 267652) (o + 15) 4 16392370) (o + 15) 5 719725925) (o + 15) 6 278194) (o + 15) 7 24865546418) (o + 16) 0 278194) (o + 16) 1 146885) (o + 16) 2 404362868) (o + 16) 3 688) (o + 16) 4 267652) (o + 16) 5 6452) (o + 16) 6 21285028) (o + 17) 0 21285043) (o + 17) 1 19058323) (o + 17) 2 15556971699) (o + 17) 3 67155), sm_st R20 o 37 (some (o + 20))) Q
  have ey21 : ∀ a, a < o + 20 → (sm_up y20 (o + 20) (some (.inr (1, 400)))) a = y20 a := fun a h => sm_up_ne (by omega)
  have vy21 : (sm_up y20 (o + 20) (some (.inr (1, 400)))) (o + 20) = some (.inr (1, 400)) := sm_up_s
  have er21 : ∀ a j, ¬ (a = o ∧ j = 37) → (sm_st R20 o 37 (some (o + 20))) a j = R20 a j := fun a j h => sm_st_or _ _ (by omega)
  have vr21 : (sm_st R20 o 37 (some (o + 20))) o 37 = some (o + 20) := sm_st_s _ _ _ _
  generalize sm_up y20 (o + 20) (some (.inr (1, 400))) = y21 at ey21 vy21 ⊢
  generalize sm_st R20 o 37 (some (o + 20)) = R21 at er21 vr21 ⊢
  replace vy1 : y21 (o + 1) = some (.inr (0, 7)) := (ey21 _ (by omega)).trans vy1
  replace vr1 : R21 o 2 = some (o + 1) := (er21 _ _ (by omega)).trans vr1
  replace vy2 : y21 (o + 2) = some (.inr (0, 5450)) := (ey21 _ (by omega)).trans vy2
  replace vr2 : R21 o 3 = some (o + 2) := (er21 _ _ (by omega)).trans vr2
  replace vy3 : y21 (o + 3) = some (.inr (0, 10900)) := (ey21 _ (by omega)).trans vy3
  replace vr3 : R21 o 4 = some (o + 3) := (er21 _ _ (by omega)).trans vr3
  replace vy4 : y21 (o + 4) = some (.inr (2, 2)) := (ey21 _ (by omega)).trans vy4
  replace vr4 : R21 o 5 = some (o + 4) := (er21 _ _ (by omega)).trans vr4
  replace vy5 : y21 (o + 5) = some (.inr (0, 360)) := (ey21 _ (by omega)).trans vy5
  replace vr5 : R21 o 6 = some (o + 5) := (er21 _ _ (by omega)).trans vr5
  replace vy6 : y21 (o + 6) = some (.inr (0, 16)) := (ey21 _ (by omega)).trans vy6
  replace vr6 : R21 o 7 = some (o + 6) := (er21 _ _ (by omega)).trans vr6
  replace vy7 : y21 (o + 7) = some (.inr (0, 320)) := (ey21 _ (by omega)).trans vy7
  replace vr7 : R21 o 9 = some (o + 7) := (er21 _ _ (by omega)).trans vr7
  replace vy8 : y21 (o + 8) = some (.inr (0, 16)) := (ey21 _ (by omega)).trans vy8
  replace vr8 : R21 o 10 = some (o + 8) := (er21 _ _ (by omega)).trans vr8
  replace vy9 : y21 (o + 9) = some (.inr (0, 400)) := (ey21 _ (by omega)).trans vy9
  replace vr9 : R21 o 12 = some (o + 9) := (er21 _ _ (by omega)).trans vr9
  replace vy11 : y21 (o + 10) = some (.inr (0, 96)) := (ey21 _ (by omega)).trans vy11
  replace vr11 : R21 o 22 = some (o + 10) := (er21 _ _ (by omega)).trans vr11
  replace vy12 : y21 (o + 11) = some (.inr (0, 400)) := (ey21 _ (by omega)).trans vy12
  replace vr12 : R21 o 24 = some (o + 11) := (er21 _ _ (by omega)).trans vr12
  replace vy13 : y21 (o + 12) = some (.inr (0, 400)) := (ey21 _ (by omega)).trans vy13
  replace vr13 : R21 o 25 = some (o + 12) := (er21 _ _ (by omega)).trans vr13
  replace vy14 : y21 (o + 13) = some (.inr (0, 400)) := (ey21 _ (by omega)).trans vy14
  replace vr14 : R21 o 27 = some (o + 13) := (er21 _ _ (by omega)).trans vr14
  replace vy15 : y21 (o + 14) = some (.inr (0, 400)) := (ey21 _ (by omega)).trans vy15
  replace vr15 : R21 o 28 = some (o + 14) := (er21 _ _ (by omega)).trans vr15
  replace vy16 : y21 (o + 15) = some (.inr (1, 8)) := (ey21 _ (by omega)).trans vy16
  replace vr16 : R21 o 31 = some (o + 15) := (er21 _ _ (by omega)).trans vr16
  replace vy17 : y21 (o + 16) = some (.inr (1, 7)) := (ey21 _ (by omega)).trans vy17
  replace vr17 : R21 o 32 = some (o + 16) := (er21 _ _ (by omega)).trans vr17
  replace vy18 : y21 (o + 17) = some (.inr (1, 4)) := (ey21 _ (by omega)).trans vy18
  replace vr18 : R21 o 33 = some (o + 17) := (er21 _ _ (by omega)).trans vr18
  replace vy19 : y21 (o + 18) = some (.inr (1, 13)) := (ey21 _ (by omega)).trans vy19
  replace vr19 : R21 o 35 = some (o + 18) := (er21 _ _ (by omega)).trans vr19
  replace vy20 : y21 (o + 19) = some (.inr (1, 13)) := (ey21 _ (by omega)).trans vy20
  replace vr20 : R21 o 36 = some (o + 19) := (er21 _ _ (by omega)).trans vr20
  replace Y0 : ∀ a, a ≤ o → y21 a = y a := fun a h => (ey21 a (by omega)).trans (Y0 a h)
  replace hyo : y21 o = some (.inl 11) := (ey21 o (by omega)).trans hyo
  replace G0 : ∀ a j, a < o → R21 a j = R a j := fun a j h => (er21 a j (by omega)).trans (G0 a j h)
  refine sm_in (sm_in (sm_in (And.intro (by decide) (And.intro (by decide) (And.intro (Nat.le_of_ble_eq_true rfl) (And.intro (Nat.le_of_ble_eq_true rfl) (sm_in (And.intro ((sm_up_ne (by omega)).trans hyo) (?_)))))))))
  show sm_W ex d 11 1231 123 302 [some (.ref o)] [] (o + 22, sm_up y21 (o + 21) (some (.inr (0, 7))), (sm_st I o 18 (-1)), (sm_st (sm_st (sm_st (sm_st (sm_st (sm_st (sm_st (sm_st (sm_st (sm_st (sm_st (sm_st (sm_st (sm_st (sm_st (sm_st (sm_st (sm_st (sm_st L (o + 15) 0 13358) (o + 15) 1 277892) (o + 15) 2 21285028) (o + 15) 3 267652) (o + 15) 4 16392370) (o + 15) 5 719725925) (o + 15) 6 278194) (o + 15) 7 24865546418) (o + 16) 0 278194) (o + 16) 1 146885) (o + 16) 2 404362868) (o + 16) 3 688) (o + 16) 4 267652) (o + 16) 5 6452) (o + 16) 6 21285028) (o + 17) 0 21285043) (o + 17) 1 19058323) (o + 17) 2 15556971699) (o + 17) 3 67155), sm_st R21 o 41 (some (o + 21))) Q
  have ey22 : ∀ a, a < o + 21 → (sm_up y21 (o + 21) (some (.inr (0, 7)))) a = y21 a := fun a h => sm_up_ne (by omega)
  have vy22 : (sm_up y21 (o + 21) (some (.inr (0, 7)))) (o + 21) = some (.inr (0, 7)) := sm_up_s
  have er22 : ∀ a j, ¬ (a = o ∧ j = 41) → (sm_st R21 o 41 (some (o + 21))) a j = R21 a j := fun a j h => sm_st_or _ _ (by omega)
  have vr22 : (sm_st R21 o 41 (some (o + 21))) o 41 = some (o + 21) := sm_st_s _ _ _ _
  generalize sm_up y21 (o + 21) (some (.inr (0, 7))) = y22 at ey22 vy22 ⊢
  generalize sm_st R21 o 41 (some (o + 21)) = R22 at er22 vr22 ⊢
  replace vy1 : y22 (o + 1) = some (.inr (0, 7)) := (ey22 _ (by omega)).trans vy1
  replace vr1 : R22 o 2 = some (o + 1) := (er22 _ _ (by omega)).trans vr1
  replace vy2 : y22 (o + 2) = some (.inr (0, 5450)) := (ey22 _ (by omega)).trans vy2
  replace vr2 : R22 o 3 = some (o + 2) := (er22 _ _ (by omega)).trans vr2
  replace vy3 : y22 (o + 3) = some (.inr (0, 10900)) := (ey22 _ (by omega)).trans vy3
  replace vr3 : R22 o 4 = some (o + 3) := (er22 _ _ (by omega)).trans vr3
  replace vy4 : y22 (o + 4) = some (.inr (2, 2)) := (ey22 _ (by omega)).trans vy4
  replace vr4 : R22 o 5 = some (o + 4) := (er22 _ _ (by omega)).trans vr4
  replace vy5 : y22 (o + 5) = some (.inr (0, 360)) := (ey22 _ (by omega)).trans vy5
  replace vr5 : R22 o 6 = some (o + 5) := (er22 _ _ (by omega)).trans vr5
  replace vy6 : y22 (o + 6) = some (.inr (0, 16)) := (ey22 _ (by omega)).trans vy6
  replace vr6 : R22 o 7 = some (o + 6) := (er22 _ _ (by omega)).trans vr6
  replace vy7 : y22 (o + 7) = some (.inr (0, 320)) := (ey22 _ (by omega)).trans vy7
  replace vr7 : R22 o 9 = some (o + 7) := (er22 _ _ (by omega)).trans vr7
  replace vy8 : y22 (o + 8) = some (.inr (0, 16)) := (ey22 _ (by omega)).trans vy8
  replace vr8 : R22 o 10 = some (o + 8) := (er22 _ _ (by omega)).trans vr8
  replace vy9 : y22 (o + 9) = some (.inr (0, 400)) := (ey22 _ (by omega)).trans vy9
  replace vr9 : R22 o 12 = some (o + 9) := (er22 _ _ (by omega)).trans vr9
  replace vy11 : y22 (o + 10) = some (.inr (0, 96)) := (ey22 _ (by omega)).trans vy11
  replace vr11 : R22 o 22 = some (o + 10) := (er22 _ _ (by omega)).trans vr11
  replace vy12 : y22 (o + 11) = some (.inr (0, 400)) := (ey22 _ (by omega)).trans vy12
  replace vr12 : R22 o 24 = some (o + 11) := (er22 _ _ (by omega)).trans vr12
  replace vy13 : y22 (o + 12) = some (.inr (0, 400)) := (ey22 _ (by omega)).trans vy13
  replace vr13 : R22 o 25 = some (o + 12) := (er22 _ _ (by omega)).trans vr13
  replace vy14 : y22 (o + 13) = some (.inr (0, 400)) := (ey22 _ (by omega)).trans vy14
  replace vr14 : R22 o 27 = some (o + 13) := (er22 _ _ (by omega)).trans vr14
  replace vy15 : y22 (o + 14) = some (.inr (0, 400)) := (ey22 _ (by omega)).trans vy15
  replace vr15 : R22 o 28 = some (o + 14) := (er22 _ _ (by omega)).trans vr15
  replace vy16 : y22 (o + 15) = some (.inr (1, 8)) := (ey22 _ (by omega)).trans vy16
  replace vr16 : R22 o 31 = some (o + 15) := (er22 _ _ (by omega)).trans vr16
  replace vy17 : y22 (o + 16) = some (.inr (1, 7)) := (ey22 _ (by omega)).trans vy17
  replace vr17 : R22 o 32 = some (o + 16) := (er22 _ _ (by omega)).trans vr17
  replace vy18 : y22 (o + 17) = some (.inr (1, 4)) := (ey22 _ (by omega)).trans vy18
  replace vr18 : R22 o 33 = some (o + 17) := (er22 _ _ (by omega)).trans vr18
  replace vy19 : y22 (o + 18) = some (.inr (1, 13)) := (ey22 _ (by omega)).trans vy19
  replace vr19 : R22 o 35 = some (o + 18) := (er22 _ _ (by omega)).trans vr19
  replace vy20 : y22 (o + 19) = some (.inr (1, 13)) := (ey22 _ (by omega)).trans vy20
  replace vr20 : R22 o 36 = some (o + 19) := (er22 _ _ (by omega)).trans vr20
  replace vy21 : y22 (o + 20) = some (.inr (1, 400)) := (ey22 _ (by omega)).trans vy21
  replace vr21 : R22 o 37 = some (o + 20) := (er22 _ _ (by omega)).trans vr21
  replace Y0 : ∀ a, a ≤ o → y22 a = y a := fun a h => (ey22 a (by omega)).trans (Y0 a h)
  replace hyo : y22 o = some (.inl 11) := (ey22 o (by omega)).trans hyo
  replace G0 : ∀ a j, a < o → R22 a j = R a j := fun a j h => (er22 a j (by omega)).trans (G0 a j h)
  refine sm_in (sm_in (sm_in (And.intro (by decide) (And.intro (by decide) (And.intro (Nat.le_of_ble_eq_true rfl) (And.intro (Nat.le_of_ble_eq_true rfl) (sm_in (And.intro ((sm_up_ne (by omega)).trans hyo) (?_)))))))))
  show sm_W ex d 10 1111 123 310 [some (.ref o)] [] (o + 23, sm_up y22 (o + 22) (some (.inr (0, 120))), (sm_st I o 18 (-1)), (sm_st (sm_st (sm_st (sm_st (sm_st (sm_st (sm_st (sm_st (sm_st (sm_st (sm_st (sm_st (sm_st (sm_st (sm_st (sm_st (sm_st (sm_st (sm_st L (o + 15) 0 13358) (o + 15) 1 277892) (o + 15) 2 21285028) (o + 15) 3 267652) (o + 15) 4 16392370) (o + 15) 5 719725925) (o + 15) 6 278194) (o + 15) 7 24865546418) (o + 16) 0 278194) (o + 16) 1 146885) (o + 16) 2 404362868) (o + 16) 3 688) (o + 16) 4 267652) (o + 16) 5 6452) (o + 16) 6 21285028) (o + 17) 0 21285043) (o + 17) 1 19058323) (o + 17) 2 15556971699) (o + 17) 3 67155), sm_st R22 o 42 (some (o + 22))) Q
  have ey23 : ∀ a, a < o + 22 → (sm_up y22 (o + 22) (some (.inr (0, 120)))) a = y22 a := fun a h => sm_up_ne (by omega)
  have vy23 : (sm_up y22 (o + 22) (some (.inr (0, 120)))) (o + 22) = some (.inr (0, 120)) := sm_up_s
  have er23 : ∀ a j, ¬ (a = o ∧ j = 42) → (sm_st R22 o 42 (some (o + 22))) a j = R22 a j := fun a j h => sm_st_or _ _ (by omega)
  have vr23 : (sm_st R22 o 42 (some (o + 22))) o 42 = some (o + 22) := sm_st_s _ _ _ _
  generalize sm_up y22 (o + 22) (some (.inr (0, 120))) = y23 at ey23 vy23 ⊢
  generalize sm_st R22 o 42 (some (o + 22)) = R23 at er23 vr23 ⊢
  replace vy1 : y23 (o + 1) = some (.inr (0, 7)) := (ey23 _ (by omega)).trans vy1
  replace vr1 : R23 o 2 = some (o + 1) := (er23 _ _ (by omega)).trans vr1
  replace vy2 : y23 (o + 2) = some (.inr (0, 5450)) := (ey23 _ (by omega)).trans vy2
  replace vr2 : R23 o 3 = some (o + 2) := (er23 _ _ (by omega)).trans vr2
  replace vy3 : y23 (o + 3) = some (.inr (0, 10900)) := (ey23 _ (by omega)).trans vy3
  replace vr3 : R23 o 4 = some (o + 3) := (er23 _ _ (by omega)).trans vr3
  replace vy4 : y23 (o + 4) = some (.inr (2, 2)) := (ey23 _ (by omega)).trans vy4
  replace vr4 : R23 o 5 = some (o + 4) := (er23 _ _ (by omega)).trans vr4
  replace vy5 : y23 (o + 5) = some (.inr (0, 360)) := (ey23 _ (by omega)).trans vy5
  replace vr5 : R23 o 6 = some (o + 5) := (er23 _ _ (by omega)).trans vr5
  replace vy6 : y23 (o + 6) = some (.inr (0, 16)) := (ey23 _ (by omega)).trans vy6
  replace vr6 : R23 o 7 = some (o + 6) := (er23 _ _ (by omega)).trans vr6
  replace vy7 : y23 (o + 7) = some (.inr (0, 320)) := (ey23 _ (by omega)).trans vy7
  replace vr7 : R23 o 9 = some (o + 7) := (er23 _ _ (by omega)).trans vr7
  replace vy8 : y23 (o + 8) = some (.inr (0, 16)) := (ey23 _ (by omega)).trans vy8
  replace vr8 : R23 o 10 = some (o + 8) := (er23 _ _ (by omega)).trans vr8
  replace vy9 : y23 (o + 9) = some (.inr (0, 400)) := (ey23 _ (by omega)).trans vy9
  replace vr9 : R23 o 12 = some (o + 9) := (er23 _ _ (by omega)).trans vr9
  replace vy11 : y23 (o + 10) = some (.inr (0, 96)) := (ey23 _ (by omega)).trans vy11
  replace vr11 : R23 o 22 = some (o + 10) := (er23 _ _ (by omega)).trans vr11
  replace vy12 : y23 (o + 11) = some (.inr (0, 400)) := (ey23 _ (by omega)).trans vy12
  replace vr12 : R23 o 24 = some (o + 11) := (er23 _ _ (by omega)).trans vr12
  replace vy13 : y23 (o + 12) = some (.inr (0, 400)) := (ey23 _ (by omega)).trans vy13
  replace vr13 : R23 o 25 = some (o + 12) := (er23 _ _ (by omega)).trans vr13
  replace vy14 : y23 (o + 13) = some (.inr (0, 400)) := (ey23 _ (by omega)).trans vy14
  replace vr14 : R23 o 27 = some (o + 13) := (er23 _ _ (by omega)).trans vr14
  replace vy15 : y23 (o + 14) = some (.inr (0, 400)) := (ey23 _ (by omega)).trans vy15
  replace vr15 : R23 o 28 = some (o + 14) := (er23 _ _ (by omega)).trans vr15
  replace vy16 : y23 (o + 15) = some (.inr (1, 8)) := (ey23 _ (by omega)).trans vy16
  replace vr16 : R23 o 31 = some (o + 15) := (er23 _ _ (by omega)).trans vr16
  replace vy17 : y23 (o + 16) = some (.inr (1, 7)) := (ey23 _ (by omega)).trans vy17
  replace vr17 : R23 o 32 = some (o + 16) := (er23 _ _ (by omega)).trans vr17
  replace vy18 : y23 (o + 17) = some (.inr (1, 4)) := (ey23 _ (by omega)).trans vy18
  replace vr18 : R23 o 33 = some (o + 17) := (er23 _ _ (by omega)).trans vr18
  replace vy19 : y23 (o + 18) = some (.inr (1, 13)) := (ey23 _ (by omega)).trans vy19
  replace vr19 : R23 o 35 = some (o + 18) := (er23 _ _ (by omega)).trans vr19
  replace vy20 : y23 (o + 19) = some (.inr (1, 13)) := (ey23 _ (by omega)).trans vy20
  replace vr20 : R23 o 36 = some (o + 19) := (er23 _ _ (by omega)).trans vr20
  replace vy21 : y23 (o + 20) = some (.inr (1, 400)) := (ey23 _ (by omega)).trans vy21
  replace vr21 : R23 o 37 = some (o + 20) := (er23 _ _ (by omega)).trans vr21
  replace vy22 : y23 (o + 21) = some (.inr (0, 7)) := (ey23 _ (by omega)).trans vy22
  replace vr22 : R23 o 41 = some (o + 21) := (er23 _ _ (by omega)).trans vr22
  replace Y0 : ∀ a, a ≤ o → y23 a = y a := fun a h => (ey23 a (by omega)).trans (Y0 a h)
  replace hyo : y23 o = some (.inl 11) := (ey23 o (by omega)).trans hyo
  replace G0 : ∀ a j, a < o → R23 a j = R a j := fun a j h => (er23 a j (by omega)).trans (G0 a j h)
  refine sm_in (sm_in (sm_in (And.intro (by decide) (And.intro (by decide) (And.intro (Nat.le_of_ble_eq_true rfl) (And.intro (Nat.le_of_ble_eq_true rfl) (sm_in (And.intro ((sm_up_ne (by omega)).trans hyo) (?_)))))))))
  show sm_W ex d 9 1105 123 318 [some (.ref o)] [] (o + 24, sm_up y23 (o + 23) (some (.inr (0, 6))), (sm_st I o 18 (-1)), (sm_st (sm_st (sm_st (sm_st (sm_st (sm_st (sm_st (sm_st (sm_st (sm_st (sm_st (sm_st (sm_st (sm_st (sm_st (sm_st (sm_st (sm_st (sm_st L (o + 15) 0 13358) (o + 15) 1 277892) (o + 15) 2 21285028) (o + 15) 3 267652) (o + 15) 4 16392370) (o + 15) 5 719725925) (o + 15) 6 278194) (o + 15) 7 24865546418) (o + 16) 0 278194) (o + 16) 1 146885) (o + 16) 2 404362868) (o + 16) 3 688) (o + 16) 4 267652) (o + 16) 5 6452) (o + 16) 6 21285028) (o + 17) 0 21285043) (o + 17) 1 19058323) (o + 17) 2 15556971699) (o + 17) 3 67155), sm_st R23 o 43 (some (o + 23))) Q
  have ey24 : ∀ a, a < o + 23 → (sm_up y23 (o + 23) (some (.inr (0, 6)))) a = y23 a := fun a h => sm_up_ne (by omega)
  have vy24 : (sm_up y23 (o + 23) (some (.inr (0, 6)))) (o + 23) = some (.inr (0, 6)) := sm_up_s
  have er24 : ∀ a j, ¬ (a = o ∧ j = 43) → (sm_st R23 o 43 (some (o + 23))) a j = R23 a j := fun a j h => sm_st_or _ _ (by omega)
  have vr24 : (sm_st R23 o 43 (some (o + 23))) o 43 = some (o + 23) := sm_st_s _ _ _ _
  generalize sm_up y23 (o + 23) (some (.inr (0, 6))) = y24 at ey24 vy24 ⊢
  generalize sm_st R23 o 43 (some (o + 23)) = R24 at er24 vr24 ⊢
  replace vy1 : y24 (o + 1) = some (.inr (0, 7)) := (ey24 _ (by omega)).trans vy1
  replace vr1 : R24 o 2 = some (o + 1) := (er24 _ _ (by omega)).trans vr1
  replace vy2 : y24 (o + 2) = some (.inr (0, 5450)) := (ey24 _ (by omega)).trans vy2
  replace vr2 : R24 o 3 = some (o + 2) := (er24 _ _ (by omega)).trans vr2
  replace vy3 : y24 (o + 3) = some (.inr (0, 10900)) := (ey24 _ (by omega)).trans vy3
  replace vr3 : R24 o 4 = some (o + 3) := (er24 _ _ (by omega)).trans vr3
  replace vy4 : y24 (o + 4) = some (.inr (2, 2)) := (ey24 _ (by omega)).trans vy4
  replace vr4 : R24 o 5 = some (o + 4) := (er24 _ _ (by omega)).trans vr4
  replace vy5 : y24 (o + 5) = some (.inr (0, 360)) := (ey24 _ (by omega)).trans vy5
  replace vr5 : R24 o 6 = some (o + 5) := (er24 _ _ (by omega)).trans vr5
  replace vy6 : y24 (o + 6) = some (.inr (0, 16)) := (ey24 _ (by omega)).trans vy6
  replace vr6 : R24 o 7 = some (o + 6) := (er24 _ _ (by omega)).trans vr6
  replace vy7 : y24 (o + 7) = some (.inr (0, 320)) := (ey24 _ (by omega)).trans vy7
  replace vr7 : R24 o 9 = some (o + 7) := (er24 _ _ (by omega)).trans vr7
  replace vy8 : y24 (o + 8) = some (.inr (0, 16)) := (ey24 _ (by omega)).trans vy8
  replace vr8 : R24 o 10 = some (o + 8) := (er24 _ _ (by omega)).trans vr8
  replace vy9 : y24 (o + 9) = some (.inr (0, 400)) := (ey24 _ (by omega)).trans vy9
  replace vr9 : R24 o 12 = some (o + 9) := (er24 _ _ (by omega)).trans vr9
  replace vy11 : y24 (o + 10) = some (.inr (0, 96)) := (ey24 _ (by omega)).trans vy11
  replace vr11 : R24 o 22 = some (o + 10) := (er24 _ _ (by omega)).trans vr11
  replace vy12 : y24 (o + 11) = some (.inr (0, 400)) := (ey24 _ (by omega)).trans vy12
  replace vr12 : R24 o 24 = some (o + 11) := (er24 _ _ (by omega)).trans vr12
  replace vy13 : y24 (o + 12) = some (.inr (0, 400)) := (ey24 _ (by omega)).trans vy13
  replace vr13 : R24 o 25 = some (o + 12) := (er24 _ _ (by omega)).trans vr13
  replace vy14 : y24 (o + 13) = some (.inr (0, 400)) := (ey24 _ (by omega)).trans vy14
  replace vr14 : R24 o 27 = some (o + 13) := (er24 _ _ (by omega)).trans vr14
  replace vy15 : y24 (o + 14) = some (.inr (0, 400)) := (ey24 _ (by omega)).trans vy15
  replace vr15 : R24 o 28 = some (o + 14) := (er24 _ _ (by omega)).trans vr15
  replace vy16 : y24 (o + 15) = some (.inr (1, 8)) := (ey24 _ (by omega)).trans vy16
  replace vr16 : R24 o 31 = some (o + 15) := (er24 _ _ (by omega)).trans vr16
  replace vy17 : y24 (o + 16) = some (.inr (1, 7)) := (ey24 _ (by omega)).trans vy17
  replace vr17 : R24 o 32 = some (o + 16) := (er24 _ _ (by omega)).trans vr17
  replace vy18 : y24 (o + 17) = some (.inr (1, 4)) := (ey24 _ (by omega)).trans vy18
  replace vr18 : R24 o 33 = some (o + 17) := (er24 _ _ (by omega)).trans vr18
  replace vy19 : y24 (o + 18) = some (.inr (1, 13)) := (ey24 _ (by omega)).trans vy19
  replace vr19 : R24 o 35 = some (o + 18) := (er24 _ _ (by omega)).trans vr19
  replace vy20 : y24 (o + 19) = some (.inr (1, 13)) := (ey24 _ (by omega)).trans vy20
  replace vr20 : R24 o 36 = some (o + 19) := (er24 _ _ (by omega)).trans vr20
  replace vy21 : y24 (o + 20) = some (.inr (1, 400)) := (ey24 _ (by omega)).trans vy21
  replace vr21 : R24 o 37 = some (o + 20) := (er24 _ _ (by omega)).trans vr21
  replace vy22 : y24 (o + 21) = some (.inr (0, 7)) := (ey24 _ (by omega)).trans vy22
  replace vr22 : R24 o 41 = some (o + 21) := (er24 _ _ (by omega)).trans vr22
  replace vy23 : y24 (o + 22) = some (.inr (0, 120)) := (ey24 _ (by omega)).trans vy23
  replace vr23 : R24 o 42 = some (o + 22) := (er24 _ _ (by omega)).trans vr23
  replace Y0 : ∀ a, a ≤ o → y24 a = y a := fun a h => (ey24 a (by omega)).trans (Y0 a h)
  replace hyo : y24 o = some (.inl 11) := (ey24 o (by omega)).trans hyo
  replace G0 : ∀ a j, a < o → R24 a j = R a j := fun a j h => (er24 a j (by omega)).trans (G0 a j h)
  refine sm_in (sm_in (sm_in (And.intro (by decide) (And.intro (by decide) (And.intro (Nat.le_of_ble_eq_true rfl) (And.intro (Nat.le_of_ble_eq_true rfl) (sm_in (And.intro ((sm_up_ne (by omega)).trans hyo) (?_)))))))))
  show sm_W ex d 8 1099 123 326 [some (.ref o)] [] (o + 25, sm_up y24 (o + 24) (some (.inr (0, 6))), (sm_st I o 18 (-1)), (sm_st (sm_st (sm_st (sm_st (sm_st (sm_st (sm_st (sm_st (sm_st (sm_st (sm_st (sm_st (sm_st (sm_st (sm_st (sm_st (sm_st (sm_st (sm_st L (o + 15) 0 13358) (o + 15) 1 277892) (o + 15) 2 21285028) (o + 15) 3 267652) (o + 15) 4 16392370) (o + 15) 5 719725925) (o + 15) 6 278194) (o + 15) 7 24865546418) (o + 16) 0 278194) (o + 16) 1 146885) (o + 16) 2 404362868) (o + 16) 3 688) (o + 16) 4 267652) (o + 16) 5 6452) (o + 16) 6 21285028) (o + 17) 0 21285043) (o + 17) 1 19058323) (o + 17) 2 15556971699) (o + 17) 3 67155), sm_st R24 o 44 (some (o + 24))) Q
  have ey25 : ∀ a, a < o + 24 → (sm_up y24 (o + 24) (some (.inr (0, 6)))) a = y24 a := fun a h => sm_up_ne (by omega)
  have vy25 : (sm_up y24 (o + 24) (some (.inr (0, 6)))) (o + 24) = some (.inr (0, 6)) := sm_up_s
  have er25 : ∀ a j, ¬ (a = o ∧ j = 44) → (sm_st R24 o 44 (some (o + 24))) a j = R24 a j := fun a j h => sm_st_or _ _ (by omega)
  have vr25 : (sm_st R24 o 44 (some (o + 24))) o 44 = some (o + 24) := sm_st_s _ _ _ _
  generalize sm_up y24 (o + 24) (some (.inr (0, 6))) = y25 at ey25 vy25 ⊢
  generalize sm_st R24 o 44 (some (o + 24)) = R25 at er25 vr25 ⊢
  replace vy1 : y25 (o + 1) = some (.inr (0, 7)) := (ey25 _ (by omega)).trans vy1
  replace vr1 : R25 o 2 = some (o + 1) := (er25 _ _ (by omega)).trans vr1
  replace vy2 : y25 (o + 2) = some (.inr (0, 5450)) := (ey25 _ (by omega)).trans vy2
  replace vr2 : R25 o 3 = some (o + 2) := (er25 _ _ (by omega)).trans vr2
  replace vy3 : y25 (o + 3) = some (.inr (0, 10900)) := (ey25 _ (by omega)).trans vy3
  replace vr3 : R25 o 4 = some (o + 3) := (er25 _ _ (by omega)).trans vr3
  replace vy4 : y25 (o + 4) = some (.inr (2, 2)) := (ey25 _ (by omega)).trans vy4
  replace vr4 : R25 o 5 = some (o + 4) := (er25 _ _ (by omega)).trans vr4
  replace vy5 : y25 (o + 5) = some (.inr (0, 360)) := (ey25 _ (by omega)).trans vy5
  replace vr5 : R25 o 6 = some (o + 5) := (er25 _ _ (by omega)).trans vr5
  replace vy6 : y25 (o + 6) = some (.inr (0, 16)) := (ey25 _ (by omega)).trans vy6
  replace vr6 : R25 o 7 = some (o + 6) := (er25 _ _ (by omega)).trans vr6
  replace vy7 : y25 (o + 7) = some (.inr (0, 320)) := (ey25 _ (by omega)).trans vy7
  replace vr7 : R25 o 9 = some (o + 7) := (er25 _ _ (by omega)).trans vr7
  replace vy8 : y25 (o + 8) = some (.inr (0, 16)) := (ey25 _ (by omega)).trans vy8
  replace vr8 : R25 o 10 = some (o + 8) := (er25 _ _ (by omega)).trans vr8
  replace vy9 : y25 (o + 9) = some (.inr (0, 400)) := (ey25 _ (by omega)).trans vy9
  replace vr9 : R25 o 12 = some (o + 9) := (er25 _ _ (by omega)).trans vr9
  replace vy11 : y25 (o + 10) = some (.inr (0, 96)) := (ey25 _ (by omega)).trans vy11
  replace vr11 : R25 o 22 = some (o + 10) := (er25 _ _ (by omega)).trans vr11
  replace vy12 : y25 (o + 11) = some (.inr (0, 400)) := (ey25 _ (by omega)).trans vy12
  replace vr12 : R25 o 24 = some (o + 11) := (er25 _ _ (by omega)).trans vr12
  replace vy13 : y25 (o + 12) = some (.inr (0, 400)) := (ey25 _ (by omega)).trans vy13
  replace vr13 : R25 o 25 = some (o + 12) := (er25 _ _ (by omega)).trans vr13
  replace vy14 : y25 (o + 13) = some (.inr (0, 400)) := (ey25 _ (by omega)).trans vy14
  replace vr14 : R25 o 27 = some (o + 13) := (er25 _ _ (by omega)).trans vr14
  replace vy15 : y25 (o + 14) = some (.inr (0, 400)) := (ey25 _ (by omega)).trans vy15
  replace vr15 : R25 o 28 = some (o + 14) := (er25 _ _ (by omega)).trans vr15
  replace vy16 : y25 (o + 15) = some (.inr (1, 8)) := (ey25 _ (by omega)).trans vy16
  replace vr16 : R25 o 31 = some (o + 15) := (er25 _ _ (by omega)).trans vr16
  replace vy17 : y25 (o + 16) = some (.inr (1, 7)) := (ey25 _ (by omega)).trans vy17
  replace vr17 : R25 o 32 = some (o + 16) := (er25 _ _ (by omega)).trans vr17
  replace vy18 : y25 (o + 17) = some (.inr (1, 4)) := (ey25 _ (by omega)).trans vy18
  replace vr18 : R25 o 33 = some (o + 17) := (er25 _ _ (by omega)).trans vr18
  replace vy19 : y25 (o + 18) = some (.inr (1, 13)) := (ey25 _ (by omega)).trans vy19
  replace vr19 : R25 o 35 = some (o + 18) := (er25 _ _ (by omega)).trans vr19
  replace vy20 : y25 (o + 19) = some (.inr (1, 13)) := (ey25 _ (by omega)).trans vy20
  replace vr20 : R25 o 36 = some (o + 19) := (er25 _ _ (by omega)).trans vr20
  replace vy21 : y25 (o + 20) = some (.inr (1, 400)) := (ey25 _ (by omega)).trans vy21
  replace vr21 : R25 o 37 = some (o + 20) := (er25 _ _ (by omega)).trans vr21
  replace vy22 : y25 (o + 21) = some (.inr (0, 7)) := (ey25 _ (by omega)).trans vy22
  replace vr22 : R25 o 41 = some (o + 21) := (er25 _ _ (by omega)).trans vr22
  replace vy23 : y25 (o + 22) = some (.inr (0, 120)) := (ey25 _ (by omega)).trans vy23
  replace vr23 : R25 o 42 = some (o + 22) := (er25 _ _ (by omega)).trans vr23
  replace vy24 : y25 (o + 23) = some (.inr (0, 6)) := (ey25 _ (by omega)).trans vy24
  replace vr24 : R25 o 43 = some (o + 23) := (er25 _ _ (by omega)).trans vr24
  replace Y0 : ∀ a, a ≤ o → y25 a = y a := fun a h => (ey25 a (by omega)).trans (Y0 a h)
  replace hyo : y25 o = some (.inl 11) := (ey25 o (by omega)).trans hyo
  replace G0 : ∀ a j, a < o → R25 a j = R a j := fun a j h => (er25 a j (by omega)).trans (G0 a j h)
  refine sm_in (sm_in (sm_in (And.intro (by decide) (And.intro (by decide) (And.intro (Nat.le_of_ble_eq_true rfl) (And.intro (Nat.le_of_ble_eq_true rfl) (sm_in (And.intro ((sm_up_ne (by omega)).trans hyo) (?_)))))))))
  show sm_W ex d 7 1093 123 334 [some (.ref o)] [] (o + 26, sm_up y25 (o + 25) (some (.inr (0, 6))), (sm_st I o 18 (-1)), (sm_st (sm_st (sm_st (sm_st (sm_st (sm_st (sm_st (sm_st (sm_st (sm_st (sm_st (sm_st (sm_st (sm_st (sm_st (sm_st (sm_st (sm_st (sm_st L (o + 15) 0 13358) (o + 15) 1 277892) (o + 15) 2 21285028) (o + 15) 3 267652) (o + 15) 4 16392370) (o + 15) 5 719725925) (o + 15) 6 278194) (o + 15) 7 24865546418) (o + 16) 0 278194) (o + 16) 1 146885) (o + 16) 2 404362868) (o + 16) 3 688) (o + 16) 4 267652) (o + 16) 5 6452) (o + 16) 6 21285028) (o + 17) 0 21285043) (o + 17) 1 19058323) (o + 17) 2 15556971699) (o + 17) 3 67155), sm_st R25 o 45 (some (o + 25))) Q
  have ey26 : ∀ a, a < o + 25 → (sm_up y25 (o + 25) (some (.inr (0, 6)))) a = y25 a := fun a h => sm_up_ne (by omega)
  have vy26 : (sm_up y25 (o + 25) (some (.inr (0, 6)))) (o + 25) = some (.inr (0, 6)) := sm_up_s
  have er26 : ∀ a j, ¬ (a = o ∧ j = 45) → (sm_st R25 o 45 (some (o + 25))) a j = R25 a j := fun a j h => sm_st_or _ _ (by omega)
  have vr26 : (sm_st R25 o 45 (some (o + 25))) o 45 = some (o + 25) := sm_st_s _ _ _ _
  generalize sm_up y25 (o + 25) (some (.inr (0, 6))) = y26 at ey26 vy26 ⊢
  generalize sm_st R25 o 45 (some (o + 25)) = R26 at er26 vr26 ⊢
  replace vy1 : y26 (o + 1) = some (.inr (0, 7)) := (ey26 _ (by omega)).trans vy1
  replace vr1 : R26 o 2 = some (o + 1) := (er26 _ _ (by omega)).trans vr1
  replace vy2 : y26 (o + 2) = some (.inr (0, 5450)) := (ey26 _ (by omega)).trans vy2
  replace vr2 : R26 o 3 = some (o + 2) := (er26 _ _ (by omega)).trans vr2
  replace vy3 : y26 (o + 3) = some (.inr (0, 10900)) := (ey26 _ (by omega)).trans vy3
  replace vr3 : R26 o 4 = some (o + 3) := (er26 _ _ (by omega)).trans vr3
  replace vy4 : y26 (o + 4) = some (.inr (2, 2)) := (ey26 _ (by omega)).trans vy4
  replace vr4 : R26 o 5 = some (o + 4) := (er26 _ _ (by omega)).trans vr4
  replace vy5 : y26 (o + 5) = some (.inr (0, 360)) := (ey26 _ (by omega)).trans vy5
  replace vr5 : R26 o 6 = some (o + 5) := (er26 _ _ (by omega)).trans vr5
  replace vy6 : y26 (o + 6) = some (.inr (0, 16)) := (ey26 _ (by omega)).trans vy6
  replace vr6 : R26 o 7 = some (o + 6) := (er26 _ _ (by omega)).trans vr6
  replace vy7 : y26 (o + 7) = some (.inr (0, 320)) := (ey26 _ (by omega)).trans vy7
  replace vr7 : R26 o 9 = some (o + 7) := (er26 _ _ (by omega)).trans vr7
  replace vy8 : y26 (o + 8) = some (.inr (0, 16)) := (ey26 _ (by omega)).trans vy8
  replace vr8 : R26 o 10 = some (o + 8) := (er26 _ _ (by omega)).trans vr8
  replace vy9 : y26 (o + 9) = some (.inr (0, 400)) := (ey26 _ (by omega)).trans vy9
  replace vr9 : R26 o 12 = some (o + 9) := (er26 _ _ (by omega)).trans vr9
  replace vy11 : y26 (o + 10) = some (.inr (0, 96)) := (ey26 _ (by omega)).trans vy11
  replace vr11 : R26 o 22 = some (o + 10) := (er26 _ _ (by omega)).trans vr11
  replace vy12 : y26 (o + 11) = some (.inr (0, 400)) := (ey26 _ (by omega)).trans vy12
  replace vr12 : R26 o 24 = some (o + 11) := (er26 _ _ (by omega)).trans vr12
  replace vy13 : y26 (o + 12) = some (.inr (0, 400)) := (ey26 _ (by omega)).trans vy13
  replace vr13 : R26 o 25 = some (o + 12) := (er26 _ _ (by omega)).trans vr13
  replace vy14 : y26 (o + 13) = some (.inr (0, 400)) := (ey26 _ (by omega)).trans vy14
  replace vr14 : R26 o 27 = some (o + 13) := (er26 _ _ (by omega)).trans vr14
  replace vy15 : y26 (o + 14) = some (.inr (0, 400)) := (ey26 _ (by omega)).trans vy15
  replace vr15 : R26 o 28 = some (o + 14) := (er26 _ _ (by omega)).trans vr15
  replace vy16 : y26 (o + 15) = some (.inr (1, 8)) := (ey26 _ (by omega)).trans vy16
  replace vr16 : R26 o 31 = some (o + 15) := (er26 _ _ (by omega)).trans vr16
  replace vy17 : y26 (o + 16) = some (.inr (1, 7)) := (ey26 _ (by omega)).trans vy17
  replace vr17 : R26 o 32 = some (o + 16) := (er26 _ _ (by omega)).trans vr17
  replace vy18 : y26 (o + 17) = some (.inr (1, 4)) := (ey26 _ (by omega)).trans vy18
  replace vr18 : R26 o 33 = some (o + 17) := (er26 _ _ (by omega)).trans vr18
  replace vy19 : y26 (o + 18) = some (.inr (1, 13)) := (ey26 _ (by omega)).trans vy19
  replace vr19 : R26 o 35 = some (o + 18) := (er26 _ _ (by omega)).trans vr19
  replace vy20 : y26 (o + 19) = some (.inr (1, 13)) := (ey26 _ (by omega)).trans vy20
  replace vr20 : R26 o 36 = some (o + 19) := (er26 _ _ (by omega)).trans vr20
  replace vy21 : y26 (o + 20) = some (.inr (1, 400)) := (ey26 _ (by omega)).trans vy21
  replace vr21 : R26 o 37 = some (o + 20) := (er26 _ _ (by omega)).trans vr21
  replace vy22 : y26 (o + 21) = some (.inr (0, 7)) := (ey26 _ (by omega)).trans vy22
  replace vr22 : R26 o 41 = some (o + 21) := (er26 _ _ (by omega)).trans vr22
  replace vy23 : y26 (o + 22) = some (.inr (0, 120)) := (ey26 _ (by omega)).trans vy23
  replace vr23 : R26 o 42 = some (o + 22) := (er26 _ _ (by omega)).trans vr23
  replace vy24 : y26 (o + 23) = some (.inr (0, 6)) := (ey26 _ (by omega)).trans vy24
  replace vr24 : R26 o 43 = some (o + 23) := (er26 _ _ (by omega)).trans vr24
  replace vy25 : y26 (o + 24) = some (.inr (0, 6)) := (ey26 _ (by omega)).trans vy25
  replace vr25 : R26 o 44 = some (o + 24) := (er26 _ _ (by omega)).trans vr25
  replace Y0 : ∀ a, a ≤ o → y26 a = y a := fun a h => (ey26 a (by omega)).trans (Y0 a h)
  replace hyo : y26 o = some (.inl 11) := (ey26 o (by omega)).trans hyo
  replace G0 : ∀ a j, a < o → R26 a j = R a j := fun a j h => (er26 a j (by omega)).trans (G0 a j h)
  refine sm_in (sm_in (sm_in (And.intro (by decide) (And.intro (by decide) (And.intro (Nat.le_of_ble_eq_true rfl) (And.intro (Nat.le_of_ble_eq_true rfl) (sm_in (And.intro ((sm_up_ne (by omega)).trans hyo) (?_)))))))))
  show sm_W ex d 6 1044 123 342 [some (.ref o)] [] (o + 27, sm_up y26 (o + 26) (some (.inr (0, 49))), (sm_st I o 18 (-1)), (sm_st (sm_st (sm_st (sm_st (sm_st (sm_st (sm_st (sm_st (sm_st (sm_st (sm_st (sm_st (sm_st (sm_st (sm_st (sm_st (sm_st (sm_st (sm_st L (o + 15) 0 13358) (o + 15) 1 277892) (o + 15) 2 21285028) (o + 15) 3 267652) (o + 15) 4 16392370) (o + 15) 5 719725925) (o + 15) 6 278194) (o + 15) 7 24865546418) (o + 16) 0 278194) (o + 16) 1 146885) (o + 16) 2 404362868) (o + 16) 3 688) (o + 16) 4 267652) (o + 16) 5 6452) (o + 16) 6 21285028) (o + 17) 0 21285043) (o + 17) 1 19058323) (o + 17) 2 15556971699) (o + 17) 3 67155), sm_st R26 o 47 (some (o + 26))) Q
  have ey27 : ∀ a, a < o + 26 → (sm_up y26 (o + 26) (some (.inr (0, 49)))) a = y26 a := fun a h => sm_up_ne (by omega)
  have vy27 : (sm_up y26 (o + 26) (some (.inr (0, 49)))) (o + 26) = some (.inr (0, 49)) := sm_up_s
  have er27 : ∀ a j, ¬ (a = o ∧ j = 47) → (sm_st R26 o 47 (some (o + 26))) a j = R26 a j := fun a j h => sm_st_or _ _ (by omega)
  have vr27 : (sm_st R26 o 47 (some (o + 26))) o 47 = some (o + 26) := sm_st_s _ _ _ _
  generalize sm_up y26 (o + 26) (some (.inr (0, 49))) = y27 at ey27 vy27 ⊢
  generalize sm_st R26 o 47 (some (o + 26)) = R27 at er27 vr27 ⊢
  replace vy1 : y27 (o + 1) = some (.inr (0, 7)) := (ey27 _ (by omega)).trans vy1
  replace vr1 : R27 o 2 = some (o + 1) := (er27 _ _ (by omega)).trans vr1
  replace vy2 : y27 (o + 2) = some (.inr (0, 5450)) := (ey27 _ (by omega)).trans vy2
  replace vr2 : R27 o 3 = some (o + 2) := (er27 _ _ (by omega)).trans vr2
  replace vy3 : y27 (o + 3) = some (.inr (0, 10900)) := (ey27 _ (by omega)).trans vy3
  replace vr3 : R27 o 4 = some (o + 3) := (er27 _ _ (by omega)).trans vr3
  replace vy4 : y27 (o + 4) = some (.inr (2, 2)) := (ey27 _ (by omega)).trans vy4
  replace vr4 : R27 o 5 = some (o + 4) := (er27 _ _ (by omega)).trans vr4
  replace vy5 : y27 (o + 5) = some (.inr (0, 360)) := (ey27 _ (by omega)).trans vy5
  replace vr5 : R27 o 6 = some (o + 5) := (er27 _ _ (by omega)).trans vr5
  replace vy6 : y27 (o + 6) = some (.inr (0, 16)) := (ey27 _ (by omega)).trans vy6
  replace vr6 : R27 o 7 = some (o + 6) := (er27 _ _ (by omega)).trans vr6
  replace vy7 : y27 (o + 7) = some (.inr (0, 320)) := (ey27 _ (by omega)).trans vy7
  replace vr7 : R27 o 9 = some (o + 7) := (er27 _ _ (by omega)).trans vr7
  replace vy8 : y27 (o + 8) = some (.inr (0, 16)) := (ey27 _ (by omega)).trans vy8
  replace vr8 : R27 o 10 = some (o + 8) := (er27 _ _ (by omega)).trans vr8
  replace vy9 : y27 (o + 9) = some (.inr (0, 400)) := (ey27 _ (by omega)).trans vy9
  replace vr9 : R27 o 12 = some (o + 9) := (er27 _ _ (by omega)).trans vr9
  replace vy11 : y27 (o + 10) = some (.inr (0, 96)) := (ey27 _ (by omega)).trans vy11
  replace vr11 : R27 o 22 = some (o + 10) := (er27 _ _ (by omega)).trans vr11
  replace vy12 : y27 (o + 11) = some (.inr (0, 400)) := (ey27 _ (by omega)).trans vy12
  replace vr12 : R27 o 24 = some (o + 11) := (er27 _ _ (by omega)).trans vr12
  replace vy13 : y27 (o + 12) = some (.inr (0, 400)) := (ey27 _ (by omega)).trans vy13
  replace vr13 : R27 o 25 = some (o + 12) := (er27 _ _ (by omega)).trans vr13
  replace vy14 : y27 (o + 13) = some (.inr (0, 400)) := (ey27 _ (by omega)).trans vy14
  replace vr14 : R27 o 27 = some (o + 13) := (er27 _ _ (by omega)).trans vr14
  replace vy15 : y27 (o + 14) = some (.inr (0, 400)) := (ey27 _ (by omega)).trans vy15
  replace vr15 : R27 o 28 = some (o + 14) := (er27 _ _ (by omega)).trans vr15
  replace vy16 : y27 (o + 15) = some (.inr (1, 8)) := (ey27 _ (by omega)).trans vy16
  replace vr16 : R27 o 31 = some (o + 15) := (er27 _ _ (by omega)).trans vr16
  replace vy17 : y27 (o + 16) = some (.inr (1, 7)) := (ey27 _ (by omega)).trans vy17
  replace vr17 : R27 o 32 = some (o + 16) := (er27 _ _ (by omega)).trans vr17
  replace vy18 : y27 (o + 17) = some (.inr (1, 4)) := (ey27 _ (by omega)).trans vy18
  replace vr18 : R27 o 33 = some (o + 17) := (er27 _ _ (by omega)).trans vr18
  replace vy19 : y27 (o + 18) = some (.inr (1, 13)) := (ey27 _ (by omega)).trans vy19
  replace vr19 : R27 o 35 = some (o + 18) := (er27 _ _ (by omega)).trans vr19
  replace vy20 : y27 (o + 19) = some (.inr (1, 13)) := (ey27 _ (by omega)).trans vy20
  replace vr20 : R27 o 36 = some (o + 19) := (er27 _ _ (by omega)).trans vr20
  replace vy21 : y27 (o + 20) = some (.inr (1, 400)) := (ey27 _ (by omega)).trans vy21
  replace vr21 : R27 o 37 = some (o + 20) := (er27 _ _ (by omega)).trans vr21
  replace vy22 : y27 (o + 21) = some (.inr (0, 7)) := (ey27 _ (by omega)).trans vy22
  replace vr22 : R27 o 41 = some (o + 21) := (er27 _ _ (by omega)).trans vr22
  replace vy23 : y27 (o + 22) = some (.inr (0, 120)) := (ey27 _ (by omega)).trans vy23
  replace vr23 : R27 o 42 = some (o + 22) := (er27 _ _ (by omega)).trans vr23
  replace vy24 : y27 (o + 23) = some (.inr (0, 6)) := (ey27 _ (by omega)).trans vy24
  replace vr24 : R27 o 43 = some (o + 23) := (er27 _ _ (by omega)).trans vr24
  replace vy25 : y27 (o + 24) = some (.inr (0, 6)) := (ey27 _ (by omega)).trans vy25
  replace vr25 : R27 o 44 = some (o + 24) := (er27 _ _ (by omega)).trans vr25
  replace vy26 : y27 (o + 25) = some (.inr (0, 6)) := (ey27 _ (by omega)).trans vy26
  replace vr26 : R27 o 45 = some (o + 25) := (er27 _ _ (by omega)).trans vr26
  replace Y0 : ∀ a, a ≤ o → y27 a = y a := fun a h => (ey27 a (by omega)).trans (Y0 a h)
  replace hyo : y27 o = some (.inl 11) := (ey27 o (by omega)).trans hyo
  replace G0 : ∀ a j, a < o → R27 a j = R a j := fun a j h => (er27 a j (by omega)).trans (G0 a j h)
  refine sm_in (sm_in (sm_in (And.intro (by decide) (And.intro (by decide) (And.intro (Nat.le_of_ble_eq_true rfl) (And.intro (Nat.le_of_ble_eq_true rfl) (sm_in (And.intro ((sm_up_ne (by omega)).trans hyo) (?_)))))))))
  show sm_W ex d 5 148 123 351 [some (.ref o)] [] (o + 28, sm_up y27 (o + 27) (some (.inr (0, 896))), (sm_st I o 18 (-1)), (sm_st (sm_st (sm_st (sm_st (sm_st (sm_st (sm_st (sm_st (sm_st (sm_st (sm_st (sm_st (sm_st (sm_st (sm_st (sm_st (sm_st (sm_st (sm_st L (o + 15) 0 13358) (o + 15) 1 277892) (o + 15) 2 21285028) (o + 15) 3 267652) (o + 15) 4 16392370) (o + 15) 5 719725925) (o + 15) 6 278194) (o + 15) 7 24865546418) (o + 16) 0 278194) (o + 16) 1 146885) (o + 16) 2 404362868) (o + 16) 3 688) (o + 16) 4 267652) (o + 16) 5 6452) (o + 16) 6 21285028) (o + 17) 0 21285043) (o + 17) 1 19058323) (o + 17) 2 15556971699) (o + 17) 3 67155), sm_st R27 o 48 (some (o + 27))) Q
  have ey28 : ∀ a, a < o + 27 → (sm_up y27 (o + 27) (some (.inr (0, 896)))) a = y27 a := fun a h => sm_up_ne (by omega)
  have vy28 : (sm_up y27 (o + 27) (some (.inr (0, 896)))) (o + 27) = some (.inr (0, 896)) := sm_up_s
  have er28 : ∀ a j, ¬ (a = o ∧ j = 48) → (sm_st R27 o 48 (some (o + 27))) a j = R27 a j := fun a j h => sm_st_or _ _ (by omega)
  have vr28 : (sm_st R27 o 48 (some (o + 27))) o 48 = some (o + 27) := sm_st_s _ _ _ _
  generalize sm_up y27 (o + 27) (some (.inr (0, 896))) = y28 at ey28 vy28 ⊢
  generalize sm_st R27 o 48 (some (o + 27)) = R28 at er28 vr28 ⊢
  replace vy1 : y28 (o + 1) = some (.inr (0, 7)) := (ey28 _ (by omega)).trans vy1
  replace vr1 : R28 o 2 = some (o + 1) := (er28 _ _ (by omega)).trans vr1
  replace vy2 : y28 (o + 2) = some (.inr (0, 5450)) := (ey28 _ (by omega)).trans vy2
  replace vr2 : R28 o 3 = some (o + 2) := (er28 _ _ (by omega)).trans vr2
  replace vy3 : y28 (o + 3) = some (.inr (0, 10900)) := (ey28 _ (by omega)).trans vy3
  replace vr3 : R28 o 4 = some (o + 3) := (er28 _ _ (by omega)).trans vr3
  replace vy4 : y28 (o + 4) = some (.inr (2, 2)) := (ey28 _ (by omega)).trans vy4
  replace vr4 : R28 o 5 = some (o + 4) := (er28 _ _ (by omega)).trans vr4
  replace vy5 : y28 (o + 5) = some (.inr (0, 360)) := (ey28 _ (by omega)).trans vy5
  replace vr5 : R28 o 6 = some (o + 5) := (er28 _ _ (by omega)).trans vr5
  replace vy6 : y28 (o + 6) = some (.inr (0, 16)) := (ey28 _ (by omega)).trans vy6
  replace vr6 : R28 o 7 = some (o + 6) := (er28 _ _ (by omega)).trans vr6
  replace vy7 : y28 (o + 7) = some (.inr (0, 320)) := (ey28 _ (by omega)).trans vy7
  replace vr7 : R28 o 9 = some (o + 7) := (er28 _ _ (by omega)).trans vr7
  replace vy8 : y28 (o + 8) = some (.inr (0, 16)) := (ey28 _ (by omega)).trans vy8
  replace vr8 : R28 o 10 = some (o + 8) := (er28 _ _ (by omega)).trans vr8
  replace vy9 : y28 (o + 9) = some (.inr (0, 400)) := (ey28 _ (by omega)).trans vy9
  replace vr9 : R28 o 12 = some (o + 9) := (er28 _ _ (by omega)).trans vr9
  replace vy11 : y28 (o + 10) = some (.inr (0, 96)) := (ey28 _ (by omega)).trans vy11
  replace vr11 : R28 o 22 = some (o + 10) := (er28 _ _ (by omega)).trans vr11
  replace vy12 : y28 (o + 11) = some (.inr (0, 400)) := (ey28 _ (by omega)).trans vy12
  replace vr12 : R28 o 24 = some (o + 11) := (er28 _ _ (by omega)).trans vr12
  replace vy13 : y28 (o + 12) = some (.inr (0, 400)) := (ey28 _ (by omega)).trans vy13
  replace vr13 : R28 o 25 = some (o + 12) := (er28 _ _ (by omega)).trans vr13
  replace vy14 : y28 (o + 13) = some (.inr (0, 400)) := (ey28 _ (by omega)).trans vy14
  replace vr14 : R28 o 27 = some (o + 13) := (er28 _ _ (by omega)).trans vr14
  replace vy15 : y28 (o + 14) = some (.inr (0, 400)) := (ey28 _ (by omega)).trans vy15
  replace vr15 : R28 o 28 = some (o + 14) := (er28 _ _ (by omega)).trans vr15
  replace vy16 : y28 (o + 15) = some (.inr (1, 8)) := (ey28 _ (by omega)).trans vy16
  replace vr16 : R28 o 31 = some (o + 15) := (er28 _ _ (by omega)).trans vr16
  replace vy17 : y28 (o + 16) = some (.inr (1, 7)) := (ey28 _ (by omega)).trans vy17
  replace vr17 : R28 o 32 = some (o + 16) := (er28 _ _ (by omega)).trans vr17
  replace vy18 : y28 (o + 17) = some (.inr (1, 4)) := (ey28 _ (by omega)).trans vy18
  replace vr18 : R28 o 33 = some (o + 17) := (er28 _ _ (by omega)).trans vr18
  replace vy19 : y28 (o + 18) = some (.inr (1, 13)) := (ey28 _ (by omega)).trans vy19
  replace vr19 : R28 o 35 = some (o + 18) := (er28 _ _ (by omega)).trans vr19
  replace vy20 : y28 (o + 19) = some (.inr (1, 13)) := (ey28 _ (by omega)).trans vy20
  replace vr20 : R28 o 36 = some (o + 19) := (er28 _ _ (by omega)).trans vr20
  replace vy21 : y28 (o + 20) = some (.inr (1, 400)) := (ey28 _ (by omega)).trans vy21
  replace vr21 : R28 o 37 = some (o + 20) := (er28 _ _ (by omega)).trans vr21
  replace vy22 : y28 (o + 21) = some (.inr (0, 7)) := (ey28 _ (by omega)).trans vy22
  replace vr22 : R28 o 41 = some (o + 21) := (er28 _ _ (by omega)).trans vr22
  replace vy23 : y28 (o + 22) = some (.inr (0, 120)) := (ey28 _ (by omega)).trans vy23
  replace vr23 : R28 o 42 = some (o + 22) := (er28 _ _ (by omega)).trans vr23
  replace vy24 : y28 (o + 23) = some (.inr (0, 6)) := (ey28 _ (by omega)).trans vy24
  replace vr24 : R28 o 43 = some (o + 23) := (er28 _ _ (by omega)).trans vr24
  replace vy25 : y28 (o + 24) = some (.inr (0, 6)) := (ey28 _ (by omega)).trans vy25
  replace vr25 : R28 o 44 = some (o + 24) := (er28 _ _ (by omega)).trans vr25
  replace vy26 : y28 (o + 25) = some (.inr (0, 6)) := (ey28 _ (by omega)).trans vy26
  replace vr26 : R28 o 45 = some (o + 25) := (er28 _ _ (by omega)).trans vr26
  replace vy27 : y28 (o + 26) = some (.inr (0, 49)) := (ey28 _ (by omega)).trans vy27
  replace vr27 : R28 o 47 = some (o + 26) := (er28 _ _ (by omega)).trans vr27
  replace Y0 : ∀ a, a ≤ o → y28 a = y a := fun a h => (ey28 a (by omega)).trans (Y0 a h)
  replace hyo : y28 o = some (.inl 11) := (ey28 o (by omega)).trans hyo
  replace G0 : ∀ a j, a < o → R28 a j = R a j := fun a j h => (er28 a j (by omega)).trans (G0 a j h)
  refine sm_in (sm_in (sm_in (And.intro (by decide) (And.intro (by decide) (And.intro (Nat.le_of_ble_eq_true rfl) (And.intro (Nat.le_of_ble_eq_true rfl) (sm_in (And.intro ((sm_up_ne (by omega)).trans hyo) (?_)))))))))
  show sm_W ex d 4 141 123 359 [some (.ref o)] [] (o + 29, sm_up y28 (o + 28) (some (.inr (0, 7))), (sm_st I o 18 (-1)), (sm_st (sm_st (sm_st (sm_st (sm_st (sm_st (sm_st (sm_st (sm_st (sm_st (sm_st (sm_st (sm_st (sm_st (sm_st (sm_st (sm_st (sm_st (sm_st L (o + 15) 0 13358) (o + 15) 1 277892) (o + 15) 2 21285028) (o + 15) 3 267652) (o + 15) 4 16392370) (o + 15) 5 719725925) (o + 15) 6 278194) (o + 15) 7 24865546418) (o + 16) 0 278194) (o + 16) 1 146885) (o + 16) 2 404362868) (o + 16) 3 688) (o + 16) 4 267652) (o + 16) 5 6452) (o + 16) 6 21285028) (o + 17) 0 21285043) (o + 17) 1 19058323) (o + 17) 2 15556971699) (o + 17) 3 67155), sm_st R28 o 49 (some (o + 28))) Q
  have ey29 : ∀ a, a < o + 28 → (sm_up y28 (o + 28) (some (.inr (0, 7)))) a = y28 a := fun a h => sm_up_ne (by omega)
  have vy29 : (sm_up y28 (o + 28) (some (.inr (0, 7)))) (o + 28) = some (.inr (0, 7)) := sm_up_s
  have er29 : ∀ a j, ¬ (a = o ∧ j = 49) → (sm_st R28 o 49 (some (o + 28))) a j = R28 a j := fun a j h => sm_st_or _ _ (by omega)
  have vr29 : (sm_st R28 o 49 (some (o + 28))) o 49 = some (o + 28) := sm_st_s _ _ _ _
  generalize sm_up y28 (o + 28) (some (.inr (0, 7))) = y29 at ey29 vy29 ⊢
  generalize sm_st R28 o 49 (some (o + 28)) = R29 at er29 vr29 ⊢
  replace vy1 : y29 (o + 1) = some (.inr (0, 7)) := (ey29 _ (by omega)).trans vy1
  replace vr1 : R29 o 2 = some (o + 1) := (er29 _ _ (by omega)).trans vr1
  replace vy2 : y29 (o + 2) = some (.inr (0, 5450)) := (ey29 _ (by omega)).trans vy2
  replace vr2 : R29 o 3 = some (o + 2) := (er29 _ _ (by omega)).trans vr2
  replace vy3 : y29 (o + 3) = some (.inr (0, 10900)) := (ey29 _ (by omega)).trans vy3
  replace vr3 : R29 o 4 = some (o + 3) := (er29 _ _ (by omega)).trans vr3
  replace vy4 : y29 (o + 4) = some (.inr (2, 2)) := (ey29 _ (by omega)).trans vy4
  replace vr4 : R29 o 5 = some (o + 4) := (er29 _ _ (by omega)).trans vr4
  replace vy5 : y29 (o + 5) = some (.inr (0, 360)) := (ey29 _ (by omega)).trans vy5
  replace vr5 : R29 o 6 = some (o + 5) := (er29 _ _ (by omega)).trans vr5
  replace vy6 : y29 (o + 6) = some (.inr (0, 16)) := (ey29 _ (by omega)).trans vy6
  replace vr6 : R29 o 7 = some (o + 6) := (er29 _ _ (by omega)).trans vr6
  replace vy7 : y29 (o + 7) = some (.inr (0, 320)) := (ey29 _ (by omega)).trans vy7
  replace vr7 : R29 o 9 = some (o + 7) := (er29 _ _ (by omega)).trans vr7
  replace vy8 : y29 (o + 8) = some (.inr (0, 16)) := (ey29 _ (by omega)).trans vy8
  replace vr8 : R29 o 10 = some (o + 8) := (er29 _ _ (by omega)).trans vr8
  replace vy9 : y29 (o + 9) = some (.inr (0, 400)) := (ey29 _ (by omega)).trans vy9
  replace vr9 : R29 o 12 = some (o + 9) := (er29 _ _ (by omega)).trans vr9
  replace vy11 : y29 (o + 10) = some (.inr (0, 96)) := (ey29 _ (by omega)).trans vy11
  replace vr11 : R29 o 22 = some (o + 10) := (er29 _ _ (by omega)).trans vr11
  replace vy12 : y29 (o + 11) = some (.inr (0, 400)) := (ey29 _ (by omega)).trans vy12
  replace vr12 : R29 o 24 = some (o + 11) := (er29 _ _ (by omega)).trans vr12
  replace vy13 : y29 (o + 12) = some (.inr (0, 400)) := (ey29 _ (by omega)).trans vy13
  replace vr13 : R29 o 25 = some (o + 12) := (er29 _ _ (by omega)).trans vr13
  replace vy14 : y29 (o + 13) = some (.inr (0, 400)) := (ey29 _ (by omega)).trans vy14
  replace vr14 : R29 o 27 = some (o + 13) := (er29 _ _ (by omega)).trans vr14
  replace vy15 : y29 (o + 14) = some (.inr (0, 400)) := (ey29 _ (by omega)).trans vy15
  replace vr15 : R29 o 28 = some (o + 14) := (er29 _ _ (by omega)).trans vr15
  replace vy16 : y29 (o + 15) = some (.inr (1, 8)) := (ey29 _ (by omega)).trans vy16
  replace vr16 : R29 o 31 = some (o + 15) := (er29 _ _ (by omega)).trans vr16
  replace vy17 : y29 (o + 16) = some (.inr (1, 7)) := (ey29 _ (by omega)).trans vy17
  replace vr17 : R29 o 32 = some (o + 16) := (er29 _ _ (by omega)).trans vr17
  replace vy18 : y29 (o + 17) = some (.inr (1, 4)) := (ey29 _ (by omega)).trans vy18
  replace vr18 : R29 o 33 = some (o + 17) := (er29 _ _ (by omega)).trans vr18
  replace vy19 : y29 (o + 18) = some (.inr (1, 13)) := (ey29 _ (by omega)).trans vy19
  replace vr19 : R29 o 35 = some (o + 18) := (er29 _ _ (by omega)).trans vr19
  replace vy20 : y29 (o + 19) = some (.inr (1, 13)) := (ey29 _ (by omega)).trans vy20
  replace vr20 : R29 o 36 = some (o + 19) := (er29 _ _ (by omega)).trans vr20
  replace vy21 : y29 (o + 20) = some (.inr (1, 400)) := (ey29 _ (by omega)).trans vy21
  replace vr21 : R29 o 37 = some (o + 20) := (er29 _ _ (by omega)).trans vr21
  replace vy22 : y29 (o + 21) = some (.inr (0, 7)) := (ey29 _ (by omega)).trans vy22
  replace vr22 : R29 o 41 = some (o + 21) := (er29 _ _ (by omega)).trans vr22
  replace vy23 : y29 (o + 22) = some (.inr (0, 120)) := (ey29 _ (by omega)).trans vy23
  replace vr23 : R29 o 42 = some (o + 22) := (er29 _ _ (by omega)).trans vr23
  replace vy24 : y29 (o + 23) = some (.inr (0, 6)) := (ey29 _ (by omega)).trans vy24
  replace vr24 : R29 o 43 = some (o + 23) := (er29 _ _ (by omega)).trans vr24
  replace vy25 : y29 (o + 24) = some (.inr (0, 6)) := (ey29 _ (by omega)).trans vy25
  replace vr25 : R29 o 44 = some (o + 24) := (er29 _ _ (by omega)).trans vr25
  replace vy26 : y29 (o + 25) = some (.inr (0, 6)) := (ey29 _ (by omega)).trans vy26
  replace vr26 : R29 o 45 = some (o + 25) := (er29 _ _ (by omega)).trans vr26
  replace vy27 : y29 (o + 26) = some (.inr (0, 49)) := (ey29 _ (by omega)).trans vy27
  replace vr27 : R29 o 47 = some (o + 26) := (er29 _ _ (by omega)).trans vr27
  replace vy28 : y29 (o + 27) = some (.inr (0, 896)) := (ey29 _ (by omega)).trans vy28
  replace vr28 : R29 o 48 = some (o + 27) := (er29 _ _ (by omega)).trans vr28
  replace Y0 : ∀ a, a ≤ o → y29 a = y a := fun a h => (ey29 a (by omega)).trans (Y0 a h)
  replace hyo : y29 o = some (.inl 11) := (ey29 o (by omega)).trans hyo
  replace G0 : ∀ a j, a < o → R29 a j = R a j := fun a j h => (er29 a j (by omega)).trans (G0 a j h)
  refine sm_in (sm_in (sm_in (And.intro (by decide) (And.intro (by decide) (And.intro (Nat.le_of_ble_eq_true rfl) (And.intro (Nat.le_of_ble_eq_true rfl) (sm_in (And.intro ((sm_up_ne (by omega)).trans hyo) (?_)))))))))
  show sm_W ex d 3 120 123 367 [some (.ref o)] [] (o + 30, sm_up y29 (o + 29) (some (.inr (1, 21))), (sm_st I o 18 (-1)), (sm_st (sm_st (sm_st (sm_st (sm_st (sm_st (sm_st (sm_st (sm_st (sm_st (sm_st (sm_st (sm_st (sm_st (sm_st (sm_st (sm_st (sm_st (sm_st L (o + 15) 0 13358) (o + 15) 1 277892) (o + 15) 2 21285028) (o + 15) 3 267652) (o + 15) 4 16392370) (o + 15) 5 719725925) (o + 15) 6 278194) (o + 15) 7 24865546418) (o + 16) 0 278194) (o + 16) 1 146885) (o + 16) 2 404362868) (o + 16) 3 688) (o + 16) 4 267652) (o + 16) 5 6452) (o + 16) 6 21285028) (o + 17) 0 21285043) (o + 17) 1 19058323) (o + 17) 2 15556971699) (o + 17) 3 67155), sm_st R29 o 50 (some (o + 29))) Q
  have ey30 : ∀ a, a < o + 29 → (sm_up y29 (o + 29) (some (.inr (1, 21)))) a = y29 a := fun a h => sm_up_ne (by omega)
  have vy30 : (sm_up y29 (o + 29) (some (.inr (1, 21)))) (o + 29) = some (.inr (1, 21)) := sm_up_s
  have er30 : ∀ a j, ¬ (a = o ∧ j = 50) → (sm_st R29 o 50 (some (o + 29))) a j = R29 a j := fun a j h => sm_st_or _ _ (by omega)
  have vr30 : (sm_st R29 o 50 (some (o + 29))) o 50 = some (o + 29) := sm_st_s _ _ _ _
  generalize sm_up y29 (o + 29) (some (.inr (1, 21))) = y30 at ey30 vy30 ⊢
  generalize sm_st R29 o 50 (some (o + 29)) = R30 at er30 vr30 ⊢
  replace vy1 : y30 (o + 1) = some (.inr (0, 7)) := (ey30 _ (by omega)).trans vy1
  replace vr1 : R30 o 2 = some (o + 1) := (er30 _ _ (by omega)).trans vr1
  replace vy2 : y30 (o + 2) = some (.inr (0, 5450)) := (ey30 _ (by omega)).trans vy2
  replace vr2 : R30 o 3 = some (o + 2) := (er30 _ _ (by omega)).trans vr2
  replace vy3 : y30 (o + 3) = some (.inr (0, 10900)) := (ey30 _ (by omega)).trans vy3
  replace vr3 : R30 o 4 = some (o + 3) := (er30 _ _ (by omega)).trans vr3
  replace vy4 : y30 (o + 4) = some (.inr (2, 2)) := (ey30 _ (by omega)).trans vy4
  replace vr4 : R30 o 5 = some (o + 4) := (er30 _ _ (by omega)).trans vr4
  replace vy5 : y30 (o + 5) = some (.inr (0, 360)) := (ey30 _ (by omega)).trans vy5
  replace vr5 : R30 o 6 = some (o + 5) := (er30 _ _ (by omega)).trans vr5
  replace vy6 : y30 (o + 6) = some (.inr (0, 16)) := (ey30 _ (by omega)).trans vy6
  replace vr6 : R30 o 7 = some (o + 6) := (er30 _ _ (by omega)).trans vr6
  replace vy7 : y30 (o + 7) = some (.inr (0, 320)) := (ey30 _ (by omega)).trans vy7
  replace vr7 : R30 o 9 = some (o + 7) := (er30 _ _ (by omega)).trans vr7
  replace vy8 : y30 (o + 8) = some (.inr (0, 16)) := (ey30 _ (by omega)).trans vy8
  replace vr8 : R30 o 10 = some (o + 8) := (er30 _ _ (by omega)).trans vr8
  replace vy9 : y30 (o + 9) = some (.inr (0, 400)) := (ey30 _ (by omega)).trans vy9
  replace vr9 : R30 o 12 = some (o + 9) := (er30 _ _ (by omega)).trans vr9
  replace vy11 : y30 (o + 10) = some (.inr (0, 96)) := (ey30 _ (by omega)).trans vy11
  replace vr11 : R30 o 22 = some (o + 10) := (er30 _ _ (by omega)).trans vr11
  replace vy12 : y30 (o + 11) = some (.inr (0, 400)) := (ey30 _ (by omega)).trans vy12
  replace vr12 : R30 o 24 = some (o + 11) := (er30 _ _ (by omega)).trans vr12
  replace vy13 : y30 (o + 12) = some (.inr (0, 400)) := (ey30 _ (by omega)).trans vy13
  replace vr13 : R30 o 25 = some (o + 12) := (er30 _ _ (by omega)).trans vr13
  replace vy14 : y30 (o + 13) = some (.inr (0, 400)) := (ey30 _ (by omega)).trans vy14
  replace vr14 : R30 o 27 = some (o + 13) := (er30 _ _ (by omega)).trans vr14
  replace vy15 : y30 (o + 14) = some (.inr (0, 400)) := (ey30 _ (by omega)).trans vy15
  replace vr15 : R30 o 28 = some (o + 14) := (er30 _ _ (by omega)).trans vr15
  replace vy16 : y30 (o + 15) = some (.inr (1, 8)) := (ey30 _ (by omega)).trans vy16
  replace vr16 : R30 o 31 = some (o + 15) := (er30 _ _ (by omega)).trans vr16
  replace vy17 : y30 (o + 16) = some (.inr (1, 7)) := (ey30 _ (by omega)).trans vy17
  replace vr17 : R30 o 32 = some (o + 16) := (er30 _ _ (by omega)).trans vr17
  replace vy18 : y30 (o + 17) = some (.inr (1, 4)) := (ey30 _ (by omega)).trans vy18
  replace vr18 : R30 o 33 = some (o + 17) := (er30 _ _ (by omega)).trans vr18
  replace vy19 : y30 (o + 18) = some (.inr (1, 13)) := (ey30 _ (by omega)).trans vy19
  replace vr19 : R30 o 35 = some (o + 18) := (er30 _ _ (by omega)).trans vr19
  replace vy20 : y30 (o + 19) = some (.inr (1, 13)) := (ey30 _ (by omega)).trans vy20
  replace vr20 : R30 o 36 = some (o + 19) := (er30 _ _ (by omega)).trans vr20
  replace vy21 : y30 (o + 20) = some (.inr (1, 400)) := (ey30 _ (by omega)).trans vy21
  replace vr21 : R30 o 37 = some (o + 20) := (er30 _ _ (by omega)).trans vr21
  replace vy22 : y30 (o + 21) = some (.inr (0, 7)) := (ey30 _ (by omega)).trans vy22
  replace vr22 : R30 o 41 = some (o + 21) := (er30 _ _ (by omega)).trans vr22
  replace vy23 : y30 (o + 22) = some (.inr (0, 120)) := (ey30 _ (by omega)).trans vy23
  replace vr23 : R30 o 42 = some (o + 22) := (er30 _ _ (by omega)).trans vr23
  replace vy24 : y30 (o + 23) = some (.inr (0, 6)) := (ey30 _ (by omega)).trans vy24
  replace vr24 : R30 o 43 = some (o + 23) := (er30 _ _ (by omega)).trans vr24
  replace vy25 : y30 (o + 24) = some (.inr (0, 6)) := (ey30 _ (by omega)).trans vy25
  replace vr25 : R30 o 44 = some (o + 24) := (er30 _ _ (by omega)).trans vr25
  replace vy26 : y30 (o + 25) = some (.inr (0, 6)) := (ey30 _ (by omega)).trans vy26
  replace vr26 : R30 o 45 = some (o + 25) := (er30 _ _ (by omega)).trans vr26
  replace vy27 : y30 (o + 26) = some (.inr (0, 49)) := (ey30 _ (by omega)).trans vy27
  replace vr27 : R30 o 47 = some (o + 26) := (er30 _ _ (by omega)).trans vr27
  replace vy28 : y30 (o + 27) = some (.inr (0, 896)) := (ey30 _ (by omega)).trans vy28
  replace vr28 : R30 o 48 = some (o + 27) := (er30 _ _ (by omega)).trans vr28
  replace vy29 : y30 (o + 28) = some (.inr (0, 7)) := (ey30 _ (by omega)).trans vy29
  replace vr29 : R30 o 49 = some (o + 28) := (er30 _ _ (by omega)).trans vr29
  replace Y0 : ∀ a, a ≤ o → y30 a = y a := fun a h => (ey30 a (by omega)).trans (Y0 a h)
  replace hyo : y30 o = some (.inl 11) := (ey30 o (by omega)).trans hyo
  replace G0 : ∀ a j, a < o → R30 a j = R a j := fun a j h => (er30 a j (by omega)).trans (G0 a j h)
  refine sm_in (sm_in (sm_in (And.intro (by decide) (And.intro (by decide) (And.intro (Nat.le_of_ble_eq_true rfl) (And.intro (Nat.le_of_ble_eq_true rfl) (sm_in (And.intro rfl (sm_in (sm_in (sm_in (Exists.intro 4 (And.intro sm_up_s (And.intro (sm_lin (by decide)) (sm_in (And.intro rfl (sm_in (sm_in (sm_in (Exists.intro 4 (And.intro sm_up_s (And.intro (sm_lin (by decide)) (sm_in (And.intro rfl (sm_in (sm_in (sm_in (Exists.intro 4 (And.intro sm_up_s (And.intro (sm_lin (by decide)) (sm_in (And.intro rfl (sm_in (sm_in (sm_in (Exists.intro 4 (And.intro sm_up_s (And.intro (sm_lin (by decide)) (sm_in (And.intro ((sm_up_ne (by omega)).trans hyo) (?_)))))))))))))))))))))))))))))))))))))))))
  show sm_W ex d 2 116 123 398 [some (.ref o)] [] (o + 31, sm_up y30 (o + 30) (some (.inr (1, 4))), (sm_st I o 18 (-1)), (sm_st (sm_st (sm_st (sm_st (sm_st (sm_st (sm_st (sm_st (sm_st (sm_st (sm_st (sm_st (sm_st (sm_st (sm_st (sm_st (sm_st (sm_st (sm_st (sm_st (sm_st (sm_st (sm_st L (o + 15) 0 13358) (o + 15) 1 277892) (o + 15) 2 21285028) (o + 15) 3 267652) (o + 15) 4 16392370) (o + 15) 5 719725925) (o + 15) 6 278194) (o + 15) 7 24865546418) (o + 16) 0 278194) (o + 16) 1 146885) (o + 16) 2 404362868) (o + 16) 3 688) (o + 16) 4 267652) (o + 16) 5 6452) (o + 16) 6 21285028) (o + 17) 0 21285043) (o + 17) 1 19058323) (o + 17) 2 15556971699) (o + 17) 3 67155) (o + 30) 0 19508008645) (o + 30) 1 652384069) (o + 30) 2 538513902) (o + 30) 3 525939), sm_st R30 o 51 (some (o + 30))) Q
  have ey31 : ∀ a, a < o + 30 → (sm_up y30 (o + 30) (some (.inr (1, 4)))) a = y30 a := fun a h => sm_up_ne (by omega)
  have vy31 : (sm_up y30 (o + 30) (some (.inr (1, 4)))) (o + 30) = some (.inr (1, 4)) := sm_up_s
  have er31 : ∀ a j, ¬ (a = o ∧ j = 51) → (sm_st R30 o 51 (some (o + 30))) a j = R30 a j := fun a j h => sm_st_or _ _ (by omega)
  have vr31 : (sm_st R30 o 51 (some (o + 30))) o 51 = some (o + 30) := sm_st_s _ _ _ _
  generalize sm_up y30 (o + 30) (some (.inr (1, 4))) = y31 at ey31 vy31 ⊢
  generalize sm_st R30 o 51 (some (o + 30)) = R31 at er31 vr31 ⊢
  replace vy1 : y31 (o + 1) = some (.inr (0, 7)) := (ey31 _ (by omega)).trans vy1
  replace vr1 : R31 o 2 = some (o + 1) := (er31 _ _ (by omega)).trans vr1
  replace vy2 : y31 (o + 2) = some (.inr (0, 5450)) := (ey31 _ (by omega)).trans vy2
  replace vr2 : R31 o 3 = some (o + 2) := (er31 _ _ (by omega)).trans vr2
  replace vy3 : y31 (o + 3) = some (.inr (0, 10900)) := (ey31 _ (by omega)).trans vy3
  replace vr3 : R31 o 4 = some (o + 3) := (er31 _ _ (by omega)).trans vr3
  replace vy4 : y31 (o + 4) = some (.inr (2, 2)) := (ey31 _ (by omega)).trans vy4
  replace vr4 : R31 o 5 = some (o + 4) := (er31 _ _ (by omega)).trans vr4
  replace vy5 : y31 (o + 5) = some (.inr (0, 360)) := (ey31 _ (by omega)).trans vy5
  replace vr5 : R31 o 6 = some (o + 5) := (er31 _ _ (by omega)).trans vr5
  replace vy6 : y31 (o + 6) = some (.inr (0, 16)) := (ey31 _ (by omega)).trans vy6
  replace vr6 : R31 o 7 = some (o + 6) := (er31 _ _ (by omega)).trans vr6
  replace vy7 : y31 (o + 7) = some (.inr (0, 320)) := (ey31 _ (by omega)).trans vy7
  replace vr7 : R31 o 9 = some (o + 7) := (er31 _ _ (by omega)).trans vr7
  replace vy8 : y31 (o + 8) = some (.inr (0, 16)) := (ey31 _ (by omega)).trans vy8
  replace vr8 : R31 o 10 = some (o + 8) := (er31 _ _ (by omega)).trans vr8
  replace vy9 : y31 (o + 9) = some (.inr (0, 400)) := (ey31 _ (by omega)).trans vy9
  replace vr9 : R31 o 12 = some (o + 9) := (er31 _ _ (by omega)).trans vr9
  replace vy11 : y31 (o + 10) = some (.inr (0, 96)) := (ey31 _ (by omega)).trans vy11
  replace vr11 : R31 o 22 = some (o + 10) := (er31 _ _ (by omega)).trans vr11
  replace vy12 : y31 (o + 11) = some (.inr (0, 400)) := (ey31 _ (by omega)).trans vy12
  replace vr12 : R31 o 24 = some (o + 11) := (er31 _ _ (by omega)).trans vr12
  replace vy13 : y31 (o + 12) = some (.inr (0, 400)) := (ey31 _ (by omega)).trans vy13
  replace vr13 : R31 o 25 = some (o + 12) := (er31 _ _ (by omega)).trans vr13
  replace vy14 : y31 (o + 13) = some (.inr (0, 400)) := (ey31 _ (by omega)).trans vy14
  replace vr14 : R31 o 27 = some (o + 13) := (er31 _ _ (by omega)).trans vr14
  replace vy15 : y31 (o + 14) = some (.inr (0, 400)) := (ey31 _ (by omega)).trans vy15
  replace vr15 : R31 o 28 = some (o + 14) := (er31 _ _ (by omega)).trans vr15
  replace vy16 : y31 (o + 15) = some (.inr (1, 8)) := (ey31 _ (by omega)).trans vy16
  replace vr16 : R31 o 31 = some (o + 15) := (er31 _ _ (by omega)).trans vr16
  replace vy17 : y31 (o + 16) = some (.inr (1, 7)) := (ey31 _ (by omega)).trans vy17
  replace vr17 : R31 o 32 = some (o + 16) := (er31 _ _ (by omega)).trans vr17
  replace vy18 : y31 (o + 17) = some (.inr (1, 4)) := (ey31 _ (by omega)).trans vy18
  replace vr18 : R31 o 33 = some (o + 17) := (er31 _ _ (by omega)).trans vr18
  replace vy19 : y31 (o + 18) = some (.inr (1, 13)) := (ey31 _ (by omega)).trans vy19
  replace vr19 : R31 o 35 = some (o + 18) := (er31 _ _ (by omega)).trans vr19
  replace vy20 : y31 (o + 19) = some (.inr (1, 13)) := (ey31 _ (by omega)).trans vy20
  replace vr20 : R31 o 36 = some (o + 19) := (er31 _ _ (by omega)).trans vr20
  replace vy21 : y31 (o + 20) = some (.inr (1, 400)) := (ey31 _ (by omega)).trans vy21
  replace vr21 : R31 o 37 = some (o + 20) := (er31 _ _ (by omega)).trans vr21
  replace vy22 : y31 (o + 21) = some (.inr (0, 7)) := (ey31 _ (by omega)).trans vy22
  replace vr22 : R31 o 41 = some (o + 21) := (er31 _ _ (by omega)).trans vr22
  replace vy23 : y31 (o + 22) = some (.inr (0, 120)) := (ey31 _ (by omega)).trans vy23
  replace vr23 : R31 o 42 = some (o + 22) := (er31 _ _ (by omega)).trans vr23
  replace vy24 : y31 (o + 23) = some (.inr (0, 6)) := (ey31 _ (by omega)).trans vy24
  replace vr24 : R31 o 43 = some (o + 23) := (er31 _ _ (by omega)).trans vr24
  replace vy25 : y31 (o + 24) = some (.inr (0, 6)) := (ey31 _ (by omega)).trans vy25
  replace vr25 : R31 o 44 = some (o + 24) := (er31 _ _ (by omega)).trans vr25
  replace vy26 : y31 (o + 25) = some (.inr (0, 6)) := (ey31 _ (by omega)).trans vy26
  replace vr26 : R31 o 45 = some (o + 25) := (er31 _ _ (by omega)).trans vr26
  replace vy27 : y31 (o + 26) = some (.inr (0, 49)) := (ey31 _ (by omega)).trans vy27
  replace vr27 : R31 o 47 = some (o + 26) := (er31 _ _ (by omega)).trans vr27
  replace vy28 : y31 (o + 27) = some (.inr (0, 896)) := (ey31 _ (by omega)).trans vy28
  replace vr28 : R31 o 48 = some (o + 27) := (er31 _ _ (by omega)).trans vr28
  replace vy29 : y31 (o + 28) = some (.inr (0, 7)) := (ey31 _ (by omega)).trans vy29
  replace vr29 : R31 o 49 = some (o + 28) := (er31 _ _ (by omega)).trans vr29
  replace vy30 : y31 (o + 29) = some (.inr (1, 21)) := (ey31 _ (by omega)).trans vy30
  replace vr30 : R31 o 50 = some (o + 29) := (er31 _ _ (by omega)).trans vr30
  replace Y0 : ∀ a, a ≤ o → y31 a = y a := fun a h => (ey31 a (by omega)).trans (Y0 a h)
  replace hyo : y31 o = some (.inl 11) := (ey31 o (by omega)).trans hyo
  replace G0 : ∀ a j, a < o → R31 a j = R a j := fun a j h => (er31 a j (by omega)).trans (G0 a j h)
  refine sm_in (sm_in (sm_in (And.intro (by decide) (And.intro (by decide) (And.intro (Nat.le_of_ble_eq_true rfl) (And.intro (Nat.le_of_ble_eq_true rfl) (sm_in (And.intro ((sm_up_ne (by omega)).trans hyo) (?_)))))))))
  show sm_W ex d 1 20 123 406 [some (.ref o)] [] (o + 32, sm_up y31 (o + 31) (some (.inr (0, 96))), (sm_st I o 18 (-1)), (sm_st (sm_st (sm_st (sm_st (sm_st (sm_st (sm_st (sm_st (sm_st (sm_st (sm_st (sm_st (sm_st (sm_st (sm_st (sm_st (sm_st (sm_st (sm_st (sm_st (sm_st (sm_st (sm_st L (o + 15) 0 13358) (o + 15) 1 277892) (o + 15) 2 21285028) (o + 15) 3 267652) (o + 15) 4 16392370) (o + 15) 5 719725925) (o + 15) 6 278194) (o + 15) 7 24865546418) (o + 16) 0 278194) (o + 16) 1 146885) (o + 16) 2 404362868) (o + 16) 3 688) (o + 16) 4 267652) (o + 16) 5 6452) (o + 16) 6 21285028) (o + 17) 0 21285043) (o + 17) 1 19058323) (o + 17) 2 15556971699) (o + 17) 3 67155) (o + 30) 0 19508008645) (o + 30) 1 652384069) (o + 30) 2 538513902) (o + 30) 3 525939), sm_st R31 o 52 (some (o + 31))) Q
  have ey32 : ∀ a, a < o + 31 → (sm_up y31 (o + 31) (some (.inr (0, 96)))) a = y31 a := fun a h => sm_up_ne (by omega)
  have vy32 : (sm_up y31 (o + 31) (some (.inr (0, 96)))) (o + 31) = some (.inr (0, 96)) := sm_up_s
  have er32 : ∀ a j, ¬ (a = o ∧ j = 52) → (sm_st R31 o 52 (some (o + 31))) a j = R31 a j := fun a j h => sm_st_or _ _ (by omega)
  have vr32 : (sm_st R31 o 52 (some (o + 31))) o 52 = some (o + 31) := sm_st_s _ _ _ _
  generalize sm_up y31 (o + 31) (some (.inr (0, 96))) = y32 at ey32 vy32 ⊢
  generalize sm_st R31 o 52 (some (o + 31)) = R32 at er32 vr32 ⊢
  replace vy1 : y32 (o + 1) = some (.inr (0, 7)) := (ey32 _ (by omega)).trans vy1
  replace vr1 : R32 o 2 = some (o + 1) := (er32 _ _ (by omega)).trans vr1
  replace vy2 : y32 (o + 2) = some (.inr (0, 5450)) := (ey32 _ (by omega)).trans vy2
  replace vr2 : R32 o 3 = some (o + 2) := (er32 _ _ (by omega)).trans vr2
  replace vy3 : y32 (o + 3) = some (.inr (0, 10900)) := (ey32 _ (by omega)).trans vy3
  replace vr3 : R32 o 4 = some (o + 3) := (er32 _ _ (by omega)).trans vr3
  replace vy4 : y32 (o + 4) = some (.inr (2, 2)) := (ey32 _ (by omega)).trans vy4
  replace vr4 : R32 o 5 = some (o + 4) := (er32 _ _ (by omega)).trans vr4
  replace vy5 : y32 (o + 5) = some (.inr (0, 360)) := (ey32 _ (by omega)).trans vy5
  replace vr5 : R32 o 6 = some (o + 5) := (er32 _ _ (by omega)).trans vr5
  replace vy6 : y32 (o + 6) = some (.inr (0, 16)) := (ey32 _ (by omega)).trans vy6
  replace vr6 : R32 o 7 = some (o + 6) := (er32 _ _ (by omega)).trans vr6
  replace vy7 : y32 (o + 7) = some (.inr (0, 320)) := (ey32 _ (by omega)).trans vy7
  replace vr7 : R32 o 9 = some (o + 7) := (er32 _ _ (by omega)).trans vr7
  replace vy8 : y32 (o + 8) = some (.inr (0, 16)) := (ey32 _ (by omega)).trans vy8
  replace vr8 : R32 o 10 = some (o + 8) := (er32 _ _ (by omega)).trans vr8
  replace vy9 : y32 (o + 9) = some (.inr (0, 400)) := (ey32 _ (by omega)).trans vy9
  replace vr9 : R32 o 12 = some (o + 9) := (er32 _ _ (by omega)).trans vr9
  replace vy11 : y32 (o + 10) = some (.inr (0, 96)) := (ey32 _ (by omega)).trans vy11
  replace vr11 : R32 o 22 = some (o + 10) := (er32 _ _ (by omega)).trans vr11
  replace vy12 : y32 (o + 11) = some (.inr (0, 400)) := (ey32 _ (by omega)).trans vy12
  replace vr12 : R32 o 24 = some (o + 11) := (er32 _ _ (by omega)).trans vr12
  replace vy13 : y32 (o + 12) = some (.inr (0, 400)) := (ey32 _ (by omega)).trans vy13
  replace vr13 : R32 o 25 = some (o + 12) := (er32 _ _ (by omega)).trans vr13
  replace vy14 : y32 (o + 13) = some (.inr (0, 400)) := (ey32 _ (by omega)).trans vy14
  replace vr14 : R32 o 27 = some (o + 13) := (er32 _ _ (by omega)).trans vr14
  replace vy15 : y32 (o + 14) = some (.inr (0, 400)) := (ey32 _ (by omega)).trans vy15
  replace vr15 : R32 o 28 = some (o + 14) := (er32 _ _ (by omega)).trans vr15
  replace vy16 : y32 (o + 15) = some (.inr (1, 8)) := (ey32 _ (by omega)).trans vy16
  replace vr16 : R32 o 31 = some (o + 15) := (er32 _ _ (by omega)).trans vr16
  replace vy17 : y32 (o + 16) = some (.inr (1, 7)) := (ey32 _ (by omega)).trans vy17
  replace vr17 : R32 o 32 = some (o + 16) := (er32 _ _ (by omega)).trans vr17
  replace vy18 : y32 (o + 17) = some (.inr (1, 4)) := (ey32 _ (by omega)).trans vy18
  replace vr18 : R32 o 33 = some (o + 17) := (er32 _ _ (by omega)).trans vr18
  replace vy19 : y32 (o + 18) = some (.inr (1, 13)) := (ey32 _ (by omega)).trans vy19
  replace vr19 : R32 o 35 = some (o + 18) := (er32 _ _ (by omega)).trans vr19
  replace vy20 : y32 (o + 19) = some (.inr (1, 13)) := (ey32 _ (by omega)).trans vy20
  replace vr20 : R32 o 36 = some (o + 19) := (er32 _ _ (by omega)).trans vr20
  replace vy21 : y32 (o + 20) = some (.inr (1, 400)) := (ey32 _ (by omega)).trans vy21
  replace vr21 : R32 o 37 = some (o + 20) := (er32 _ _ (by omega)).trans vr21
  replace vy22 : y32 (o + 21) = some (.inr (0, 7)) := (ey32 _ (by omega)).trans vy22
  replace vr22 : R32 o 41 = some (o + 21) := (er32 _ _ (by omega)).trans vr22
  replace vy23 : y32 (o + 22) = some (.inr (0, 120)) := (ey32 _ (by omega)).trans vy23
  replace vr23 : R32 o 42 = some (o + 22) := (er32 _ _ (by omega)).trans vr23
  replace vy24 : y32 (o + 23) = some (.inr (0, 6)) := (ey32 _ (by omega)).trans vy24
  replace vr24 : R32 o 43 = some (o + 23) := (er32 _ _ (by omega)).trans vr24
  replace vy25 : y32 (o + 24) = some (.inr (0, 6)) := (ey32 _ (by omega)).trans vy25
  replace vr25 : R32 o 44 = some (o + 24) := (er32 _ _ (by omega)).trans vr25
  replace vy26 : y32 (o + 25) = some (.inr (0, 6)) := (ey32 _ (by omega)).trans vy26
  replace vr26 : R32 o 45 = some (o + 25) := (er32 _ _ (by omega)).trans vr26
  replace vy27 : y32 (o + 26) = some (.inr (0, 49)) := (ey32 _ (by omega)).trans vy27
  replace vr27 : R32 o 47 = some (o + 26) := (er32 _ _ (by omega)).trans vr27
  replace vy28 : y32 (o + 27) = some (.inr (0, 896)) := (ey32 _ (by omega)).trans vy28
  replace vr28 : R32 o 48 = some (o + 27) := (er32 _ _ (by omega)).trans vr28
  replace vy29 : y32 (o + 28) = some (.inr (0, 7)) := (ey32 _ (by omega)).trans vy29
  replace vr29 : R32 o 49 = some (o + 28) := (er32 _ _ (by omega)).trans vr29
  replace vy30 : y32 (o + 29) = some (.inr (1, 21)) := (ey32 _ (by omega)).trans vy30
  replace vr30 : R32 o 50 = some (o + 29) := (er32 _ _ (by omega)).trans vr30
  replace vy31 : y32 (o + 30) = some (.inr (1, 4)) := (ey32 _ (by omega)).trans vy31
  replace vr31 : R32 o 51 = some (o + 30) := (er32 _ _ (by omega)).trans vr31
  replace Y0 : ∀ a, a ≤ o → y32 a = y a := fun a h => (ey32 a (by omega)).trans (Y0 a h)
  replace hyo : y32 o = some (.inl 11) := (ey32 o (by omega)).trans hyo
  replace G0 : ∀ a j, a < o → R32 a j = R a j := fun a j h => (er32 a j (by omega)).trans (G0 a j h)
  refine sm_in (sm_in (sm_in (And.intro hyo (?_))))
  show sm_W ex d 1 20 123 411 [some (.ref o)] [] (o + 32, y32, (sm_st (sm_st I o 18 (-1)) o 55 (-1)), (sm_st (sm_st (sm_st (sm_st (sm_st (sm_st (sm_st (sm_st (sm_st (sm_st (sm_st (sm_st (sm_st (sm_st (sm_st (sm_st (sm_st (sm_st (sm_st (sm_st (sm_st (sm_st (sm_st L (o + 15) 0 13358) (o + 15) 1 277892) (o + 15) 2 21285028) (o + 15) 3 267652) (o + 15) 4 16392370) (o + 15) 5 719725925) (o + 15) 6 278194) (o + 15) 7 24865546418) (o + 16) 0 278194) (o + 16) 1 146885) (o + 16) 2 404362868) (o + 16) 3 688) (o + 16) 4 267652) (o + 16) 5 6452) (o + 16) 6 21285028) (o + 17) 0 21285043) (o + 17) 1 19058323) (o + 17) 2 15556971699) (o + 17) 3 67155) (o + 30) 0 19508008645) (o + 30) 1 652384069) (o + 30) 2 538513902) (o + 30) 3 525939), R32) Q
  refine sm_in (sm_in (sm_in (And.intro (by decide) (And.intro (by decide) (And.intro (Nat.le_of_ble_eq_true rfl) (And.intro (Nat.le_of_ble_eq_true rfl) (sm_in (And.intro ((sm_up_ne (by omega)).trans hyo) (?_)))))))))
  show sm_W ex d 0 0 123 419 [some (.ref o)] [] (o + 33, sm_up y32 (o + 32) (some (.inr (0, 20))), (sm_st (sm_st I o 18 (-1)) o 55 (-1)), (sm_st (sm_st (sm_st (sm_st (sm_st (sm_st (sm_st (sm_st (sm_st (sm_st (sm_st (sm_st (sm_st (sm_st (sm_st (sm_st (sm_st (sm_st (sm_st (sm_st (sm_st (sm_st (sm_st L (o + 15) 0 13358) (o + 15) 1 277892) (o + 15) 2 21285028) (o + 15) 3 267652) (o + 15) 4 16392370) (o + 15) 5 719725925) (o + 15) 6 278194) (o + 15) 7 24865546418) (o + 16) 0 278194) (o + 16) 1 146885) (o + 16) 2 404362868) (o + 16) 3 688) (o + 16) 4 267652) (o + 16) 5 6452) (o + 16) 6 21285028) (o + 17) 0 21285043) (o + 17) 1 19058323) (o + 17) 2 15556971699) (o + 17) 3 67155) (o + 30) 0 19508008645) (o + 30) 1 652384069) (o + 30) 2 538513902) (o + 30) 3 525939), sm_st R32 o 58 (some (o + 32))) Q
  have ey34 : ∀ a, a < o + 32 → (sm_up y32 (o + 32) (some (.inr (0, 20)))) a = y32 a := fun a h => sm_up_ne (by omega)
  have vy34 : (sm_up y32 (o + 32) (some (.inr (0, 20)))) (o + 32) = some (.inr (0, 20)) := sm_up_s
  have er34 : ∀ a j, ¬ (a = o ∧ j = 58) → (sm_st R32 o 58 (some (o + 32))) a j = R32 a j := fun a j h => sm_st_or _ _ (by omega)
  have vr34 : (sm_st R32 o 58 (some (o + 32))) o 58 = some (o + 32) := sm_st_s _ _ _ _
  generalize sm_up y32 (o + 32) (some (.inr (0, 20))) = y34 at ey34 vy34 ⊢
  generalize sm_st R32 o 58 (some (o + 32)) = R34 at er34 vr34 ⊢
  replace vy1 : y34 (o + 1) = some (.inr (0, 7)) := (ey34 _ (by omega)).trans vy1
  replace vr1 : R34 o 2 = some (o + 1) := (er34 _ _ (by omega)).trans vr1
  replace vy2 : y34 (o + 2) = some (.inr (0, 5450)) := (ey34 _ (by omega)).trans vy2
  replace vr2 : R34 o 3 = some (o + 2) := (er34 _ _ (by omega)).trans vr2
  replace vy3 : y34 (o + 3) = some (.inr (0, 10900)) := (ey34 _ (by omega)).trans vy3
  replace vr3 : R34 o 4 = some (o + 3) := (er34 _ _ (by omega)).trans vr3
  replace vy4 : y34 (o + 4) = some (.inr (2, 2)) := (ey34 _ (by omega)).trans vy4
  replace vr4 : R34 o 5 = some (o + 4) := (er34 _ _ (by omega)).trans vr4
  replace vy5 : y34 (o + 5) = some (.inr (0, 360)) := (ey34 _ (by omega)).trans vy5
  replace vr5 : R34 o 6 = some (o + 5) := (er34 _ _ (by omega)).trans vr5
  replace vy6 : y34 (o + 6) = some (.inr (0, 16)) := (ey34 _ (by omega)).trans vy6
  replace vr6 : R34 o 7 = some (o + 6) := (er34 _ _ (by omega)).trans vr6
  replace vy7 : y34 (o + 7) = some (.inr (0, 320)) := (ey34 _ (by omega)).trans vy7
  replace vr7 : R34 o 9 = some (o + 7) := (er34 _ _ (by omega)).trans vr7
  replace vy8 : y34 (o + 8) = some (.inr (0, 16)) := (ey34 _ (by omega)).trans vy8
  replace vr8 : R34 o 10 = some (o + 8) := (er34 _ _ (by omega)).trans vr8
  replace vy9 : y34 (o + 9) = some (.inr (0, 400)) := (ey34 _ (by omega)).trans vy9
  replace vr9 : R34 o 12 = some (o + 9) := (er34 _ _ (by omega)).trans vr9
  replace vy11 : y34 (o + 10) = some (.inr (0, 96)) := (ey34 _ (by omega)).trans vy11
  replace vr11 : R34 o 22 = some (o + 10) := (er34 _ _ (by omega)).trans vr11
  replace vy12 : y34 (o + 11) = some (.inr (0, 400)) := (ey34 _ (by omega)).trans vy12
  replace vr12 : R34 o 24 = some (o + 11) := (er34 _ _ (by omega)).trans vr12
  replace vy13 : y34 (o + 12) = some (.inr (0, 400)) := (ey34 _ (by omega)).trans vy13
  replace vr13 : R34 o 25 = some (o + 12) := (er34 _ _ (by omega)).trans vr13
  replace vy14 : y34 (o + 13) = some (.inr (0, 400)) := (ey34 _ (by omega)).trans vy14
  replace vr14 : R34 o 27 = some (o + 13) := (er34 _ _ (by omega)).trans vr14
  replace vy15 : y34 (o + 14) = some (.inr (0, 400)) := (ey34 _ (by omega)).trans vy15
  replace vr15 : R34 o 28 = some (o + 14) := (er34 _ _ (by omega)).trans vr15
  replace vy16 : y34 (o + 15) = some (.inr (1, 8)) := (ey34 _ (by omega)).trans vy16
  replace vr16 : R34 o 31 = some (o + 15) := (er34 _ _ (by omega)).trans vr16
  replace vy17 : y34 (o + 16) = some (.inr (1, 7)) := (ey34 _ (by omega)).trans vy17
  replace vr17 : R34 o 32 = some (o + 16) := (er34 _ _ (by omega)).trans vr17
  replace vy18 : y34 (o + 17) = some (.inr (1, 4)) := (ey34 _ (by omega)).trans vy18
  replace vr18 : R34 o 33 = some (o + 17) := (er34 _ _ (by omega)).trans vr18
  replace vy19 : y34 (o + 18) = some (.inr (1, 13)) := (ey34 _ (by omega)).trans vy19
  replace vr19 : R34 o 35 = some (o + 18) := (er34 _ _ (by omega)).trans vr19
  replace vy20 : y34 (o + 19) = some (.inr (1, 13)) := (ey34 _ (by omega)).trans vy20
  replace vr20 : R34 o 36 = some (o + 19) := (er34 _ _ (by omega)).trans vr20
  replace vy21 : y34 (o + 20) = some (.inr (1, 400)) := (ey34 _ (by omega)).trans vy21
  replace vr21 : R34 o 37 = some (o + 20) := (er34 _ _ (by omega)).trans vr21
  replace vy22 : y34 (o + 21) = some (.inr (0, 7)) := (ey34 _ (by omega)).trans vy22
  replace vr22 : R34 o 41 = some (o + 21) := (er34 _ _ (by omega)).trans vr22
  replace vy23 : y34 (o + 22) = some (.inr (0, 120)) := (ey34 _ (by omega)).trans vy23
  replace vr23 : R34 o 42 = some (o + 22) := (er34 _ _ (by omega)).trans vr23
  replace vy24 : y34 (o + 23) = some (.inr (0, 6)) := (ey34 _ (by omega)).trans vy24
  replace vr24 : R34 o 43 = some (o + 23) := (er34 _ _ (by omega)).trans vr24
  replace vy25 : y34 (o + 24) = some (.inr (0, 6)) := (ey34 _ (by omega)).trans vy25
  replace vr25 : R34 o 44 = some (o + 24) := (er34 _ _ (by omega)).trans vr25
  replace vy26 : y34 (o + 25) = some (.inr (0, 6)) := (ey34 _ (by omega)).trans vy26
  replace vr26 : R34 o 45 = some (o + 25) := (er34 _ _ (by omega)).trans vr26
  replace vy27 : y34 (o + 26) = some (.inr (0, 49)) := (ey34 _ (by omega)).trans vy27
  replace vr27 : R34 o 47 = some (o + 26) := (er34 _ _ (by omega)).trans vr27
  replace vy28 : y34 (o + 27) = some (.inr (0, 896)) := (ey34 _ (by omega)).trans vy28
  replace vr28 : R34 o 48 = some (o + 27) := (er34 _ _ (by omega)).trans vr28
  replace vy29 : y34 (o + 28) = some (.inr (0, 7)) := (ey34 _ (by omega)).trans vy29
  replace vr29 : R34 o 49 = some (o + 28) := (er34 _ _ (by omega)).trans vr29
  replace vy30 : y34 (o + 29) = some (.inr (1, 21)) := (ey34 _ (by omega)).trans vy30
  replace vr30 : R34 o 50 = some (o + 29) := (er34 _ _ (by omega)).trans vr30
  replace vy31 : y34 (o + 30) = some (.inr (1, 4)) := (ey34 _ (by omega)).trans vy31
  replace vr31 : R34 o 51 = some (o + 30) := (er34 _ _ (by omega)).trans vr31
  replace vy32 : y34 (o + 31) = some (.inr (0, 96)) := (ey34 _ (by omega)).trans vy32
  replace vr32 : R34 o 52 = some (o + 31) := (er34 _ _ (by omega)).trans vr32
  replace Y0 : ∀ a, a ≤ o → y34 a = y a := fun a h => (ey34 a (by omega)).trans (Y0 a h)
  replace hyo : y34 o = some (.inl 11) := (ey34 o (by omega)).trans hyo
  replace G0 : ∀ a j, a < o → R34 a j = R a j := fun a j h => (er34 a j (by omega)).trans (G0 a j h)
  refine sm_in (sm_in (sm_in (And.intro hyo (?_))))
  show sm_W ex d 0 0 123 424 [some (.ref o)] [] (o + 33, y34, (sm_st (sm_st (sm_st I o 18 (-1)) o 55 (-1)) o 59 (-1)), (sm_st (sm_st (sm_st (sm_st (sm_st (sm_st (sm_st (sm_st (sm_st (sm_st (sm_st (sm_st (sm_st (sm_st (sm_st (sm_st (sm_st (sm_st (sm_st (sm_st (sm_st (sm_st (sm_st L (o + 15) 0 13358) (o + 15) 1 277892) (o + 15) 2 21285028) (o + 15) 3 267652) (o + 15) 4 16392370) (o + 15) 5 719725925) (o + 15) 6 278194) (o + 15) 7 24865546418) (o + 16) 0 278194) (o + 16) 1 146885) (o + 16) 2 404362868) (o + 16) 3 688) (o + 16) 4 267652) (o + 16) 5 6452) (o + 16) 6 21285028) (o + 17) 0 21285043) (o + 17) 1 19058323) (o + 17) 2 15556971699) (o + 17) 3 67155) (o + 30) 0 19508008645) (o + 30) 1 652384069) (o + 30) 2 538513902) (o + 30) 3 525939), R34) Q
  refine sm_in (sm_in (And.intro hyo (sm_gfr rfl vr2 (sm_in (sm_in (sm_in (Exists.intro 5450 (And.intro vy2 (And.intro (sm_lin (by decide)) (?_))))))))))
  show sm_W ex d 0 0 123 431 [some (.ref o)] [] (o + 33, y34, (sm_st (sm_st (sm_st (sm_st I o 18 (-1)) o 55 (-1)) o 59 (-1)) (o + 2) 3 (-1)), (sm_st (sm_st (sm_st (sm_st (sm_st (sm_st (sm_st (sm_st (sm_st (sm_st (sm_st (sm_st (sm_st (sm_st (sm_st (sm_st (sm_st (sm_st (sm_st (sm_st (sm_st (sm_st (sm_st L (o + 15) 0 13358) (o + 15) 1 277892) (o + 15) 2 21285028) (o + 15) 3 267652) (o + 15) 4 16392370) (o + 15) 5 719725925) (o + 15) 6 278194) (o + 15) 7 24865546418) (o + 16) 0 278194) (o + 16) 1 146885) (o + 16) 2 404362868) (o + 16) 3 688) (o + 16) 4 267652) (o + 16) 5 6452) (o + 16) 6 21285028) (o + 17) 0 21285043) (o + 17) 1 19058323) (o + 17) 2 15556971699) (o + 17) 3 67155) (o + 30) 0 19508008645) (o + 30) 1 652384069) (o + 30) 2 538513902) (o + 30) 3 525939), R34) Q
  refine sm_in (sm_in (And.intro hyo (sm_gfr rfl vr2 (sm_in (sm_in (sm_in (Exists.intro 5450 (And.intro vy2 (And.intro (sm_lin (by decide)) (?_))))))))))
  show sm_W ex d 0 0 123 438 [some (.ref o)] [] (o + 33, y34, (sm_st (sm_st (sm_st (sm_st (sm_st I o 18 (-1)) o 55 (-1)) o 59 (-1)) (o + 2) 3 (-1)) (o + 2) 5 1), (sm_st (sm_st (sm_st (sm_st (sm_st (sm_st (sm_st (sm_st (sm_st (sm_st (sm_st (sm_st (sm_st (sm_st (sm_st (sm_st (sm_st (sm_st (sm_st (sm_st (sm_st (sm_st (sm_st L (o + 15) 0 13358) (o + 15) 1 277892) (o + 15) 2 21285028) (o + 15) 3 267652) (o + 15) 4 16392370) (o + 15) 5 719725925) (o + 15) 6 278194) (o + 15) 7 24865546418) (o + 16) 0 278194) (o + 16) 1 146885) (o + 16) 2 404362868) (o + 16) 3 688) (o + 16) 4 267652) (o + 16) 5 6452) (o + 16) 6 21285028) (o + 17) 0 21285043) (o + 17) 1 19058323) (o + 17) 2 15556971699) (o + 17) 3 67155) (o + 30) 0 19508008645) (o + 30) 1 652384069) (o + 30) 2 538513902) (o + 30) 3 525939), R34) Q
  refine sm_in (sm_in (And.intro hyo (sm_gfr rfl vr2 (sm_in (sm_in (sm_in (Exists.intro 5450 (And.intro vy2 (And.intro (sm_lin (by decide)) (?_))))))))))
  show sm_W ex d 0 0 123 446 [some (.ref o)] [] (o + 33, y34, (sm_st (sm_st (sm_st (sm_st (sm_st (sm_st I o 18 (-1)) o 55 (-1)) o 59 (-1)) (o + 2) 3 (-1)) (o + 2) 5 1) (o + 2) 7 2), (sm_st (sm_st (sm_st (sm_st (sm_st (sm_st (sm_st (sm_st (sm_st (sm_st (sm_st (sm_st (sm_st (sm_st (sm_st (sm_st (sm_st (sm_st (sm_st (sm_st (sm_st (sm_st (sm_st L (o + 15) 0 13358) (o + 15) 1 277892) (o + 15) 2 21285028) (o + 15) 3 267652) (o + 15) 4 16392370) (o + 15) 5 719725925) (o + 15) 6 278194) (o + 15) 7 24865546418) (o + 16) 0 278194) (o + 16) 1 146885) (o + 16) 2 404362868) (o + 16) 3 688) (o + 16) 4 267652) (o + 16) 5 6452) (o + 16) 6 21285028) (o + 17) 0 21285043) (o + 17) 1 19058323) (o + 17) 2 15556971699) (o + 17) 3 67155) (o + 30) 0 19508008645) (o + 30) 1 652384069) (o + 30) 2 538513902) (o + 30) 3 525939), R34) Q
  refine sm_in (sm_in (And.intro hyo (sm_gfr rfl vr2 (sm_in (sm_in (sm_in (Exists.intro 5450 (And.intro vy2 (And.intro (sm_lin (by decide)) (?_))))))))))
  show sm_W ex d 0 0 123 454 [some (.ref o)] [] (o + 33, y34, (sm_st (sm_st (sm_st (sm_st (sm_st (sm_st (sm_st I o 18 (-1)) o 55 (-1)) o 59 (-1)) (o + 2) 3 (-1)) (o + 2) 5 1) (o + 2) 7 2) (o + 2) 8 (-1)), (sm_st (sm_st (sm_st (sm_st (sm_st (sm_st (sm_st (sm_st (sm_st (sm_st (sm_st (sm_st (sm_st (sm_st (sm_st (sm_st (sm_st (sm_st (sm_st (sm_st (sm_st (sm_st (sm_st L (o + 15) 0 13358) (o + 15) 1 277892) (o + 15) 2 21285028) (o + 15) 3 267652) (o + 15) 4 16392370) (o + 15) 5 719725925) (o + 15) 6 278194) (o + 15) 7 24865546418) (o + 16) 0 278194) (o + 16) 1 146885) (o + 16) 2 404362868) (o + 16) 3 688) (o + 16) 4 267652) (o + 16) 5 6452) (o + 16) 6 21285028) (o + 17) 0 21285043) (o + 17) 1 19058323) (o + 17) 2 15556971699) (o + 17) 3 67155) (o + 30) 0 19508008645) (o + 30) 1 652384069) (o + 30) 2 538513902) (o + 30) 3 525939), R34) Q
  exact sm_in (And.intro rfl (And.intro rfl (k _ _ ⟨Y0, G0⟩ vy1 vr1 vy2 vr2 vy3 vr3 vy4 vr4 vy5 vr5 vy6 vr6 vy7 vr7 vy8 vr8 vy9 vr9 vy11 vr11 vy12 vr12 vy13 vr13 vy14 vr14 vy15 vr15 vy16 vr16 vy17 vr17 vy18 vr18 vy19 vr19 vy20 vr20 vy21 vr21 vy22 vr22 vy23 vr23 vy24 vr24 vy25 vr25 vy26 vr26 vy27 vr27 vy28 vr28 vy29 vr29 vy30 vr30 vy31 vr31 vy32 vr32 vy34 vr34)))

