-- THE START
def st_r : List (Nat × Nat × Nat) := [(0, 0, 1), (0, 1, 6), (0, 2, 50), (0, 3, 54), (0, 4, 73), (0, 5, 102), (0, 6, 107), (0, 7, 112), (0, 9, 117), (0, 10, 118), (0, 11, 119), (0, 13, 120), (0, 14, 121), (0, 17, 122), (1, 0, 2), (1, 1, 3), (1, 2, 4), (1, 3, 5), (6, 0, 7), (6, 1, 8), (7, 0, 14), (7, 1, 20), (7, 2, 26), (7, 3, 32), (7, 4, 38), (7, 5, 44), (8, 0, 9), (8, 1, 10), (8, 2, 11), (8, 3, 12), (8, 4, 13), (14, 0, 15), (14, 1, 16), (14, 2, 17), (14, 3, 18), (14, 4, 19), (20, 0, 21), (20, 1, 22), (20, 2, 23), (20, 3, 24), (20, 4, 25), (26, 0, 27), (26, 1, 28), (26, 2, 29), (26, 3, 30), (26, 4, 31), (32, 0, 33), (32, 1, 34), (32, 2, 35), (32, 3, 36), (32, 4, 37), (38, 0, 39), (38, 1, 40), (38, 2, 41), (38, 3, 42), (38, 4, 43), (44, 0, 45), (44, 1, 46), (44, 2, 47), (44, 3, 48), (44, 4, 49), (50, 0, 6), (50, 1, 51), (51, 0, 52), (51, 1, 53), (54, 0, 1), (54, 1, 50), (54, 2, 55), (54, 3, 58), (54, 4, 63), (54, 5, 65), (54, 6, 67), (55, 0, 56), (55, 1, 57), (58, 0, 59), (58, 1, 60), (58, 2, 61), (58, 3, 62), (63, 0, 64), (65, 0, 66), (67, 0, 68), (67, 1, 69), (67, 2, 70), (67, 3, 71), (67, 4, 72), (73, 0, 50), (73, 1, 74), (73, 2, 75), (73, 3, 76), (74, 0, 77), (74, 1, 82), (74, 2, 87), (74, 3, 92), (74, 4, 97), (77, 0, 78), (77, 1, 79), (77, 2, 80), (77, 3, 81), (82, 0, 83), (82, 1, 84), (82, 2, 85), (82, 3, 86), (87, 0, 88), (87, 1, 89), (87, 2, 90), (87, 3, 91), (92, 0, 93), (92, 1, 94), (92, 2, 95), (92, 3, 96), (97, 0, 98), (97, 1, 99), (97, 2, 100), (97, 3, 101), (102, 0, 50), (102, 1, 103), (102, 3, 104), (102, 4, 105), (102, 7, 106), (107, 0, 108), (107, 1, 109), (107, 2, 110), (107, 3, 111), (112, 0, 113), (112, 1, 114), (112, 2, 115), (112, 3, 116), (120, 0, 119), (123, 2, 124), (123, 3, 125), (123, 4, 126), (123, 5, 127), (123, 6, 128), (123, 7, 129), (123, 9, 130), (123, 10, 131), (123, 12, 132), (123, 22, 133), (123, 24, 134), (123, 25, 135), (123, 27, 136), (123, 28, 137), (123, 31, 138), (123, 32, 139), (123, 33, 140), (123, 35, 141), (123, 36, 142), (123, 37, 143), (123, 41, 144), (123, 42, 145), (123, 43, 146), (123, 44, 147), (123, 45, 148), (123, 47, 149), (123, 48, 150), (123, 49, 151), (123, 50, 152), (123, 51, 153), (123, 52, 154), (123, 58, 155)]
def allP (P : Nat → Prop) : Nat → Prop
  | 0 => True
  | n + 1 => allP P n ∧ P n
theorem allP_get {P : Nat → Prop} : ∀ (n : Nat), allP P n → ∀ o, o < n → P o
  | 0, _, _, h => absurd h (Nat.not_lt_zero _)
  | n + 1, hp, o, h => by
    by_cases e : o = n
    · rw [e]; exact hp.2
    · exact allP_get n hp.1 o (by omega)
theorem st_ro : ∀ o, o < 156 → ∀ j, j < 64 → (Nat.ble 1000 (sm_r0 o j) || st_r.any (fun t => Nat.beq t.1 o && (Nat.beq t.2.1 j && Nat.beq t.2.2 (sm_r0 o j)))) = true := by decide +kernel
theorem st_rl : ∀ o, o < 156 → (sm_nth [] sm_rl0 o).length ≤ 64 := by decide +kernel
theorem st_G {y : sm_Y} {R : Nat → Nat → Option Nat} (hy : allP (fun o => y o = sm_y0 o) 156) (hR : ∀ t ∈ st_r, R t.1 t.2.1 = some t.2.2) : sm_G y R := by
  refine ⟨allP_get 156 hy, fun o j h => ?_⟩
  by_cases e : o < 156
  · by_cases e2 : j < 64
    · have h2 := st_ro o e j e2
      rw [h, Bool.false_or, List.any_eq_true] at h2
      obtain ⟨t, t1, t2⟩ := h2
      rw [Bool.and_eq_true, Bool.and_eq_true] at t2
      have := hR t t1
      rw [Nat.eq_of_beq_eq_true t2.1, Nat.eq_of_beq_eq_true t2.2.1, Nat.eq_of_beq_eq_true t2.2.2] at this
      exact this
    · exfalso
      have : sm_r0 o j = 1000 := sm_nth_hi _ _ (by have := st_rl o e; omega)
      rw [this] at h
      exact absurd h (by decide)
  · rw [sm_r0_hi (by omega)] at h
    exact absurd h (by decide)
def st_s : St := (0, fun _ => 0, fun _ => 0, fun _ => 0, fun _ => false, none, 0, fun j => if j = 1 then 1 else if j = 3 then 2 else 0)
def st_g : GG := ((st_s, [], ([], none)), [], none, fun _ => none, (0, fun _ => 0), (0, -1, -1, 0, fun _ => 0))
theorem st_Wf : Wf st_g := by
  refine ⟨⟨⟨⟨by decide, fun i hi => absurd hi (Nat.not_lt_zero i), (fun u hu => by cases hu), by decide, by decide, by decide, by decide, by decide⟩, by decide, fun u hu => by cases hu⟩, ⟨by decide, fun x hx => by cases hx⟩, by decide, fun j hj => by cases hj⟩, ⟨by decide, fun x hx => by cases hx⟩, (fun d hd => by cases hd), (fun k x hx => by cases hx), by decide, fun j => by show 0 < 256; decide⟩
def st_I : Nat → Nat → Int32 := (sm_st (sm_st (sm_st (sm_st (sm_st (sm_st (sm_st (sm_st (nI9 (112) (nI9 (107) (nI9s 5 (73) (sm_st (nI9 58 (sm_st (nI9 (1) (fun _ _ => 0)) (6) 3 (-1))) (54) 9 (-1))))) 0 16 (-1)) 123 18 (-1)) 123 55 (-1)) 123 59 (-1)) (125) 3 (-1)) (125) 5 1) (125) 7 2) (125) 8 (-1))
def st_L : Nat → Nat → Int64 := (sm_st (sm_st (sm_st (sm_st (sm_st (sm_st (sm_st (sm_st (sm_st (sm_st (sm_st (sm_st (sm_st (sm_st (sm_st (sm_st (sm_st (sm_st (sm_st (sm_st (sm_st (sm_st (sm_st (fun _ _ => 0) (138) 0 13358) (138) 1 277892) (138) 2 21285028) (138) 3 267652) (138) 4 16392370) (138) 5 719725925) (138) 6 278194) (138) 7 24865546418) (139) 0 278194) (139) 1 146885) (139) 2 404362868) (139) 3 688) (139) 4 267652) (139) 5 6452) (139) 6 21285028) (140) 0 21285043) (140) 1 19058323) (140) 2 15556971699) (140) 3 67155) (153) 0 19508008645) (153) 1 652384069) (153) 2 538513902) (153) 3 525939)
theorem st_CI {y : sm_Y} {R : Nat → Nat → Option Nat} (hG : sm_G y R) (h0 : R 117 0 = none ∧ R 117 1 = none ∧ R 118 0 = none ∧ R 118 1 = none) : CI st_g 156 y st_I R := by
  refine ⟨Nat.le_refl _, hG, ⟨rfl, fun i hi => absurd hi (Nat.not_lt_zero i), rfl, rfl, rfl, ?_⟩, ⟨rfl, rfl, rfl⟩, ⟨rfl, rfl, ⟨rfl, by decide, fun _ => (0, 0), 0, ⟨rfl, by decide, fun k hk => absurd hk (Nat.not_lt_zero k)⟩, fun c x hx => by cases hx⟩, fun i l hl => by cases hl⟩, ⟨rfl, fun i x hx => by cases hx⟩, ⟨rfl, fun j hj => absurd hj (Nat.not_lt_zero j)⟩, ⟨rfl, rfl, rfl, rfl, ?_⟩, rfl, ⟨fun _ => 0, fun _ => 0, fun k hk => ?_, fun h => by cases h⟩, cCa_none rfl rfl rfl⟩
  · intro j hj
    have : j = 0 ∨ j = 1 ∨ j = 2 ∨ j = 3 := by omega
    rcases this with rfl | rfl | rfl | rfl <;> rfl
  · intro j hj
    have : j = 0 ∨ j = 1 ∨ j = 2 ∨ j = 3 ∨ j = 4 ∨ j = 5 ∨ j = 6 := by omega
    rcases this with rfl | rfl | rfl | rfl | rfl | rfl | rfl <;> rfl
  · show R 117 k = none ∧ R 118 k = none
    have : k = 0 ∨ k = 1 := by omega
    rcases this with rfl | rfl
    · exact ⟨h0.1, h0.2.2.1⟩
    · exact ⟨h0.2.1, h0.2.2.2⟩
theorem st_MI : MI st_g st_I st_L := by
  refine ⟨⟨rfl, fun i hi => absurd hi (Nat.not_lt_zero i), rfl, rfl, ?_⟩, ⟨rfl, fun k x hx => by cases hx⟩, ⟨rfl, rfl, fun i l hl => by cases hl⟩, ⟨rfl, fun i x hx => by cases hx⟩, ⟨rfl, fun j hj => absurd hj (Nat.not_lt_zero j)⟩, ⟨rfl, rfl, rfl, rfl, rfl, ?_⟩, rfl, ?_, ?_⟩
  · intro j hj
    have : j = 0 ∨ j = 1 ∨ j = 2 ∨ j = 3 := by omega
    rcases this with rfl | rfl | rfl | rfl <;> rfl
  · intro j hj
    have : j = 0 ∨ j = 1 ∨ j = 2 ∨ j = 3 ∨ j = 4 ∨ j = 5 ∨ j = 6 := by omega
    rcases this with rfl | rfl | rfl | rfl | rfl | rfl | rfl <;> rfl
  · intro k hk
    show st_I 127 k = 0
    have : k = 0 ∨ k = 1 := by omega
    rcases this with rfl | rfl <;> rfl
  · exact ⟨⟨rfl, rfl, rfl, rfl, rfl, rfl, rfl, rfl⟩, ⟨rfl, rfl, rfl, rfl, rfl, rfl, rfl⟩, ⟨rfl, rfl, rfl, rfl⟩, rfl, rfl, rfl, rfl⟩

