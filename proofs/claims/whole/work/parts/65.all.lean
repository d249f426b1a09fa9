-- THE LAW, but for law() and orders()
set_option maxRecDepth 100000 in
theorem law_all {ex : sm_O} {d bc bs x0 : Nat} {y : sm_Y} {I : Nat → Nat → Int32} {L : Nat → Nat → Int64} {R : Nat → Nat → Option Nat} {Q : sm_Q} (hd : 60 ≤ d) (hE : exOK ex) (hx0 : x0 < 2) (hl : (ex.1 x0).1 ≤ 100000) (h_law : lwOK ex 454) (h_orders : lwOK ex 467) (hQ : ∀ μ, Q (some (.int 1)) μ) (hbc : 254 ≤ bc) (hbs : 27274 ≤ bs) : sm_W ex d bc bs 241 0 [some (.retAddr x0), none, none, none] [] (0, y, I, L, R) Q := by
  refine law_start (by omega) hE (by omega) (by omega) ?_
  intro y' R' hc hm
  have hn : nNone st_g = 2 := rfl
  exact sm_in (sm_in (And.intro (Nat.le_of_ble_eq_true rfl) (law_loop hd hE hx0 hl h_law h_orders hQ (ex.1 x0).1 0 _ _ 156 y' st_I st_L R' st_g (by omega) (by omega) st_Wf hc hm (by omega) (by omega))))

