-- ROTA (the model)
theorem roNe {b : Bst} {v N : Nat} (he : v ≤ 99 * N) (hN : N ≤ 5) : v < sp_bst b ↔ v < mBst b := by
  cases b with
  | none =>
    show _ < 1000000 ↔ _ < 100000000
    omega
  | some x => exact Iff.rfl
theorem mBst_le {b : Bst} {N : Nat} (h : ∀ x, b = some x → x.1 ≤ 99 * N) (hN : N ≤ 5) : mBst b ≤ 100000000 := by
  cases b with
  | none => exact Nat.le_refl _
  | some x => have := h x rfl; show x.1 ≤ 100000000; omega
theorem sp_search_b (F : Option (Nat × Law)) (N : Nat) : ∀ (h : Nat) (s : St) (e : Nat) (row : List Nat) (b : Bst), row.length + h = N → e ≤ 99 * row.length → (∀ x, b = some x → x.1 ≤ 99 * N) → ∀ x, sp_search F h s e row b = some x → x.1 ≤ 99 * N := by
  intro h
  induction h with
  | zero =>
    intro s e row b hl he hb x hx
    cases hx
    show e ≤ 99 * N
    omega
  | succ h ih =>
    intro s e row b hl he hb
    rw [sp_search_j]
    have : ∀ j, ∀ x, srJ F h s e row b j = some x → x.1 ≤ 99 * N := by
      intro j
      induction j with
      | zero => exact hb
      | succ j ihj =>
        rw [srJ_s]
        unfold srStep
        split
        · have hmo := sp_mo_le F s j
          exact ih _ _ _ _ (by rw [List.length_append]; show row.length + 1 + h = N; omega) (by rw [List.length_append]; show _ ≤ 99 * (row.length + 1); omega) ihj
        · exact ihj
    exact this (sMen s)
set_option maxHeartbeats 4000000 in
theorem lv_rota {ex : sm_O} {n N d h c e : Nat} {y : sm_Y} {R : Nat → Nat → Option Nat} {F : Option (Nat × Law)} {Q : sm_Q} {s : St} {row : List Nat} {b : Bst} {I : Nat → Nat → Int32} {L : Nat → Nat → Int64} (hd : 9 ≤ d) (hG : sm_G y R) (hN : N ≤ 5) (hcN : c + (h + 1) = N) (hrl : row.length = c) (he : e ≤ 99 * c) (hok : sp_ok s) (ht : sTerm s 0 + h + 1 ≤ 2000) (i0 : I 125 0 = nI (sMen s)) (ih : ∀ i, i < sMen s → I 125 (24 + i) = nI (sHold s i) ∧ I 125 (31 + i) = nI (sLook s i)) (h20 : I 123 20 = 0) (hF : mForce I F) (hsn : mSn s (fun j => I 145 (20 * c + j))) (h147 : I 147 c = nI e)
    (kont : ∀ (I' : Nat → Nat → Int32) (L' : Nat → Nat → Int64) (w3 w4 : Option Value), roF c I I' L L' → mRo (sp_search F (h + 1) s e row b) I' → sm_W ex d 0 0 208 15 [some (.ref 123), some (.int (nI N)), some (.int (nI c + (-1))), w3, w4] [] (n, y, I', L', R) Q)
    (deep : ∀ (m : Nat) (I2 : Nat → Nat → Int32) (L2 : Nat → Nat → Int64) (w4 : Option Value) (bb : Bst), m < sMen s → (∀ x, bb = some x → x.1 ≤ 99 * N) → roF c I I2 L L2 → I2 146 c = nI m → I2 147 (c + 1) = nI (e + sp_mo F s m) → mS (sp_hour F (sp_mv s m)).1 (I2 125) → mRo bb I2 → (∀ (I3 : Nat → Nat → Int32) (L3 : Nat → Nat → Int64) (w3 w4 : Option Value), roF c I I3 L L3 → I3 146 c = nI m → mRo (sp_search F h (sp_hour F (sp_mv s m)).1 (e + sp_mo F s m) (row ++ [m]) bb) I3 → sm_W ex d 0 0 208 15 [some (.ref 123), some (.int (nI N)), some (.int (nI c)), w3, w4] [] (n, y, I3, L3, R) Q) → sm_W ex d 0 0 208 90 [some (.ref 123), some (.int (nI N)), some (.int (nI c)), some (.int (nI m)), w4] [.int 1] (n, y, I2, L2, R) Q) :
    ∀ (q m0 : Nat) (I1 : Nat → Nat → Int32) (L1 : Nat → Nat → Int64) (w4 : Option Value), m0 + q = sMen s → roF c I I1 L L1 → mS s (I1 125) → mRo (srJ F h s e row b m0) I1 → (∀ x, srJ F h s e row b m0 = some x → x.1 ≤ 99 * N) → sm_W ex d 0 0 208 33 [some (.ref 123), some (.int (nI N)), some (.int (nI c)), some (.int (nI m0)), w4] [] (n, y, I1, L1, R) Q := by
  have h7 := hok.1
  intro q
  induction q with
  | zero =>
    intro m0 I1 L1 w4 hm0 f1 s1 b1 bx1
    obtain rfl : m0 = sMen s := by omega
    refine w_X11_layRota_33 (d1 := 8) hG (by omega) ?_
    rw [s1.1, if_pos (Int32.le_refl _), if_neg (Int32.lt_irrefl)]
    refine w_X11_layRota_156 ?_
    exact kont I1 L1 _ _ f1 b1
  | succ q ihq =>
    intro m0 I1 L1 w4 hm0 f1 s1 b1 bx1
    have hm : m0 < sMen s := by omega
    have hmo := sp_mo_le F s m0
    -- the next one, from the loop's head
    have next : ∀ (I3 : Nat → Nat → Int32) (L3 : Nat → Nat → Int64) (w3 w4 : Option Value), roF c I I3 L L3 → I3 146 c = nI m0 → mRo (srJ F h s e row b (m0 + 1)) I3 → (∀ x, srJ F h s e row b (m0 + 1) = some x → x.1 ≤ 99 * N) → sm_W ex d 0 0 208 15 [some (.ref 123), some (.int (nI N)), some (.int (nI c)), w3, w4] [] (n, y, I3, L3, R) Q := by
      intro I3 L3 w3 w4 f3 e3 b3 bx3
      refine w_X11_layRota_15 (d1 := 8) hG (by omega) ?_
      rw [if_neg (nI_pos (by omega))]
      refine c_X11_putDeep hG (by omega) ?_
      refine w_X11_layRota_24 hG ?_
      have fX : ∀ a j, ¬ (a = 125 ∧ 4 ≤ j ∧ j < 24) → (sm_cp I3 145 (20 * c) 125 4 20) a j = I3 a j := fun a j hq => sm_cp_or _ (by omega)
      rw [nI_clamp (by omega), fX 146 c (by omega), e3, sm_n1]
      refine ⟨vp_in_nI (by omega) (by decide), ?_⟩
      refine ihq (m0 + 1) _ L3 _ (by omega) ⟨fun a j q1 q2 q3 q4 q5 q6 q7 => (fX a j q3).trans (f3.1 a j q1 q2 q3 q4 q5 q6 q7), f3.2⟩ ?_ (mRo_kept (fun a j q => fX a j (by omega)) b3) bx3
      refine mS_deep h7 ?_ (fun i hi => ⟨?_, ?_⟩) hsn (fun j hj => ?_)
      · rw [fX 125 0 (by omega), f3.1 125 0 (by omega) (by omega) (by omega) (by omega) (by omega) (by omega) (by omega)]
        exact i0
      · rw [fX 125 _ (by omega), f3.1 125 _ (by omega) (by omega) (by omega) (by omega) (by omega) (by omega) (by omega)]
        exact (ih i hi).1
      · rw [fX 125 _ (by omega), f3.1 125 _ (by omega) (by omega) (by omega) (by omega) (by omega) (by omega) (by omega)]
        exact (ih i hi).2
      · rw [sm_cp_in _ _ _ (by omega) (by omega), f3.1 145 _ (by omega) (by omega) (by omega) (by omega) (by omega) (by omega) (by omega)]
        exact congrArg (I 145) (by omega)
    -- he is tried
    have try_ : ∀ (I2 : Nat → Nat → Int32) (L2 : Nat → Nat → Int64) (w4 : Option Value), mFt I1 I2 L1 L2 → sp_ad F s m0 = true → sm_W ex 8 0 0 207 0 [some (.ref 123), some (.int (nI c)), some (.int (nI m0))] [] (n, y, I2, L2, R) (fun r μ1 => sm_W ex d 0 0 208 90 [some (.ref 123), some (.int (nI N)), some (.int (nI c)), some (.int (nI m0)), w4] (r.toList ++ []) μ1 Q) := by
      intro I2 L2 w4 f2 had
      have f12 : roF c I I2 L L2 := f1.trans (f2.m.ro c)
      have b2 : mRo (srJ F h s e row b m0) I2 := mRo_kept (fun a j q => f2.1 a j (by omega)) b1
      refine c_X11_tryMan (s := s) (F := F) (e := e) (B := mBst (srJ F h s e row b m0)) (Nat.le_refl 8) hG (by omega) (by omega) (mBst_le bx1 hN) (f2.S s1) hok (by omega) hm ?_ (f12.F hF) ?_ b2.1 ?_
      · rw [f12.1 123 20 (by omega) (by omega) (by omega) (by omega) (by omega) (by omega) (by omega)]
        exact h20
      · rw [f12.1 147 c (by omega) (by omega) (by omega) (by omega) (by omega) (by omega) (by omega)]
        exact h147
      · intro I3 L3 x f3 l3 e146 e147 s3 hx
        have f123 : roF c I I3 L L3 := f12.trans ⟨fun a j q1 q2 q3 q4 q5 q6 q7 => f3 a j (by omega) q2 q3 (by omega) (by omega), l3⟩
        have b3 : mRo (srJ F h s e row b m0) I3 := mRo_kept (fun a j q => f3 a j (by omega) (by omega) (by omega) (by omega) (by omega)) b2
        have hiff := roNe (b := srJ F h s e row b m0) (v := e + sp_mo F s m0) (N := N) (by omega) hN
        rcases hx with ⟨hx, rfl⟩ | ⟨hx, rfl⟩
        · have es : srJ F h s e row b (m0 + 1) = sp_search F h (sp_hour F (sp_mv s m0)).1 (e + sp_mo F s m0) (row ++ [m0]) (srJ F h s e row b m0) := by rw [srJ_s]; unfold srStep; rw [if_pos ⟨had, hiff.mpr hx.2, hx.1⟩]
          refine deep m0 I3 L3 w4 (srJ F h s e row b m0) hm bx1 f123 e146 e147 s3 b3 ?_
          intro I4 L4 w3 w4 f4 e4 b4
          refine next I4 L4 w3 w4 f4 e4 (by rw [es]; exact b4) ?_
          rw [es]
          exact sp_search_b F N h _ _ _ _ (by rw [List.length_append]; show row.length + 1 + h = N; omega) (by rw [List.length_append]; show _ ≤ 99 * (row.length + 1); omega) bx1
        · have es : srJ F h s e row b (m0 + 1) = srJ F h s e row b m0 := by rw [srJ_s]; unfold srStep; rw [if_neg (fun z => hx ⟨z.2.2, hiff.mp z.2.1⟩)]
          refine w_X11_layRota_90 (d1 := 8) hG (by omega) ?_
          rw [if_pos rfl]
          refine w_X11_layRota_156 ?_
          exact next I3 L3 _ _ f123 e146 (by rw [es]; exact b3) (by rw [es]; exact bx1)
    refine w_X11_layRota_33 (d1 := 8) hG (by omega) ?_
    have hlt : nI m0 < nI (sMen s) := (nI_ltI (by omega) (by omega)).mpr hm
    rw [s1.1, if_neg (by rw [nI_leI (by omega) (by omega)]; omega), s1.2.2.1]
    simp only [sp_up_eq hok.2.2.1 (by omega : sMen s ≤ 1000) hm]
    by_cases hu : sUp s = some m0
    · rw [if_pos hu, if_pos hlt]
      exact try_ I1 L1 _ (mFt.rfl' I1 L1) (by rw [sp_ad_eq, decide_eq_true hu]; rfl)
    · rw [if_neg hu]
      refine c_X11_canRelieve (s := s) (F := F) (by omega) hG s1 hok hm ?_ (f1.F hF) ?_
      · rw [f1.1 123 20 (by omega) (by omega) (by omega) (by omega) (by omega) (by omega) (by omega)]
        exact h20
      · intro I2 L2 x f2 hx
        have hx := sp_canx hx
        refine w_X11_layRota_59 (d1 := 8) hG (by omega) ?_
        rw [(f2.S s1).1]
        by_cases hc : sp_canb F s m0 = true
        · rw [if_pos hc] at hx
          rw [hx, if_neg (by decide), if_pos hlt]
          exact try_ I2 L2 _ f2 (by rw [sp_ad_eq, hc, Bool.or_true])
        · rw [if_neg hc] at hx
          rw [hx, if_pos rfl, sm_n1]
          have es : srJ F h s e row b (m0 + 1) = srJ F h s e row b m0 := by
            rw [srJ_s]
            unfold srStep
            rw [if_neg (fun z => by
              have := z.1
              rw [sp_ad_eq, decide_eq_false hu] at this
              exact hc (by simpa using this))]
          exact ihq (m0 + 1) I2 L2 _ (by omega) (f1.trans (f2.m.ro c)) (f2.S s1) (by rw [es]; exact mRo_kept (fun a j q => f2.1 a j (by omega)) b1) (by rw [es]; exact bx1)
set_option maxHeartbeats 4000000 in
theorem lp_rota {ex : sm_O} {n N d : Nat} {y : sm_Y} {R : Nat → Nat → Option Nat} {F : Option (Nat × Law)} {Q : sm_Q} (hd : 9 ≤ d) (hG : sm_G y R) (hN : N ≤ 5) :
    ∀ (h c : Nat), c + (h + 1) = N → ∀ (s : St) (e : Nat) (row : List Nat) (b : Bst) (I : Nat → Nat → Int32) (L : Nat → Nat → Int64) (w3 w4 : Option Value), row.length = c → e ≤ 99 * c → sp_ok s → sTerm s 0 + h + 1 ≤ 2000 → (∀ x, b = some x → x.1 ≤ 99 * N) → I 125 0 = nI (sMen s) → (∀ i, i < sMen s → I 125 (24 + i) = nI (sHold s i) ∧ I 125 (31 + i) = nI (sLook s i)) → I 123 20 = 0 → mForce I F → mSn s (fun j => I 145 (20 * c + j)) → I 147 c = nI e → rowI 146 I row → I 146 c = -1 → mRo b I →
    (∀ (I' : Nat → Nat → Int32) (L' : Nat → Nat → Int64) (w3 w4 : Option Value), roF c I I' L L' → mRo (sp_search F (h + 1) s e row b) I' → sm_W ex d 0 0 208 15 [some (.ref 123), some (.int (nI N)), some (.int (nI c + (-1))), w3, w4] [] (n, y, I', L', R) Q) →
    sm_W ex d 0 0 208 15 [some (.ref 123), some (.int (nI N)), some (.int (nI c)), w3, w4] [] (n, y, I, L, R) Q := by
  intro h
  induction h with
  | zero =>
    intro c hcN s e row b I L w3 w4 hrl he hok ht hb i0 ihl h20 hF hsn h147 hrow h146 hmr kont
    have h7 := hok.1
    refine w_X11_layRota_15 (d1 := 8) hG (by omega) ?_
    rw [if_neg (nI_pos (by omega))]
    refine c_X11_putDeep hG (by omega) ?_
    refine w_X11_layRota_24 hG ?_
    have fX : ∀ a j, ¬ (a = 125 ∧ 4 ≤ j ∧ j < 24) → (sm_cp I 145 (20 * c) 125 4 20) a j = I a j := fun a j hq => sm_cp_or _ (by omega)
    rw [nI_clamp (by omega), fX 146 c (by omega), h146, show (-1 : Int32) + 1 = nI 0 by decide]
    refine ⟨vp_in_nI (by omega) (by decide), ?_⟩
    refine lv_rota (h := 0) (c := c) (e := e) (s := s) (row := row) (b := b) (I := I) (L := L) hd hG hN hcN hrl he hok ht i0 ihl h20 hF hsn h147 kont ?_ (sMen s) 0 _ L _ (by omega) ⟨fun a j q1 q2 q3 q4 q5 q6 q7 => fX a j q3, fun _ _ _ _ _ => rfl⟩ ?_ (mRo_kept (fun a j q => fX a j (by omega)) hmr) hb
    · -- the last hour: it is the best
      intro m I2 L2 w4 bb hm hbb f2 e146 e147 s2 b2 kk
      have hmo := sp_mo_le F s m
      refine w_X11_layRota_90 (d1 := 8) hG (by omega) ?_
      obtain rfl : N = c + 1 := by omega
      rw [if_neg (by decide), if_pos (by rw [nI_pred]), nI_clamp (by omega), e147]
      refine ⟨vp_in_nI (by omega) (by decide), ?_⟩
      have key : ∀ (q j : Nat) (I3 : Nat → Nat → Int32), j + q = c + 1 → (∀ a i, ¬ (a = 123 ∧ i = 46) → a ≠ 148 → I3 a i = I2 a i) → I3 123 46 = nI (e + sp_mo F s m) → (∀ i, i < j → I3 148 i = I2 146 i) → sm_W ex d 0 0 208 113 [some (.ref 123), some (.int (nI (c + 1))), some (.int (nI c)), some (.int (nI m)), some (.int (nI j))] [] (n, y, I3, L2, R) Q := by
        intro q
        induction q with
        | zero =>
          intro j I3 hj f3 h46 h148
          obtain rfl : j = c + 1 := by omega
          refine w_X11_layRota_113 hG ?_
          rw [if_pos (Int32.le_refl _)]
          refine w_X11_layRota_156 ?_
          refine kk I3 L2 _ _ (f2.trans ⟨fun a i q1 q2 q3 q4 q5 q6 q7 => f3 a i (by omega) q7, fun _ _ _ _ _ => rfl⟩) ((f3 146 c (by omega) (by omega)).trans e146) ⟨h46, fun x hx => ?_⟩
          cases hx
          intro i v hv
          have hi : i < (row ++ [m]).length := (List.getElem?_eq_some_iff.mp hv).1
          rw [List.length_append] at hi
          have hi : i < row.length + 1 := hi
          rw [h148 i (by omega)]
          by_cases hi2 : i < row.length
          · rw [List.getElem?_append_left hi2] at hv
            rw [f2.1 146 i (by omega) (by omega) (by omega) (by omega) (by omega) (by omega) (by omega)]
            exact hrow i v hv
          · obtain rfl : i = row.length := by omega
            rw [List.getElem?_append_right (Nat.le_refl _), Nat.sub_self] at hv
            cases hv
            rw [hrl]
            exact e146
        | succ q ihq =>
          intro j I3 hj f3 h46 h148
          refine w_X11_layRota_113 hG ?_
          rw [if_neg (by rw [nI_leI (by omega) (by omega)]; omega), nI_clamp (by omega), sm_n1, f3 146 j (by omega) (by omega)]
          refine ⟨vp_in_nI (by omega) (by decide), ihq (j + 1) _ (by omega) (fun a i q1 q2 => by rw [sm_st_o _ _ q2]; exact f3 a i q1 q2) (by rw [sm_st_o _ _ (by decide)]; exact h46) (fun i hi => ?_)⟩
          by_cases e1 : i = j
          · subst e1
            rw [sm_st_s]
          · rw [sm_st_j _ _ e1]
            exact h148 i (by omega)
      exact key (c + 1) 0 _ (by omega) (fun a i q1 q2 => sm_st_or _ _ (by omega)) (sm_st_s _ _ _ _) (fun i hi => absurd hi (by omega))
    · refine mS_deep h7 ?_ (fun i hi => ⟨?_, ?_⟩) hsn (fun j hj => ?_)
      · rw [fX 125 0 (by omega)]; exact i0
      · rw [fX 125 _ (by omega)]; exact (ihl i hi).1
      · rw [fX 125 _ (by omega)]; exact (ihl i hi).2
      · rw [sm_cp_in _ _ _ (by omega) (by omega)]
        exact congrArg (I 145) (by omega)
  | succ h ih =>
    intro c hcN s e row b I L w3 w4 hrl he hok ht hb i0 ihl h20 hF hsn h147 hrow h146 hmr kont
    have h7 := hok.1
    refine w_X11_layRota_15 (d1 := 8) hG (by omega) ?_
    rw [if_neg (nI_pos (by omega))]
    refine c_X11_putDeep hG (by omega) ?_
    refine w_X11_layRota_24 hG ?_
    have fX : ∀ a j, ¬ (a = 125 ∧ 4 ≤ j ∧ j < 24) → (sm_cp I 145 (20 * c) 125 4 20) a j = I a j := fun a j hq => sm_cp_or _ (by omega)
    rw [nI_clamp (by omega), fX 146 c (by omega), h146, show (-1 : Int32) + 1 = nI 0 by decide]
    refine ⟨vp_in_nI (by omega) (by decide), ?_⟩
    refine lv_rota (h := h + 1) (c := c) (e := e) (s := s) (row := row) (b := b) (I := I) (L := L) hd hG hN hcN hrl he hok ht i0 ihl h20 hF hsn h147 kont ?_ (sMen s) 0 _ L _ (by omega) ⟨fun a j q1 q2 q3 q4 q5 q6 q7 => fX a j q3, fun _ _ _ _ _ => rfl⟩ ?_ (mRo_kept (fun a j q => fX a j (by omega)) hmr) hb
    · intro m I2 L2 w4 bb hm hbb f2 e146 e147 s2 b2 kk
      have hmo := sp_mo_le F s m
      refine w_X11_layRota_90 (d1 := 8) hG (by omega) ?_
      obtain ⟨N1, rfl⟩ : ∃ N1, N = N1 + 1 := ⟨N - 1, by omega⟩
      rw [if_neg (by decide), if_neg (by rw [nI_pred, nI_eq (by omega) (by omega)]; omega), sm_n1, nI_clamp (by omega), e147]
      refine ⟨vp_in_nI (by omega) (by decide), ?_⟩
      refine c_X11_keepDeep (c := c + 1) hG (by omega) ?_
      refine w_X11_layRota_156 ?_
      generalize hX : sm_st (sm_st (sm_cp I2 125 4 145 (20 * (c + 1)) 20) 146 (c + 1) (-1)) 147 (c + 1) (nI (e + sp_mo F s m)) = X
      have fX2 : ∀ a j, ¬ (a = 145 ∧ 20 * (c + 1) ≤ j ∧ j < 20 * (c + 1) + 20) → ¬ (a = 146 ∧ j = c + 1) → ¬ (a = 147 ∧ j = c + 1) → X a j = I2 a j := fun a j q1 q2 q3 => by
        rw [← hX, sm_st_or _ _ (by omega), sm_st_or _ _ (by omega), sm_cp_or _ (by omega)]
      have hsm : sp_same s (sp_hour F (sp_mv s m)).1 := sp_same_trans (sp_same_mv s m) (sp_hour_same F _)
      have hok' : sp_ok (sp_hour F (sp_mv s m)).1 := sp_hour_ok (sp_mv_ok hok hm) (by rw [sp_mv_term]; omega)
      have f2X : roF c I X L L2 := f2.trans ⟨fun a j q1 q2 q3 q4 q5 q6 q7 => fX2 a j (by omega) (by omega) (by omega), fun _ _ _ _ _ => rfl⟩
      have sX : mS (sp_hour F (sp_mv s m)).1 (X 125) := mS_ext (fun j q => fX2 125 j (by omega) (by omega) (by omega)) hok'.1 s2
      refine ih (c + 1) (by omega) (sp_hour F (sp_mv s m)).1 (e + sp_mo F s m) (row ++ [m]) bb X L2 _ _ (by rw [List.length_append]; show row.length + 1 = c + 1; omega) (by omega) hok' (by rw [sp_hour_t0, sp_mv_term]; omega) hbb sX.1 (fun i hi => ⟨(sX.2.1 i hi).1, (sX.2.1 i hi).2.1⟩) ?_ (f2X.F hF) ?_ ?_ (fun i v hv => ?_) ?_ (mRo_kept (fun a j q => fX2 a j (by omega) (by omega) (by omega)) b2) ?_
      · rw [f2X.1 123 20 (by omega) (by omega) (by omega) (by omega) (by omega) (by omega) (by omega)]
        exact h20
      · refine mSn_of hok'.1 s2 (fun j hj => ?_)
        rw [← hX, sm_st_or _ _ (by omega), sm_st_or _ _ (by omega), sm_cp_in _ _ _ (by omega) (by omega)]
        exact congrArg (I2 125) (by omega)
      · rw [← hX, sm_st_s]
      · have hi : i < (row ++ [m]).length := (List.getElem?_eq_some_iff.mp hv).1
        rw [List.length_append] at hi
        have hi : i < row.length + 1 := hi
        rw [fX2 146 i (by omega) (by omega) (by omega)]
        by_cases hi2 : i < row.length
        · rw [List.getElem?_append_left hi2] at hv
          rw [f2.1 146 i (by omega) (by omega) (by omega) (by omega) (by omega) (by omega) (by omega)]
          exact hrow i v hv
        · obtain rfl : i = row.length := by omega
          rw [List.getElem?_append_right (Nat.le_refl _), Nat.sub_self] at hv
          cases hv
          rw [hrl]
          exact e146
      · rw [← hX, sm_st_o _ _ (by decide), sm_st_s]
      · intro I3 L3 w3 w4 f3 b3
        rw [pk_m1]
        refine kk I3 L3 w3 w4 (f2X.trans f3.up) ?_ b3
        rw [f3.1 146 c (by omega) (by omega) (by omega) (by omega) (by omega) (by omega) (by omega), fX2 146 c (by omega) (by omega) (by omega)]
        exact e146
    · refine mS_deep h7 ?_ (fun i hi => ⟨?_, ?_⟩) hsn (fun j hj => ?_)
      · rw [fX 125 0 (by omega)]; exact i0
      · rw [fX 125 _ (by omega)]; exact (ihl i hi).1
      · rw [fX 125 _ (by omega)]; exact (ihl i hi).2
      · rw [sm_cp_in _ _ _ (by omega) (by omega)]
        exact congrArg (I 145) (by omega)
theorem sm_m1in {a b : Int32} : ((-1 : Int64) ≤ b.toInt64 ∧ b.toInt64 ≤ a.toInt64 - 1) ↔ (-1 ≤ b ∧ b < a) := by
  have ha := Int32.le_toInt a
  have ha2 := Int32.toInt_lt a
  have hb := Int32.le_toInt b
  have hb2 := Int32.toInt_lt b
  have e : (a.toInt64 - 1).toInt = a.toInt - 1 := by
    rw [Int64.toInt_sub, Int32.toInt_toInt64]
    show (a.toInt - 1).bmod (2 ^ 64) = _
    apply Int.bmod_eq_of_le <;> omega
  rw [Int64.le_iff_toInt_le, Int64.le_iff_toInt_le, e, Int32.toInt_toInt64, Int32.le_iff_toInt_le, Int32.lt_iff_toInt_lt]
  show (-1 : Int) ≤ _ ∧ _ ↔ (-1 : Int) ≤ _ ∧ _
  omega
set_option maxHeartbeats 1000000 in
theorem M_rota {ex : sm_O} {d : Nat} {g : GG} {a b : Int32} (hd : 10 ≤ d) (hw : Wf g) : MM ex d 209 [some (.ref 123), some (.int a), some (.int b)] g (f_rota g a b) g := by
  intro n y I L R Q hG hm k
  have hok : sp_ok (gS g) := hw.1.1.1
  have h7 : sMen (gS g) ≤ 7 := hok.1
  have ht : sTerm (gS g) 0 ≤ 999 := hw.1.1.2.1
  unfold f_rota at k
  have k0 := k _ L (MI_thr hm) (mKeep_thr I)
  refine w_X11_rota_0 (d1 := 9) hG (by omega) (by omega) ?_
  have i1 : ((1 : Int64) ≤ a.toInt64 ∧ a.toInt64 ≤ (5 : Int64)) ↔ (1 ≤ a ∧ a ≤ 5) := sm_in64 (lo := 1) (hi := 5)
  simp only [i1, sm_m1in]
  by_cases q1 : 1 ≤ a ∧ a ≤ 5
  · rw [if_pos q1]
    by_cases q2 : -1 ≤ b ∧ b < a
    · rw [if_pos q2]
      rw [if_pos ⟨q1, q2⟩] at k
      obtain ⟨N, rfl, hN1, hN2⟩ := sm_nat (lo := 1) (hi := 5) (by decide) q1 (by decide)
      rw [nI_clamp (by omega)] at k
      refine w_X11_layRota_0 (d1 := 8) hG (by omega) ?_
      refine c_X11_keepDeep (c := 0) hG (by decide) ?_
      have hm0 := MI_thr hm
      generalize hX : sm_st (sm_st (sm_cp (sm_st (sm_st I 123 0 0) 123 46 100000000) 125 4 145 (20 * 0) 20) 146 0 (-1)) 147 0 0 = X
      have fX : ∀ a j, ¬ (a = 145 ∧ j < 20) → ¬ (a = 146 ∧ j = 0) → ¬ (a = 147 ∧ j = 0) → ¬ (a = 123 ∧ (j = 0 ∨ j = 46)) → X a j = I a j := fun a j q1 q2 q3 q4 => by
        rw [← hX, sm_st_or _ _ (by omega), sm_st_or _ _ (by omega), sm_cp_or _ (by omega), sm_st_or _ _ (by omega), sm_st_or _ _ (by omega)]
      have sX : mS (gS g) (X 125) := mS_ext (fun j q => fX 125 j (by omega) (by omega) (by omega) (by omega)) h7 hm.1
      have x145 : ∀ j, j < 20 → X 145 j = I 125 (4 + j) := fun j hj => by
        rw [← hX, sm_st_or _ _ (by omega), sm_st_or _ _ (by omega), sm_cp_in _ _ _ (by omega) (by omega), sm_st_o _ _ (by decide), sm_st_o _ _ (by decide)]
        exact congrArg (I 125) (by omega)
      obtain ⟨h, rfl⟩ : ∃ h, N = h + 1 := ⟨N - 1, by omega⟩
      refine lp_rota (N := h + 1) (F := bF (gB g)) (by omega) hG hN2 h 0 (by omega) (gS g) 0 [] none X L _ _ rfl (Nat.le_refl 0) hok (by omega) (fun x hx => by cases hx) sX.1 (fun i hi => ⟨(sX.2.1 i hi).1, (sX.2.1 i hi).2.1⟩) ?_ (mForce_r (fun j _ => fX 125 j (by omega) (by omega) (by omega) (by omega)) (hm.F hw)) ?_ ?_ (fun i x hx => by cases hx) ?_ ⟨?_, fun x hx => by cases hx⟩ ?_
      · rw [fX 123 20 (by omega) (by omega) (by omega) (by omega)]
        exact hm.2.2.2.2.2.1.2.2.2.2.1
      · refine mSn_of h7 hm.1 (fun j hj => ?_)
        rw [show 20 * 0 + j = j by omega]
        exact x145 j hj
      · rw [← hX, sm_st_s]
        rfl
      · rw [← hX, sm_st_o _ _ (by decide), sm_st_s]
      · rw [← hX, sm_st_o _ _ (by decide), sm_st_o _ _ (by decide), sm_cp_or _ (by omega), sm_st_s]
        rfl
      · intro I2 L2 w3 w4 f2 b2
        refine w_X11_layRota_15 (d1 := 8) hG (by omega) ?_
        rw [if_pos (by decide)]
        refine c_X11_putDeep (c := 0) hG (by decide) ?_
        refine w_X11_layRota_164 ?_
        generalize hZ : sm_cp I2 145 (20 * 0) 125 4 20 = Z
        have fZ : ∀ a j, ¬ (a = 123 ∧ (j = 38 ∨ j = 34 ∨ j = 46 ∨ j = 0)) → ¬ (144 ≤ a ∧ a ≤ 148) → Z a j = I a j := by
          intro a j q1 q2
          rw [← hZ]
          by_cases h : a = 125 ∧ 4 ≤ j ∧ j < 24
          · obtain ⟨rfl, h5, h6⟩ := h
            rw [sm_cp_in _ _ _ (by omega) (by omega), f2.1 145 _ (by omega) (by omega) (by omega) (by omega) (by omega) (by omega) (by omega), show 20 * 0 + (j - 4) = j - 4 by omega, x145 _ (by omega)]
            exact congrArg (I 125) (by omega)
          · rw [sm_cp_or _ (by omega), f2.1 a j (by omega) (by omega) h (by omega) (by omega) (by omega) (by omega)]
            exact fX a j (by omega) (by omega) (by omega) (by omega)
        have hmZ : MI g Z L2 := MI_scr hw (fun a j q => fZ a j (by unfold mscr at q; omega) (by unfold mscr at q; omega)) (fun a j q => f2.2 a j (by omega) (by omega) (by omega)) hm
        have k1 := k Z L2 hmZ (fun a j q => fZ a j (by omega) (by omega))
        have z46 : Z 123 46 = nI (mBst (sp_rota (bF (gB g)) (gS g) (h + 1))) := by
          rw [← hZ, sm_cp_or _ (by omega)]
          exact b2.1
        refine w_X11_rota_39 hG ?_
        rw [z46]
        cases hx : sp_rota (bF (gB g)) (gS g) (h + 1) with
        | none =>
          rw [hx] at k1
          rw [if_pos (show nI (mBst none) = 100000000 from rfl)]
          exact k1
        | some x =>
          have hxi := sp_rota_inv hx
          rw [hx] at k1
          have hrow : rowI 148 Z x.2 := rowI_kept (fun j => by rw [← hZ, sm_cp_or _ (by omega)]) (b2.2 x hx)
          rw [if_neg (show ¬ nI (mBst (some x)) = 100000000 by show ¬ nI x.1 = nI 100000000; rw [nI_eq (by omega) (by omega)]; omega)]
          dsimp only at k1
          rcases m1_cases q2.1 with e | e
          · rw [if_pos e] at k1 ⊢
            exact k1
          · have hne : ¬ b = -1 := fun z => by rw [z] at e; exact absurd e (by decide)
            rw [if_neg hne] at k1 ⊢
            obtain ⟨i, hi, rfl⟩ := nI_of (Int32.not_lt.mpr e)
            have hiN := (nI_ltI hi (by omega)).mp q2.2
            rw [nI_clamp hi] at k1 ⊢
            rw [rowI_get hrow (by omega)]
            exact ⟨vp_in_nI (by omega) (by decide), k1⟩
    · rw [if_neg q2]
      rw [if_neg (fun z => q2 z.2)] at k0
      exact k0
  · rw [if_neg q1]
    rw [if_neg (fun z => q1 z.1)] at k0
    exact k0

