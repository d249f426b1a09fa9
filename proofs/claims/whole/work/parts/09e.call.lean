theorem sm_nfw : nativeFrameWords "java/lang/System" "arraycopy" 5 ≤ 20 := by decide +kernel
theorem sm_cp_at (I : Nat → Nat → Int32) (o sp q dp n : Nat) : sm_cp I o sp q dp n q = va_cpy (I o) (I q) sp dp n := by
  funext j
  simp [sm_cp, va_cpy]
theorem sm_init_rt : ((List.range sm_klaw).all fun k => !(Nat.beq (sm_nth (0, 0, 0, 0, 0, 0) sm_mkl k).1 2) || decide (sm_rt k = none)) = true := by decide +kernel
theorem sm_wk_none {k : Nat} (h : k < sm_klaw) (hk : (sm_nth (0, 0, 0, 0, 0, 0) sm_mkl k).1 = 2) : sm_wk k = Cond.code (sm_y k) (sm_by k) (sm_ml k) none :: sm_all := by
  have q := List.all_eq_true.mp sm_init_rt k (List.mem_range.mpr h)
  rw [hk] at q
  have q : sm_rt k = none := by simpa using q
  unfold sm_wk
  rw [q]
theorem sm_oi_i : Cond.instanceMethod objectInit ∈ sm_all := sm_wd_all (pl := 26) (by decide +kernel) rfl
theorem sm_oi_c : Cond.code objectInit ⟨#[0xb1]⟩ 1 none ∈ sm_all := sm_wd_all (pl := 27) (by decide +kernel) rfl
theorem sm_mm_1 : Cond.static Lib.Math.min.name ∈ sm_all := sm_wd_all (pl := 510) (by decide +kernel) rfl
theorem sm_mm_2 : Cond.initialized "java/lang/Math" ∈ sm_all := sm_wd_all (pl := 14) (by decide +kernel) rfl
theorem sm_mm_3 : Cond.code Lib.Math.min.name Lib.Math.min.code 2 (some .int) ∈ sm_all := sm_wd_all (pl := 511) (by decide +kernel) rfl
theorem sm_mm_4 : Cond.static Lib.Math.max.name ∈ sm_all := sm_wd_all (pl := 501) (by decide +kernel) rfl
theorem sm_mm_5 : Cond.code Lib.Math.max.name Lib.Math.max.code 2 (some .int) ∈ sm_all := sm_wd_all (pl := 502) (by decide +kernel) rfl
theorem sm_ac_1 : Cond.native arraycopyName ∈ sm_all := sm_wd_all (pl := 705) (by decide +kernel) rfl
theorem sm_ac_2 : Cond.static arraycopyName ∈ sm_all := sm_wd_all (pl := 704) (by decide +kernel) rfl
theorem sm_ac_3 : Cond.initialized "java/lang/System" ∈ sm_all := sm_wd_all (pl := 19) (by decide +kernel) rfl
set_option maxHeartbeats 1000000 in
theorem sm_in_invokespecial {ex : sm_O} {d bc bs k pc : Nat} {l : List (Option Value)} {st : List Value} {μ : sm_Mem} {Q : sm_Q} {i : Nat} {n a b c0 pl : Nat} {v : Value} (hc : sm_ck k pc (.invokespecial i, n, a, b, c0, pl, v) = true) (h : sm_i ex (sm_W ex) d bc bs k pc l st μ Q (.invokespecial i) a b c0 v) : sm_W ex d bc bs k pc l st μ Q := by
  intro z E D p l0 e R s m args below meth c Q' H locs cells slots cA ls hF hY hL
  have hF0 := hF
  obtain ⟨hx, hb, hml, hnm, hown, hts, hfr, hlo, hz, hK, hEx, hret⟩ := hF0
  have hY0 := hY
  obtain ⟨⟨hA, hP, hyn, hz0⟩, hcb, hsb, hn, hS⟩ := hY0
  have hD := sm_ws_D z cA μ
  simp only [sm_ck, Bool.and_eq_true, decide_eq_true_eq] at hc
  obtain ⟨hd, hc⟩ := hc
  split at hc
  · simp only [Bool.and_eq_true, decide_eq_true_eq] at hc
    obtain ⟨⟨rfl, hak, rfl, hkd, hnb⟩, hw⟩ := hc
    obtain ⟨o, t, hst, hh⟩ := sm_pr_e h
    obtain ⟨w, t0, hw0, hh⟩ := sm_pr_e hh
    cases hw0
    obtain ⟨d1, c1, s1, P, hd1, hc1, hs1, hr8, has, hX, hkk⟩ := hh
    have hmk := sm_mk_f hak
    have hlen : (st.take b).length = b := by
      rw [List.length_take]
      have : b < st.length := by
        rcases Nat.lt_or_ge b st.length with q | q
        · exact q
        · rw [List.drop_eq_nil_of_le q] at hst; cases hst
      omega
    have hstk : st.map (sm_v z E) = (((st.take b).reverse.map (sm_v z E))).reverse ++ .ref (z + o) :: t.map (sm_v z E) := by
      conv => lhs; rw [← List.take_append_drop b st, hst]
      simp [sm_v]
    refine sm_size hz hY fun hH => ?_
    have hM := sm_met hak has hX l0 z E D
    have hrm : d1 + 1 ≤ R.frames ∧ 8 + (sm_ml a + 11) + 41 * d1 ≤ R.locals := ⟨by omega, by have := hmk.2.2.2.1; omega⟩
    split at hw
    · refine sm_callK hF hY hL hc1 hs1 (va_runIN (As := (st.take b).reverse.map (sm_v z E)) (b := z + o) ⟨hx, hb, hml, hown, hts⟩ hM ⟨va_cnB b hts (sm_goodIn fun w hw => by rcases List.mem_cons.mp hw with rfl | hw; exact hmk.1; exact hw) (sm_wk_none hak hkd) rfl rfl (hEx.1 _ (List.mem_filter.mpr ⟨sm_wd_tb hw, rfl⟩)) (hts _ hmk.2.1) (hnb ▸ hmk.2.2.2.2.1) hrm, (hmk.2.2.2.2.2.2.2 hkd).2, hts _ (hmk.2.2.2.2.2.2.2 hkd).1⟩ ⟨sm_blind, sm_pre_at hF hY hH (.ref o :: (st.take b).reverse)⟩ rfl (by rw [List.length_map, List.length_reverse]; exact hlen) hL.2.1 hstk (lv_room (by rw [sm_ct_sum, sm_ct_map]; exact hr8)) hd ⟨by omega, by omega⟩) hkk
    · refine sm_callK hF hY hL hc1 hs1 (va_runI (As := (st.take b).reverse.map (sm_v z E)) (b := z + o) ⟨hx, hb, hml, hown, hts⟩ hM (cwI b hts (sm_goodIn fun w hw => by rcases List.mem_cons.mp hw with rfl | hw; exact hmk.1; exact hw) (sm_wk_none hak hkd) rfl rfl (hts _ hmk.2.1) (hts _ (sm_wd_all hw rfl)) (hts _ (hmk.2.2.2.2.2.2.2 hkd).1) (hmk.2.2.2.2.2.2.2 hkd).2 (hnb ▸ hmk.2.2.2.2.1) hrm) ⟨sm_blind, sm_pre_at hF hY hH (.ref o :: (st.take b).reverse)⟩ rfl (by rw [List.length_map, List.length_reverse]; exact hlen) hL.2.1 hstk (lv_room (by rw [sm_ct_sum, sm_ct_map]; exact hr8)) hd ⟨by omega, by omega⟩) hkk
  · simp only [Bool.and_eq_true, decide_eq_true_eq] at hc
    obtain ⟨⟨rfl, rfl⟩, hw⟩ := hc
    obtain ⟨o, t, rfl, h1, h8, hh⟩ := sm_pr_e h
    refine W.objInit hx hb hown (hts _ (sm_wd_all hw rfl)) (hts _ sm_oi_i) (hts _ sm_oi_c) rfl (by rw [hml]; exact hL.2.1) rfl hd (by omega) (by rw [sm_ct_sum, sm_ct_map]; show 2 * 0 + _ + 12 ≤ _; omega) ?_
    exact hh z E D p l0 e R s m args below meth c Q' H locs cells slots cA ls hF hY hL
set_option maxHeartbeats 1000000 in
theorem sm_in_invokevirtual {ex : sm_O} {d bc bs k pc : Nat} {l : List (Option Value)} {st : List Value} {μ : sm_Mem} {Q : sm_Q} {i : Nat} {n a b c0 pl : Nat} {v : Value} (hc : sm_ck k pc (.invokevirtual i, n, a, b, c0, pl, v) = true) (h : sm_i ex (sm_W ex) d bc bs k pc l st μ Q (.invokevirtual i) a b c0 v) : sm_W ex d bc bs k pc l st μ Q := by
  intro z E D p l0 e R s m args below meth c Q' H locs cells slots cA ls hF hY hL
  have hF0 := hF
  obtain ⟨hx, hb, hml, hnm, hown, hts, hfr, hlo, hz, hK, hEx, hret⟩ := hF0
  have hY0 := hY
  obtain ⟨⟨hA, hP, hyn, hz0⟩, hcb, hsb, hn, hS⟩ := hY0
  have hD := sm_ws_D z cA μ
  simp only [sm_ck, Bool.and_eq_true, decide_eq_true_eq] at hc
  obtain ⟨hd, hc⟩ := hc
  split at hc
  · simp only [Bool.and_eq_true, decide_eq_true_eq] at hc
    obtain ⟨⟨rfl, hak, rfl, hkd, hnb⟩, hw⟩ := hc
    obtain ⟨o, t, hst, q, hy, hcn, hh⟩ := sm_pr_e h
    obtain ⟨w, t0, hw0, hh⟩ := sm_pr_e hh
    cases hw0
    obtain ⟨d1, c1, s1, P, hd1, hc1, hs1, hr8, has, hX, hkk⟩ := hh
    have hmk := sm_mk_f hak
    have ho : o < μ.1 := (hyn o).mp (by rw [hy]; simp)
    have hcell := sm_ws_get (z := z) (cA := cA) ho
    rw [hy] at hcell
    obtain ⟨r, hr, -⟩ := hP o _ hcell
    obtain ⟨hq12, rfl⟩ := sm_cls_of hr
    have hlen : (st.take b).length = b := by
      rw [List.length_take]
      have : b < st.length := by
        rcases Nat.lt_or_ge b st.length with q | q
        · exact q
        · rw [List.drop_eq_nil_of_le q] at hst; cases hst
      omega
    have hstk : st.map (sm_v z E) = (((st.take b).reverse.map (sm_v z E))).reverse ++ .ref (z + o) :: t.map (sm_v z E) := by
      conv => lhs; rw [← List.take_append_drop b st, hst]
      simp [sm_v]
    refine sm_size hz hY fun hH => ?_
    have hM := sm_met hak has hX l0 z E D
    have hrm : d1 + 1 ≤ R.frames ∧ 8 + (sm_ml a + 11) + 41 * d1 ≤ R.locals := ⟨by omega, by have := hmk.2.2.2.1; omega⟩
    have hsel := hmk.2.2.2.2.2.1 hkd
    refine sm_callK hF hY hL hc1 hs1 (va_runV (As := (st.take b).reverse.map (sm_v z E)) (b := z + o) (C := (sm_y a).cls) ⟨hx, hb, hml, hown, hts⟩ hM (cwV b hts (sm_goodIn fun w hw1 => by
      unfold wsV at hw1
      rcases List.mem_append.mp hw1 with hw1 | hw1
      · simp only [List.mem_cons, List.not_mem_nil, or_false] at hw1
        rcases hw1 with rfl | rfl | rfl | rfl
        · exact sm_wd_all hw rfl
        · exact hsel.1
        · exact hsel.2
        · exact hmk.2.1
      · rcases List.mem_cons.mp hw1 with rfl | hw1
        · exact hmk.1
        · exact hw1) rfl rfl rfl ⟨rfl, hnb ▸ hmk.2.2.2.2.1⟩ hrm) ⟨sm_blind, by rw [← hcn]; exact va_recv hK hP hr hcell, sm_pre_at hF hY hH (.ref o :: (st.take b).reverse)⟩ rfl (by rw [List.length_map, List.length_reverse]; exact hlen) hL.2.1 hstk (lv_room (by rw [sm_ct_sum, sm_ct_map]; exact hr8)) hd ⟨by omega, by omega⟩) hkk
  · exact sm_strlen hc hd h z E D p l0 e R s m args below meth c Q' H locs cells slots cA ls hF hY hL
  · exact sm_strchar hc hd h z E D p l0 e R s m args below meth c Q' H locs cells slots cA ls hF hY hL
set_option maxHeartbeats 1000000 in
theorem sm_in_invokestatic {ex : sm_O} {d bc bs k pc : Nat} {l : List (Option Value)} {st : List Value} {μ : sm_Mem} {Q : sm_Q} {i : Nat} {n a b c0 pl : Nat} {v : Value} (hc : sm_ck k pc (.invokestatic i, n, a, b, c0, pl, v) = true) (h : sm_i ex (sm_W ex) d bc bs k pc l st μ Q (.invokestatic i) a b c0 v) : sm_W ex d bc bs k pc l st μ Q := by
  intro z E D p l0 e R s m args below meth c Q' H locs cells slots cA ls hF hY hL
  have hF0 := hF
  obtain ⟨hx, hb, hml, hnm, hown, hts, hfr, hlo, hz, hK, hEx, hret⟩ := hF0
  have hY0 := hY
  obtain ⟨⟨hA, hP, hyn, hz0⟩, hcb, hsb, hn, hS⟩ := hY0
  have hD := sm_ws_D z cA μ
  simp only [sm_ck, Bool.and_eq_true, decide_eq_true_eq] at hc
  obtain ⟨hd, hc⟩ := hc
  split at hc
  · simp only [Bool.and_eq_true, decide_eq_true_eq] at hc
    obtain ⟨⟨rfl, hak, rfl, hkd, hnb⟩, hw⟩ := hc
    obtain ⟨hbl, hh⟩ := h
    obtain ⟨w, t0, hw0, hh⟩ := sm_pr_e hh
    cases hw0
    obtain ⟨d1, c1, s1, P, hd1, hc1, hs1, hr8, has, hX, hkk⟩ := hh
    have hmk := sm_mk_f hak
    have hlen : (st.take b).length = b := by rw [List.length_take]; omega
    have hstk : st.map (sm_v z E) = (((st.take b).reverse.map (sm_v z E))).reverse ++ (st.drop b).map (sm_v z E) := by
      conv => lhs; rw [← List.take_append_drop b st]
      simp
    refine sm_size hz hY fun hH => ?_
    have hM := sm_met hak has hX l0 z E D
    have hrm : d1 + 1 ≤ R.frames ∧ 8 + (sm_ml a + 11) + 41 * d1 ≤ R.locals := ⟨by omega, by have := hmk.2.2.2.1; omega⟩
    refine sm_callK hF hY hL hc1 hs1 (va_runS (As := (st.take b).reverse.map (sm_v z E)) ⟨hx, hb, hml, hown, hts⟩ hM (va_cwS b hts (sm_goodIn fun w hw1 => by
      unfold va_wsS at hw1
      rcases List.mem_append.mp hw1 with hw1 | hw1
      · simp only [List.mem_cons, List.not_mem_nil, or_false] at hw1
        rcases hw1 with rfl | rfl | rfl
        · exact sm_wd_all hw rfl
        · exact hmk.2.2.2.2.2.2.1 hkd
        · exact hmk.2.1
      · rcases List.mem_cons.mp hw1 with rfl | hw1
        · exact hmk.1
        · exact hw1) rfl rfl rfl (hnb ▸ hmk.2.2.2.2.1) hrm) ⟨sm_blind, sm_pre_at hF hY hH (st.take b).reverse⟩ rfl (by rw [List.length_map, List.length_reverse]; exact hlen) hL.2.1 hstk (lv_room (by rw [sm_ct_sum, sm_ct_map]; exact hr8)) hd ⟨by omega, by omega⟩) hkk
  · simp only [Bool.and_eq_true, decide_eq_true_eq] at hc
    obtain ⟨rfl, hw⟩ := hc
    obtain ⟨x, y, t, rfl, h1, h8, hh⟩ := sm_p2_e h
    refine va_mmin hx hb (by rw [hml]; exact hL.2.1.symm) hown (hts _ (sm_wd_all hw rfl)) (hts _ sm_mm_1) (hts _ sm_mm_2) (hts _ sm_mm_3) (by omega) (by rw [sm_ct_sum, sm_ct_map]; omega) (by omega) (by omega) hd ?_
    exact hh z E D p l0 e R s m args below meth c Q' H locs cells slots cA ls hF hY hL
  · simp only [Bool.and_eq_true, decide_eq_true_eq] at hc
    obtain ⟨rfl, hw⟩ := hc
    obtain ⟨x, y, t, rfl, h1, h8, hh⟩ := sm_p2_e h
    refine va_mmax hx hb (by rw [hml]; exact hL.2.1.symm) hown (hts _ (sm_wd_all hw rfl)) (hts _ sm_mm_4) (hts _ sm_mm_2) (hts _ sm_mm_5) (by omega) (by rw [sm_ct_sum, sm_ct_map]; omega) (by omega) (by omega) hd ?_
    exact hh z E D p l0 e R s m args below meth c Q' H locs cells slots cA ls hF hY hL
  · simp only [Bool.and_eq_true, decide_eq_true_eq] at hc
    obtain ⟨⟨rfl, rfl⟩, hw⟩ := hc
    obtain ⟨dp, n, t1, rfl, k1⟩ := sm_p2_e h
    obtain ⟨q, t2, rfl, k2⟩ := sm_pr_e k1
    obtain ⟨sp, t3, rfl, k3⟩ := sm_p1_e k2
    obtain ⟨o, t, rfl, h1, h8, n0, n1, hy0, hy1, g1, g2, g3, g4, g5, hh⟩ := sm_pr_e k3
    have ho : o < μ.1 := (hyn o).mp (by rw [hy0]; simp)
    have hq : q < μ.1 := (hyn q).mp (by rw [hy1]; simp)
    have hcell := sm_ws_get (z := z) (cA := cA) ho
    rw [hy0] at hcell
    have hcell1 := sm_ws_get (z := z) (cA := cA) hq
    rw [hy1] at hcell1
    have hK2 : va_K D vwCl [(cA o, .int), (cA q, .int)] s := ⟨hK.1, fun k r hr => by
      match k, hr with
      | 0, hr => cases hr; exact hA o _ _ hy0
      | 1, hr => cases hr; exact hA q _ _ hy1⟩
    refine va_copyi hx hb (by rw [hml]; exact hL.2.1.symm) hown (hts _ (sm_wd_all hw rfl)) (hts _ sm_ac_1) (hts _ sm_ac_2) (hts _ sm_ac_3) hK2 hP hD hS o q 0 1 (ty := .int) hcell hcell1 rfl rfl rfl g1 g2 g3 g4 g5 (fun _ _ => rfl) (by omega) (by rw [sm_ct_sum, sm_ct_map]; exact Nat.le_trans (Nat.add_le_add h8 (Nat.add_le_add_right sm_nfw 11)) (by omega)) hd (fun H1 locs1 hP1 hD1 hS1 => ?_)
    refine hh z E D p l0 e R s m args below meth c Q' H1 locs1 cells slots cA ls hF (hY.set hq (P := fun j => dp.toNatClampNeg ≤ j ∧ j < dp.toNatClampNeg + n.toNatClampNeg) ⟨rfl, rfl, fun k j hj => ⟨?_, rfl, rfl⟩⟩ (by rw [hy1]; show va_P _ _ (List.set _ _ (_, .inl (_, _, .inl (sm_cp μ.2.2.1 o sp.toNatClampNeg q dp.toNatClampNeg n.toNatClampNeg q)))) _; rw [sm_cp_at]; exact hP1) hS1) hL
    show sm_cp _ _ _ _ _ _ _ _ = _
    unfold sm_cp
    rw [if_neg]
    intro hc
    rcases hj with hj | hj
    · exact hj hc.1
    · exact hj hc.2
