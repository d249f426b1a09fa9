theorem sm_st_or {α : Type} (I : Nat → Nat → α) {o b k j : Nat} (v : α) (h : k ≠ o ∨ ¬ j = b) : sm_st I o b v k j = I k j := by
  rcases h with h | h
  · exact sm_st_o I v h
  · exact sm_st_j I v h
theorem sm_st_upd (I : Nat → Nat → Int32) (o i : Nat) (x : Int32) : sm_st I o i x o = upd (I o) i x := by
  funext j
  simp [sm_st, upd]
theorem sm_st_updL (I : Nat → Nat → Int64) (o i : Nat) (x : Int64) : sm_st I o i x o = vp_updL (I o) i x := by
  funext j
  simp [sm_st, vp_updL]
theorem sm_st_upr (z : Nat) (I : Nat → Nat → Option Nat) (o i x : Nat) : (fun j => sm_rz z (sm_st I o i (some x) o j)) = va_up (fun j => sm_rz z (I o j)) i (some (z + x)) := by
  funext j
  by_cases h : j = i <;> simp [sm_st, va_up, h, sm_rz]
theorem sm_K1 {D : va_G} {s : State} {cA : ClassId} {ty : FieldType} (hK : va_K D vwCl [] s) (h : ArrOfT s cA ty ∧ va_RA s cA ty) : va_K D vwCl [(cA, ty)] s := ⟨hK.1, fun k q hq => by
  cases k with
  | zero => cases hq; exact h
  | succ k => cases hq⟩
theorem sm_ce_arr (z : Nat) (cA : ClassId) (q N o : Nat) (μ : sm_Mem) : ∃ w, sm_ce z cA (some (.inr (q, N))) o μ = .inl (cA, N, w) := by
  unfold sm_ce
  split
  · rename_i h; cases h
  · rename_i h; cases h; exact ⟨_, rfl⟩
  · rename_i h; cases h; exact ⟨_, rfl⟩
  · rename_i h; cases h; exact ⟨_, rfl⟩
  · rename_i h; cases h; exact ⟨_, rfl⟩
  · rename_i h; cases h
set_option maxHeartbeats 1000000 in
theorem sm_in_getfield {ex : sm_O} {d bc bs k pc : Nat} {l : List (Option Value)} {st : List Value} {μ : sm_Mem} {Q : sm_Q} {i : Nat} {n a b c0 pl : Nat} {v : Value} (hc : sm_ck k pc (.getfield i, n, a, b, c0, pl, v) = true) (h : sm_i ex (sm_W ex) d bc bs k pc l st μ Q (.getfield i) a b c0 v) : sm_W ex d bc bs k pc l st μ Q := by
  intro z E D p l0 e R s m args below meth c Q' H locs cells slots cA ls hF hY hL
  have hF0 := hF
  obtain ⟨hx, hb, hml, hnm, hown, hts, hfr, hlo, hz, hK, hEx, hret⟩ := hF0
  have hY0 := hY
  obtain ⟨⟨hA, hP, hyn, hz0⟩, hcb, hsb, hn, hS⟩ := hY0
  have hD := sm_ws_D z cA μ
  simp only [sm_ck, Bool.and_eq_true, decide_eq_true_eq] at hc
  obtain ⟨hd, ⟨rfl, hb1, ha1, hkd⟩, hw⟩ := hc
  obtain ⟨o, t, rfl, hy, h⟩ := sm_pr_e h
  have ho : o < μ.1 := (hyn o).mp (by rw [hy]; simp)
  have hcell := sm_ws_get (z := z) (cA := cA) ho
  rw [hy] at hcell
  rw [hkd] at h
  obtain ⟨x, h, hxv⟩ := sm_gf_e (z := z) (E := E) h
  have hv : ((List.range (sm_nf a)).map fun j => sm_fv z (sm_kd a j) o j μ)[b]? = some (sm_v z E x) := by rw [hxv]; exact sm_rm_get _ hb1
  split at hw
  · refine va_getN hx hb hts (sm_cls_w ha1) hown hK hP o hcell (sm_cls_at ha1) b hb1 (va_Nw.use rfl (hEx.1 _ (List.mem_filter.mpr ⟨sm_wd_tb hw, rfl⟩))) (fun _ h9 => h9) hv hd ?_
    exact h z E D p l0 e R s m args below meth c Q' H locs cells slots cA ls hF hY hL
  · refine va_get hx hb hts (sm_cls_w ha1) hown hK hP o hcell (sm_cls_at ha1) b hb1 (hts _ (sm_wd_all hw rfl)) (fun _ h9 => h9) hv hd ?_
    exact h z E D p l0 e R s m args below meth c Q' H locs cells slots cA ls hF hY hL
set_option maxHeartbeats 1000000 in
theorem sm_in_putfield {ex : sm_O} {d bc bs k pc : Nat} {l : List (Option Value)} {st : List Value} {μ : sm_Mem} {Q : sm_Q} {i : Nat} {n a b c0 pl : Nat} {v : Value} (hc : sm_ck k pc (.putfield i, n, a, b, c0, pl, v) = true) (h : sm_i ex (sm_W ex) d bc bs k pc l st μ Q (.putfield i) a b c0 v) : sm_W ex d bc bs k pc l st μ Q := by
  intro z E D p l0 e R s m args below meth c Q' H locs cells slots cA ls hF hY hL
  have hF0 := hF
  obtain ⟨hx, hb, hml, hnm, hown, hts, hfr, hlo, hz, hK, hEx, hret⟩ := hF0
  have hY0 := hY
  obtain ⟨⟨hA, hP, hyn, hz0⟩, hcb, hsb, hn, hS⟩ := hY0
  have hD := sm_ws_D z cA μ
  simp only [sm_ck, Bool.and_eq_true, decide_eq_true_eq] at hc
  obtain ⟨hd, ⟨⟨rfl, hb1, ha1, hkd⟩, hw⟩, hfin⟩ := hc
  obtain ⟨x, t, rfl, h⟩ := sm_ph_e h
  obtain ⟨o, t, rfl, hy, h⟩ := sm_pr_e h
  have ho : o < μ.1 := (hyn o).mp (by rw [hy]; simp)
  have hcell := sm_ws_get (z := z) (cA := cA) ho
  rw [hy] at hcell
  rw [hkd] at h
  obtain ⟨μ1, h, hs, hxv, hna, hfi⟩ := sm_pf_e (z := z) (E := E) h (sm_cls_kd ha1 hb1)
  split at hfin
  · simp only [decide_eq_true_eq] at hfin
    obtain ⟨f1, f2, f3⟩ := hfin
    refine va_putF hx hb hts (sm_cls_w ha1) (sm_ty a) (sm_cls_ty ha1) (sm_cls_nm ha1) hown hK hP hD hS o hcell (sm_cls_at ha1) b hb1 (hts _ (sm_wd_all hw rfl)) (fun _ h9 => h9) f1 (hnm.trans f2) f3 (sm_cls_ty ha1 b hb1) hna hfi (by simpa using hb1) hd (fun H1 locs1 hP1 hD1 hS1 => ?_)
    rw [sm_rm_set _ (fun j => sm_fv z (sm_kd a j) o j μ1) _ hb1 hxv.symm (fun j hj => by
      have q := hs.2.2 o j (Or.inr hj)
      unfold sm_fv
      rw [q.1, q.2.1, q.2.2])] at hP1
    exact h z E D p l0 e R s m args below meth c Q' H1 locs1 cells slots cA ls hF (hY.set ho hs (by rw [hy]; exact hP1) hS1) hL
  · simp only [decide_eq_true_eq] at hfin
    refine va_put hx hb hts (sm_cls_w ha1) (sm_ty a) (sm_cls_ty ha1) (sm_cls_nm ha1) hown hK hP hD hS o hcell (sm_cls_at ha1) b hb1 (hts _ (sm_wd_all hw rfl)) (fun _ h9 => h9) hfin (sm_cls_ty ha1 b hb1) hna hfi (by simpa using hb1) hd (fun H1 locs1 hP1 hD1 hS1 => ?_)
    rw [sm_rm_set _ (fun j => sm_fv z (sm_kd a j) o j μ1) _ hb1 hxv.symm (fun j hj => by
      have q := hs.2.2 o j (Or.inr hj)
      unfold sm_fv
      rw [q.1, q.2.1, q.2.2])] at hP1
    exact h z E D p l0 e R s m args below meth c Q' H1 locs1 cells slots cA ls hF (hY.set ho hs (by rw [hy]; exact hP1) hS1) hL
set_option maxHeartbeats 1000000 in
theorem sm_in_getstatic {ex : sm_O} {d bc bs k pc : Nat} {l : List (Option Value)} {st : List Value} {μ : sm_Mem} {Q : sm_Q} {i : Nat} {n a b c0 pl : Nat} {v : Value} (hc : sm_ck k pc (.getstatic i, n, a, b, c0, pl, v) = true) (h : sm_i ex (sm_W ex) d bc bs k pc l st μ Q (.getstatic i) a b c0 v) : sm_W ex d bc bs k pc l st μ Q := by
  intro z E D p l0 e R s m args below meth c Q' H locs cells slots cA ls hF hY hL
  have hF0 := hF
  obtain ⟨hx, hb, hml, hnm, hown, hts, hfr, hlo, hz, hK, hEx, hret⟩ := hF0
  have hY0 := hY
  obtain ⟨⟨hA, hP, hyn, hz0⟩, hcb, hsb, hn, hS⟩ := hY0
  have hD := sm_ws_D z cA μ
  simp only [sm_ck, Bool.and_eq_true, decide_eq_true_eq] at hc
  obtain ⟨hd, ⟨rfl, rfl⟩, hw⟩ := hc
  split at hw
  · refine va_getsN hx hb hEx.2.2.2.2.2.1 hS hown (va_Nw.use rfl (hEx.1 _ (List.mem_filter.mpr ⟨sm_wd_tb hw, rfl⟩))) (fun _ h9 => h9) hd ?_
    exact h z E D p l0 e R s m args below meth c Q' H locs cells slots cA ls hF hY hL
  · refine va_gets hx hb hEx.2.2.2.2.2.1 hS hown (hts _ (sm_wd_all hw rfl)) (fun _ h9 => h9) hd ?_
    exact h z E D p l0 e R s m args below meth c Q' H locs cells slots cA ls hF hY hL
set_option maxHeartbeats 1000000 in
theorem sm_in_iaload {ex : sm_O} {d bc bs k pc : Nat} {l : List (Option Value)} {st : List Value} {μ : sm_Mem} {Q : sm_Q} {n a b c0 pl : Nat} {v : Value} (hc : sm_ck k pc (.iaload, n, a, b, c0, pl, v) = true) (h : sm_i ex (sm_W ex) d bc bs k pc l st μ Q (.iaload) a b c0 v) : sm_W ex d bc bs k pc l st μ Q := by
  intro z E D p l0 e R s m args below meth c Q' H locs cells slots cA ls hF hY hL
  have hF0 := hF
  obtain ⟨hx, hb, hml, hnm, hown, hts, hfr, hlo, hz, hK, hEx, hret⟩ := hF0
  have hY0 := hY
  obtain ⟨⟨hA, hP, hyn, hz0⟩, hcb, hsb, hn, hS⟩ := hY0
  have hD := sm_ws_D z cA μ
  simp only [sm_ck, Bool.and_eq_true, decide_eq_true_eq] at hc
  obtain ⟨hd, rfl⟩ := hc
  obtain ⟨i, t, rfl, h⟩ := sm_p1_e h
  rcases sm_pe_e h with ⟨o, t, rfl, N, hy, hi, h⟩ | ⟨o, t, rfl, ho2, hi, h⟩
  · have ho : o < μ.1 := (hyn o).mp (by rw [hy]; simp)
    have hcell := sm_ws_get (z := z) (cA := cA) ho
    rw [hy] at hcell
    refine va_iald hx hb (sm_K1 hK (hA o _ _ hy)) hP o 0 hcell rfl hi hd ?_
    exact h z E D p l0 e R s m args below meth c Q' H locs cells slots cA ls hF hY hL
  · obtain ⟨hEz, cell, c1, c2, c3, c4, c5⟩ := hEx.2.2.2.2.2.2 o ho2
    have hlt : i.toNatClampNeg < (ex.1 o).1 := Nat.not_le.mp fun q => hi (Or.inr q)
    refine W.iald hx hb (cell := cell) (by rw [hS.2.1 (E o) (by omega) (by omega)]; exact c1) c2 c3 (fun q => hi (q.elim Or.inl (fun q => Or.inr (Nat.le_trans c4.1 q)))) (c5 _ hlt) rfl rfl hd ?_
    exact h z E D p l0 e R s m args below meth c Q' H locs cells slots cA ls hF hY hL
set_option maxHeartbeats 1000000 in
theorem sm_in_baload {ex : sm_O} {d bc bs k pc : Nat} {l : List (Option Value)} {st : List Value} {μ : sm_Mem} {Q : sm_Q} {n a b c0 pl : Nat} {v : Value} (hc : sm_ck k pc (.baload, n, a, b, c0, pl, v) = true) (h : sm_i ex (sm_W ex) d bc bs k pc l st μ Q (.baload) a b c0 v) : sm_W ex d bc bs k pc l st μ Q := by
  intro z E D p l0 e R s m args below meth c Q' H locs cells slots cA ls hF hY hL
  have hF0 := hF
  obtain ⟨hx, hb, hml, hnm, hown, hts, hfr, hlo, hz, hK, hEx, hret⟩ := hF0
  have hY0 := hY
  obtain ⟨⟨hA, hP, hyn, hz0⟩, hcb, hsb, hn, hS⟩ := hY0
  have hD := sm_ws_D z cA μ
  simp only [sm_ck, Bool.and_eq_true, decide_eq_true_eq] at hc
  obtain ⟨hd, rfl⟩ := hc
  obtain ⟨i, t, rfl, h⟩ := sm_p1_e h
  obtain ⟨o, t, rfl, N, hy, hi, h⟩ := sm_pr_e h
  have ho : o < μ.1 := (hyn o).mp (by rw [hy]; simp)
  have hcell := sm_ws_get (z := z) (cA := cA) ho
  rw [hy] at hcell
  have hK1 := sm_K1 hK (hA o _ _ hy)
  refine va_zald hx hb hK1 hP o 0 hcell rfl hi hd ?_
  exact h z E D p l0 e R s m args below meth c Q' H locs cells slots cA ls hF hY hL
set_option maxHeartbeats 1000000 in
theorem sm_in_laload {ex : sm_O} {d bc bs k pc : Nat} {l : List (Option Value)} {st : List Value} {μ : sm_Mem} {Q : sm_Q} {n a b c0 pl : Nat} {v : Value} (hc : sm_ck k pc (.laload, n, a, b, c0, pl, v) = true) (h : sm_i ex (sm_W ex) d bc bs k pc l st μ Q (.laload) a b c0 v) : sm_W ex d bc bs k pc l st μ Q := by
  intro z E D p l0 e R s m args below meth c Q' H locs cells slots cA ls hF hY hL
  have hF0 := hF
  obtain ⟨hx, hb, hml, hnm, hown, hts, hfr, hlo, hz, hK, hEx, hret⟩ := hF0
  have hY0 := hY
  obtain ⟨⟨hA, hP, hyn, hz0⟩, hcb, hsb, hn, hS⟩ := hY0
  have hD := sm_ws_D z cA μ
  simp only [sm_ck, Bool.and_eq_true, decide_eq_true_eq] at hc
  obtain ⟨hd, rfl⟩ := hc
  obtain ⟨i, t, rfl, h⟩ := sm_p1_e h
  obtain ⟨o, t, rfl, N, hy, hi, h⟩ := sm_pr_e h
  have ho : o < μ.1 := (hyn o).mp (by rw [hy]; simp)
  have hcell := sm_ws_get (z := z) (cA := cA) ho
  rw [hy] at hcell
  have hK1 := sm_K1 hK (hA o _ _ hy)
  refine va_lald hx hb hK1 hP o 0 hcell rfl hi hd ?_
  exact h z E D p l0 e R s m args below meth c Q' H locs cells slots cA ls hF hY hL
set_option maxHeartbeats 1000000 in
theorem sm_in_aaload {ex : sm_O} {d bc bs k pc : Nat} {l : List (Option Value)} {st : List Value} {μ : sm_Mem} {Q : sm_Q} {n a b c0 pl : Nat} {v : Value} (hc : sm_ck k pc (.aaload, n, a, b, c0, pl, v) = true) (h : sm_i ex (sm_W ex) d bc bs k pc l st μ Q (.aaload) a b c0 v) : sm_W ex d bc bs k pc l st μ Q := by
  intro z E D p l0 e R s m args below meth c Q' H locs cells slots cA ls hF hY hL
  have hF0 := hF
  obtain ⟨hx, hb, hml, hnm, hown, hts, hfr, hlo, hz, hK, hEx, hret⟩ := hF0
  have hY0 := hY
  obtain ⟨⟨hA, hP, hyn, hz0⟩, hcb, hsb, hn, hS⟩ := hY0
  have hD := sm_ws_D z cA μ
  simp only [sm_ck, Bool.and_eq_true, decide_eq_true_eq] at hc
  obtain ⟨hd, rfl⟩ := hc
  obtain ⟨i, t, rfl, h⟩ := sm_p1_e h
  obtain ⟨o, t, rfl, N, q, hy, hi, h⟩ := sm_pr_e h
  have ho : o < μ.1 := (hyn o).mp (by rw [hy]; simp)
  have hcell := sm_ws_get (z := z) (cA := cA) ho
  rw [hy] at hcell
  have hK1 := sm_K1 hK (hA o _ _ hy)
  obtain ⟨x, h, hxv⟩ := sm_rr_e (z := z) (E := E) h
  refine va_aldq hx hb hK1 hP o 0 hcell rfl hi hd ?_
  have h9 := h z E D p l0 e R s m args below meth c Q' H locs cells slots cA ls hF hY hL
  simp only [List.map_cons, hxv] at h9
  exact h9
set_option maxHeartbeats 1000000 in
theorem sm_in_iastore {ex : sm_O} {d bc bs k pc : Nat} {l : List (Option Value)} {st : List Value} {μ : sm_Mem} {Q : sm_Q} {n a b c0 pl : Nat} {v : Value} (hc : sm_ck k pc (.iastore, n, a, b, c0, pl, v) = true) (h : sm_i ex (sm_W ex) d bc bs k pc l st μ Q (.iastore) a b c0 v) : sm_W ex d bc bs k pc l st μ Q := by
  intro z E D p l0 e R s m args below meth c Q' H locs cells slots cA ls hF hY hL
  have hF0 := hF
  obtain ⟨hx, hb, hml, hnm, hown, hts, hfr, hlo, hz, hK, hEx, hret⟩ := hF0
  have hY0 := hY
  obtain ⟨⟨hA, hP, hyn, hz0⟩, hcb, hsb, hn, hS⟩ := hY0
  have hD := sm_ws_D z cA μ
  simp only [sm_ck, Bool.and_eq_true, decide_eq_true_eq] at hc
  obtain ⟨hd, rfl⟩ := hc
  obtain ⟨x, t, rfl, h⟩ := sm_p1_e h
  obtain ⟨i, t, rfl, h⟩ := sm_p1_e h
  obtain ⟨o, t, rfl, N, hy, hi, h⟩ := sm_pr_e h
  have ho : o < μ.1 := (hyn o).mp (by rw [hy]; simp)
  have hcell := sm_ws_get (z := z) (cA := cA) ho
  rw [hy] at hcell
  have hK1 := sm_K1 hK (hA o _ _ hy)
  refine va_iast hx hb hK1 hP hD hS o 0 hcell rfl hi hd (fun H1 locs1 hP1 hD1 hS1 => ?_)
  exact h z E D p l0 e R s m args below meth c Q' H1 locs1 cells slots cA ls hF (hY.set ho (P := (· = i.toNatClampNeg)) ⟨rfl, rfl, fun k j hj => ⟨sm_st_or _ _ hj, rfl, rfl⟩⟩ (by rw [hy]; show va_P _ _ (List.set _ _ (_, .inl (_, _, .inl (sm_st μ.2.2.1 o i.toNatClampNeg x o)))) _; rw [sm_st_upd]; exact hP1) hS1) hL
set_option maxHeartbeats 1000000 in
theorem sm_in_bastore {ex : sm_O} {d bc bs k pc : Nat} {l : List (Option Value)} {st : List Value} {μ : sm_Mem} {Q : sm_Q} {n a b c0 pl : Nat} {v : Value} (hc : sm_ck k pc (.bastore, n, a, b, c0, pl, v) = true) (h : sm_i ex (sm_W ex) d bc bs k pc l st μ Q (.bastore) a b c0 v) : sm_W ex d bc bs k pc l st μ Q := by
  intro z E D p l0 e R s m args below meth c Q' H locs cells slots cA ls hF hY hL
  have hF0 := hF
  obtain ⟨hx, hb, hml, hnm, hown, hts, hfr, hlo, hz, hK, hEx, hret⟩ := hF0
  have hY0 := hY
  obtain ⟨⟨hA, hP, hyn, hz0⟩, hcb, hsb, hn, hS⟩ := hY0
  have hD := sm_ws_D z cA μ
  simp only [sm_ck, Bool.and_eq_true, decide_eq_true_eq] at hc
  obtain ⟨hd, rfl⟩ := hc
  obtain ⟨x, t, rfl, h⟩ := sm_p1_e h
  obtain ⟨i, t, rfl, h⟩ := sm_p1_e h
  obtain ⟨o, t, rfl, N, hy, hi, h01, h⟩ := sm_pr_e h
  have ho : o < μ.1 := (hyn o).mp (by rw [hy]; simp)
  have hcell := sm_ws_get (z := z) (cA := cA) ho
  rw [hy] at hcell
  have hK1 := sm_K1 hK (hA o _ _ hy)
  refine va_zast hx hb hK1 hP hD hS o 0 hcell rfl hi hd (fun H1 locs1 hP1 hD1 hS1 => ?_)
  have hnz : vp_nar .boolean x = x := by rcases h01 with rfl | rfl <;> rfl
  rw [hnz] at hP1
  exact h z E D p l0 e R s m args below meth c Q' H1 locs1 cells slots cA ls hF (hY.set ho (P := (· = i.toNatClampNeg)) ⟨rfl, rfl, fun k j hj => ⟨sm_st_or _ _ hj, rfl, rfl⟩⟩ (by rw [hy]; show va_P _ _ (List.set _ _ (_, .inl (_, _, .inl (sm_st μ.2.2.1 o i.toNatClampNeg x o)))) _; rw [sm_st_upd]; exact hP1) hS1) hL
set_option maxHeartbeats 1000000 in
theorem sm_in_lastore {ex : sm_O} {d bc bs k pc : Nat} {l : List (Option Value)} {st : List Value} {μ : sm_Mem} {Q : sm_Q} {n a b c0 pl : Nat} {v : Value} (hc : sm_ck k pc (.lastore, n, a, b, c0, pl, v) = true) (h : sm_i ex (sm_W ex) d bc bs k pc l st μ Q (.lastore) a b c0 v) : sm_W ex d bc bs k pc l st μ Q := by
  intro z E D p l0 e R s m args below meth c Q' H locs cells slots cA ls hF hY hL
  have hF0 := hF
  obtain ⟨hx, hb, hml, hnm, hown, hts, hfr, hlo, hz, hK, hEx, hret⟩ := hF0
  have hY0 := hY
  obtain ⟨⟨hA, hP, hyn, hz0⟩, hcb, hsb, hn, hS⟩ := hY0
  have hD := sm_ws_D z cA μ
  simp only [sm_ck, Bool.and_eq_true, decide_eq_true_eq] at hc
  obtain ⟨hd, rfl⟩ := hc
  obtain ⟨x, t, rfl, h⟩ := sm_q1_e h
  obtain ⟨i, t, rfl, h⟩ := sm_p1_e h
  obtain ⟨o, t, rfl, N, hy, hi, h⟩ := sm_pr_e h
  have ho : o < μ.1 := (hyn o).mp (by rw [hy]; simp)
  have hcell := sm_ws_get (z := z) (cA := cA) ho
  rw [hy] at hcell
  have hK1 := sm_K1 hK (hA o _ _ hy)
  refine va_last hx hb hK1 hP hD hS o 0 hcell rfl hi hd (fun H1 locs1 hP1 hD1 hS1 => ?_)
  exact h z E D p l0 e R s m args below meth c Q' H1 locs1 cells slots cA ls hF (hY.set ho (P := (· = i.toNatClampNeg)) ⟨rfl, rfl, fun k j hj => ⟨rfl, sm_st_or _ _ hj, rfl⟩⟩ (by rw [hy]; show va_P _ _ (List.set _ _ (_, .inl (_, _, .inr (.inl (sm_st μ.2.2.2.1 o i.toNatClampNeg x o))))) _; rw [sm_st_updL]; exact hP1) hS1) hL
set_option maxHeartbeats 1000000 in
theorem sm_in_aastore {ex : sm_O} {d bc bs k pc : Nat} {l : List (Option Value)} {st : List Value} {μ : sm_Mem} {Q : sm_Q} {n a b c0 pl : Nat} {v : Value} (hc : sm_ck k pc (.aastore, n, a, b, c0, pl, v) = true) (h : sm_i ex (sm_W ex) d bc bs k pc l st μ Q (.aastore) a b c0 v) : sm_W ex d bc bs k pc l st μ Q := by
  intro z E D p l0 e R s m args below meth c Q' H locs cells slots cA ls hF hY hL
  have hF0 := hF
  obtain ⟨hx, hb, hml, hnm, hown, hts, hfr, hlo, hz, hK, hEx, hret⟩ := hF0
  have hY0 := hY
  obtain ⟨⟨hA, hP, hyn, hz0⟩, hcb, hsb, hn, hS⟩ := hY0
  have hD := sm_ws_D z cA μ
  simp only [sm_ck, Bool.and_eq_true, decide_eq_true_eq] at hc
  obtain ⟨hd, rfl⟩ := hc
  obtain ⟨x, t, rfl, h⟩ := sm_pr_e h
  obtain ⟨i, t, rfl, h⟩ := sm_p1_e h
  obtain ⟨o, t, rfl, N, q, hy, hyx, hi, h⟩ := sm_pr_e h
  have ho : o < μ.1 := (hyn o).mp (by rw [hy]; simp)
  have hcell := sm_ws_get (z := z) (cA := cA) ho
  rw [hy] at hcell
  have hK1 := sm_K1 hK (hA o _ _ hy)
  have hxl : x < μ.1 := (hyn x).mp (by rw [hyx]; simp)
  have hcx := sm_ws_get (z := z) (cA := cA) hxl
  rw [hyx] at hcx
  obtain ⟨r, hr, -⟩ := hP x _ hcx
  obtain ⟨hq12, rfl⟩ := sm_cls_of hr
  refine va_astq hx hb hK1 hP hD hS o 0 x q hcell rfl hcx hr hi hd (fun H1 locs1 hP1 hD1 hS1 => ?_)
  exact h z E D p l0 e R s m args below meth c Q' H1 locs1 cells slots cA ls hF (hY.set ho (P := (· = i.toNatClampNeg)) ⟨rfl, rfl, fun k j hj => ⟨rfl, rfl, sm_st_or _ _ hj⟩⟩ (by rw [hy]; show va_P _ _ (List.set _ _ (_, .inl (_, _, .inr (.inr (.inr (.inr fun j => sm_rz z (sm_st μ.2.2.2.2 o i.toNatClampNeg (some x) o j))))))) _; rw [sm_st_upr]; exact hP1) hS1) hL
set_option maxHeartbeats 1000000 in
theorem sm_in_arraylength {ex : sm_O} {d bc bs k pc : Nat} {l : List (Option Value)} {st : List Value} {μ : sm_Mem} {Q : sm_Q} {n a b c0 pl : Nat} {v : Value} (hc : sm_ck k pc (.arraylength, n, a, b, c0, pl, v) = true) (h : sm_i ex (sm_W ex) d bc bs k pc l st μ Q (.arraylength) a b c0 v) : sm_W ex d bc bs k pc l st μ Q := by
  intro z E D p l0 e R s m args below meth c Q' H locs cells slots cA ls hF hY hL
  have hF0 := hF
  obtain ⟨hx, hb, hml, hnm, hown, hts, hfr, hlo, hz, hK, hEx, hret⟩ := hF0
  have hY0 := hY
  obtain ⟨⟨hA, hP, hyn, hz0⟩, hcb, hsb, hn, hS⟩ := hY0
  have hD := sm_ws_D z cA μ
  simp only [sm_ck, Bool.and_eq_true, decide_eq_true_eq] at hc
  obtain ⟨hd, rfl⟩ := hc
  rcases sm_pe_e h with ⟨o, t, rfl, N, q, hy, h⟩ | ⟨o, t, rfl, ho2, h⟩
  · have ho : o < μ.1 := (hyn o).mp (by rw [hy]; simp)
    have hcell := sm_ws_get (z := z) (cA := cA) ho
    rw [hy] at hcell
    obtain ⟨w, hw⟩ := sm_ce_arr z (cA o) q N o μ
    rw [hw] at hcell
    refine va_alen hx hb (sm_K1 hK (hA o _ _ hy)) hP o 0 hcell rfl rfl hd ?_
    exact h z E D p l0 e R s m args below meth c Q' H locs cells slots cA ls hF hY hL
  · obtain ⟨hEz, cell, c1, c2, c3, c4, c5⟩ := hEx.2.2.2.2.2.2 o ho2
    refine W.alen hx hb (cell := cell) (by rw [hS.2.1 (E o) (by omega) (by omega)]; exact c1) c2 (n := nI (ex.1 o).1) c4.2 rfl rfl hd ?_
    exact h z E D p l0 e R s m args below meth c Q' H locs cells slots cA ls hF hY hL
