theorem sm_Dyn.lo {z : Nat} {D : va_G} {R : Room} {s : State} {μ : sm_Mem} {H : Heap} {locs : List Loc} {cells slots : Nat} {cA : Nat → ClassId} {bc bs : Nat} (hz : z ≤ s.heap.size) (h : sm_Dyn z D R s μ H locs cells slots cA bc bs) : z + μ.1 ≤ H.size := by
  obtain ⟨⟨-, hP, -, -⟩, -, -, hn, hS⟩ := h
  by_cases h0 : μ.1 = 0
  · have := hS.1
    omega
  · have := (hP (μ.1 - 1) _ (sm_ws_get (by omega))).lt
    simp only at this
    omega
theorem sm_size {z : Nat} {D : va_G} {p : Program} {l0 : Launch} {e : Env} {R : Room} {s : State} {m : MethodId} {args : Array Value} {below : List Frame} {meth : Method} {c : Code} {μ : sm_Mem} {H : Heap} {locs : List Loc} {cells slots : Nat} {cA : Nat → ClassId} {bc bs : Nat} {Q' : State → Prop} {g : JFrame} (hz : z ≤ s.heap.size) (h : sm_Dyn z D R s μ H locs cells slots cA bc bs)
    (k : H.size = z + μ.1 → W p l0 e R s m args below meth c H locs cells slots Q' g) : W p l0 e R s m args below meth c H locs cells slots Q' g := by
  intro T hT X
  have h1 : T.heap.size ≤ s.heap.size + cells := X.same.2.2.1
  have h2 := h.lo hz
  have hn := h.2.2.2.1
  rw [hT] at h1
  exact k (by omega) T hT X
theorem sm_Dyn.push {z : Nat} {D : va_G} {R : Room} {s : State} {μ : sm_Mem} {H H1 : Heap} {locs : List Loc} {cells slots : Nat} {cA : Nat → ClassId} {bc bs N : Nat} {c0 : ClassId} {y : Nat ⊕ (Nat × Nat)} (h : sm_Dyn z D R s μ H locs cells slots cA bc bs) (hb : 1 ≤ bc) (hN : N ≤ bs) (hH : H.size = z + μ.1) (z1 : H1.size = z + μ.1 + 1) (o1 : ∀ q : Nat, q < z + μ.1 → H1[q]? = H[q]?)
    (ha : va_at D vwCl (z + μ.1, sm_ce z c0 (some y) μ.1 (μ.1 + 1, sm_up μ.2.1 μ.1 (some y), μ.2.2)) H1) (hr : ∀ t n : Nat, y = .inr (t, n) → ArrOfT s c0 (sm_aty t) ∧ va_RA s c0 (sm_aty t)) : sm_Dyn z D R s (μ.1 + 1, sm_up μ.2.1 μ.1 (some y), μ.2.2) H1 locs (cells + 1) (slots + N) (sm_up cA μ.1 c0) (bc - 1) (bs - N) := by
  obtain ⟨⟨hA, hP, hyn, hz0⟩, hcb, hsb, hn, hS⟩ := h
  have hk : ∀ (k : Nat) (x : Nat × va_E), (sm_ws z cA μ)[k]? = some x → H1[x.1]? = H[x.1]? := fun k x hx => o1 x.1 (by have := (hP k x hx).lt; omega)
  refine ⟨⟨fun o t n hq => ?_, ?_, fun o => ?_, fun o j ho => hz0 o j (by show μ.1 ≤ o; have : μ.1 + 1 ≤ o := ho; omega)⟩, by omega, by omega, by show s.heap.size + (cells + 1) = z + (μ.1 + 1); omega, ⟨by have := hS.1; omega, fun q h1 h2 => (o1 q (by have := hS.1; omega)).trans (hS.2.1 q h1 h2), hS.2.2⟩⟩
  · by_cases e : o = μ.1
    · subst e
      have hq : sm_up μ.2.1 μ.1 (some y) μ.1 = some (.inr (t, n)) := hq
      simp only [sm_up, if_true] at hq ⊢
      exact hr t n (Option.some.inj hq)
    · have hq : sm_up μ.2.1 μ.1 (some y) o = some (.inr (t, n)) := hq
      simp only [sm_up, if_neg e] at hq ⊢
      exact hA o t n hq
  · rw [← sm_ws_push (c0 := c0) (μ := μ) (μ' := (μ.1 + 1, sm_up μ.2.1 μ.1 (some y), μ.2.2)) rfl (fun k hk => by show sm_up _ _ _ _ = _; simp [sm_up, Nat.ne_of_lt hk]) rfl]
    refine (hP.kept hk).app (fun k x hx => ?_)
    cases k with
    | zero =>
      cases hx
      have e : (sm_up μ.2.1 μ.1 (some y)) μ.1 = some y := by simp [sm_up]
      show va_at D vwCl (z + μ.1, sm_ce z c0 ((sm_up μ.2.1 μ.1 (some y)) μ.1) μ.1 _) H1
      rw [e]
      exact ha
    | succ k => cases hx
  · show sm_up μ.2.1 μ.1 (some y) o ≠ none ↔ o < μ.1 + 1
    by_cases e : o = μ.1
    · subst e
      simp [sm_up]
    · simp only [sm_up, if_neg e]
      rw [hyn o]
      omega
theorem sm_arr_i : Cond.arrayClass .int ∈ sm_all := sm_wd_all (pl := 104) (by decide +kernel) rfl
theorem sm_arr_l : Cond.arrayClass .long ∈ sm_all := sm_wd_all (pl := 431) (by decide +kernel) rfl
theorem sm_arr_z : Cond.arrayClass .boolean ∈ sm_all := sm_wd_all (pl := 1204) (by decide +kernel) rfl
set_option maxHeartbeats 1000000 in
theorem sm_in_new {ex : sm_O} {d bc bs k pc : Nat} {l : List (Option Value)} {st : List Value} {μ : sm_Mem} {Q : sm_Q} {i : Nat} {n a b c0 pl : Nat} {v : Value} (hc : sm_ck k pc (.new i, n, a, b, c0, pl, v) = true) (h : sm_i ex (sm_W ex) d bc bs k pc l st μ Q (.new i) a b c0 v) : sm_W ex d bc bs k pc l st μ Q := by
  intro z E D p l0 e R s m args below meth c Q' H locs cells slots cA ls hF hY hL
  have hF0 := hF
  obtain ⟨hx, hb, hml, hnm, hown, hts, hfr, hlo, hz, hK, hEx, hret⟩ := hF0
  have hY0 := hY
  obtain ⟨⟨hA, hP, hyn, hz0⟩, hcb, hsb, hn, hS⟩ := hY0
  have hD := sm_ws_D z cA μ
  simp only [sm_ck, Bool.and_eq_true, decide_eq_true_eq] at hc
  obtain ⟨hd, ⟨rfl, rfl, ha1⟩, hw⟩ := hc
  obtain ⟨h1, h2, h⟩ := h
  refine sm_size hz hY fun hH => ?_
  have hKn := hK.1 a _ (sm_cls_at ha1)
  have hci := sm_cls_i ha1
  refine W.newcK hx hb hown (hts _ (sm_wd_all hw rfl)) (hts _ hci.1) (hts _ hci.2) rfl hd (by omega) (by omega) hKn.2.1 hH fun H1 kC hkC e1 z1 o1 => ?_
  have hob := u_born (sm_ty a) hts (sm_cls_w ha1) hKn hkC e1 (sm_cls_ty ha1)
  refine h z E D p l0 e R s m args below meth c Q' H1 locs (cells + 1) (slots + sm_nf a) (sm_up cA μ.1 (cA μ.1)) ls hF (?_) hL
  refine hY.push (y := .inl a) h1 h2 hH z1 o1 ⟨_, sm_cls_at ha1, hob.to fun j hj => ?_⟩ (fun t n hq => by cases hq)
  have hk := sm_cls_kd ha1 hj
  obtain ⟨q1, q2, q3⟩ := hz0 μ.1 j (Nat.le_refl _)
  show defaultValue (sm_ty a j) = vp_V ((List.range (sm_nf a)).map fun j => sm_fv z (sm_kd a j) μ.1 j (μ.1 + 1, sm_up μ.2.1 μ.1 (some (.inl a)), μ.2.2)) j
  unfold vp_V
  rw [List.getD_eq_getElem?_getD, sm_rm_get _ hj]
  show defaultValue (sm_ty a j) = sm_fv z (sm_kd a j) μ.1 j _
  generalize sm_ty a j = ty at hk ⊢
  generalize sm_kd a j = kd at hk ⊢
  unfold sm_kt at hk
  split at hk <;> first | (cases hk; done) | simp [defaultValue, sm_fv, q1, q2, q3, sm_rz, va_rf]
set_option maxHeartbeats 1000000 in
theorem sm_in_newarray {ex : sm_O} {d bc bs k pc : Nat} {l : List (Option Value)} {st : List Value} {μ : sm_Mem} {Q : sm_Q} {i : ArrayType} {n a b c0 pl : Nat} {v : Value} (hc : sm_ck k pc (.newarray i, n, a, b, c0, pl, v) = true) (h : sm_i ex (sm_W ex) d bc bs k pc l st μ Q (.newarray i) a b c0 v) : sm_W ex d bc bs k pc l st μ Q := by
  intro z E D p l0 e R s m args below meth c Q' H locs cells slots cA ls hF hY hL
  have hF0 := hF
  obtain ⟨hx, hb, hml, hnm, hown, hts, hfr, hlo, hz, hK, hEx, hret⟩ := hF0
  have hY0 := hY
  obtain ⟨⟨hA, hP, hyn, hz0⟩, hcb, hsb, hn, hS⟩ := hY0
  have hD := sm_ws_D z cA μ
  simp only [sm_ck, Bool.and_eq_true, decide_eq_true_eq] at hc
  obtain ⟨hd, rfl, hat⟩ := hc
  obtain ⟨x, t, rfl, hx0, hx1, h1, h2, hh⟩ := sm_p1_e h
  refine sm_size hz hY fun hH => ?_
  rcases hat with ⟨rfl, rfl⟩ | ⟨rfl, rfl⟩ | ⟨rfl, rfl⟩
  · refine va_newaK (atype := .int) hx hb (hts _ (sm_arr_i)) rfl hd rfl hx0 rfl (by show _ * 4 ≤ _; omega) (by omega) (by omega) hH fun H1 cN e1 z1 o1 hAr hfc => ?_
    refine hh z E D p l0 e R s m args below meth c Q' H1 locs (cells + 1) (slots + x.toNatClampNeg) (sm_up cA μ.1 cN) ls hF (?_) hL
    refine hY.push (y := .inr (0, x.toNatClampNeg)) h1 h2 hH z1 o1 ?_ (fun t n hq => by cases hq; exact ⟨hAr, hfc⟩)
    show H1[z + μ.1]? = some (vp_cell cN (x.toNatClampNeg, .inl (μ.2.2.1 μ.1)))
    rw [e1]
    rw [vp_cell_i]
    congr 2
    funext j
    have q := hz0 μ.1 j (Nat.le_refl _)
    show _ = Value.int (μ.2.2.1 μ.1 j)
    rw [q.1]
    rfl
  · refine va_newaK (atype := .long) hx hb (hts _ (sm_arr_l)) rfl hd rfl hx0 rfl (by show _ * 8 ≤ _; omega) (by omega) (by omega) hH fun H1 cN e1 z1 o1 hAr hfc => ?_
    refine hh z E D p l0 e R s m args below meth c Q' H1 locs (cells + 1) (slots + x.toNatClampNeg) (sm_up cA μ.1 cN) ls hF (?_) hL
    refine hY.push (y := .inr (1, x.toNatClampNeg)) h1 h2 hH z1 o1 ?_ (fun t n hq => by cases hq; exact ⟨hAr, hfc⟩)
    show H1[z + μ.1]? = some (vp_cell cN (x.toNatClampNeg, .inr (.inl (μ.2.2.2.1 μ.1))))
    rw [e1]
    rw [vp_cell_l]
    congr 2
    funext j
    have q := hz0 μ.1 j (Nat.le_refl _)
    show _ = Value.long (μ.2.2.2.1 μ.1 j)
    rw [q.2.1]
    rfl
  · refine va_newaK (atype := .boolean) hx hb (hts _ (sm_arr_z)) rfl hd rfl hx0 rfl (by show _ * 1 ≤ _; omega) (by omega) (by omega) hH fun H1 cN e1 z1 o1 hAr hfc => ?_
    refine hh z E D p l0 e R s m args below meth c Q' H1 locs (cells + 1) (slots + x.toNatClampNeg) (sm_up cA μ.1 cN) ls hF (?_) hL
    refine hY.push (y := .inr (2, x.toNatClampNeg)) h1 h2 hH z1 o1 ?_ (fun t n hq => by cases hq; exact ⟨hAr, hfc⟩)
    show H1[z + μ.1]? = some (vp_cell cN (x.toNatClampNeg, .inl (μ.2.2.1 μ.1)))
    rw [e1]
    rw [vp_cell_i]
    congr 2
    funext j
    have q := hz0 μ.1 j (Nat.le_refl _)
    show _ = Value.int (μ.2.2.1 μ.1 j)
    rw [q.1]
    rfl
set_option maxHeartbeats 1000000 in
theorem sm_in_anewarray {ex : sm_O} {d bc bs k pc : Nat} {l : List (Option Value)} {st : List Value} {μ : sm_Mem} {Q : sm_Q} {i : Nat} {n a b c0 pl : Nat} {v : Value} (hc : sm_ck k pc (.anewarray i, n, a, b, c0, pl, v) = true) (h : sm_i ex (sm_W ex) d bc bs k pc l st μ Q (.anewarray i) a b c0 v) : sm_W ex d bc bs k pc l st μ Q := by
  intro z E D p l0 e R s m args below meth c Q' H locs cells slots cA ls hF hY hL
  have hF0 := hF
  obtain ⟨hx, hb, hml, hnm, hown, hts, hfr, hlo, hz, hK, hEx, hret⟩ := hF0
  have hY0 := hY
  obtain ⟨⟨hA, hP, hyn, hz0⟩, hcb, hsb, hn, hS⟩ := hY0
  have hD := sm_ws_D z cA μ
  simp only [sm_ck, Bool.and_eq_true, decide_eq_true_eq] at hc
  obtain ⟨hd, ⟨rfl, hat⟩, hw⟩ := hc
  obtain ⟨x, t, rfl, hx0, hx1, h1, h2, h⟩ := sm_p1_e h
  refine sm_size hz hY fun hH => ?_
  have hover : va_AO (sm_cn a) s := by
    rcases hat with rfl | rfl | rfl
    · exact hEx.2.1
    · exact hEx.2.2.1
    · exact hEx.2.2.2.1
  refine W.anew hx hb hown (hts _ (sm_wd_all hw rfl)) (va_AO.use hover) rfl hd rfl hx0 (by omega) (by omega) (by omega) fun cN kA comp f1 f2 f3 f4 => ?_
  generalize hH1 : H.push ({ cls := cN, slots := Array.replicate x.toNatClampNeg .null, vm := .none } : Cell) = H1
  have z1 : H1.size = z + μ.1 + 1 := by rw [← hH1, Array.size_push, hH]
  have e1 : H1[z + μ.1]? = some (arrV cN x.toNatClampNeg (fun _ => .null)) := by rw [← hH1, ← hH, Array.getElem?_push_size, ← arrV_new]
  have o1 : ∀ q : Nat, q < z + μ.1 → H1[q]? = H[q]? := fun q hq => by rw [← hH1, Array.getElem?_push, if_neg (by omega)]
  have hAr : ArrOfT s cN (.object (sm_cn a)) := fun N z => ⟨(fun k h => by cases h), kA, f2, comp, f3⟩
  rw [hH]
  refine h z E D p l0 e R s m args below meth c Q' H1 locs (cells + 1) (slots + x.toNatClampNeg) (sm_up cA μ.1 cN) ls hF (?_) hL
  refine hY.push (y := .inr (a + 3, x.toNatClampNeg)) h1 h2 hH z1 o1 ?_ (fun t n hq => by cases hq; exact ⟨hAr, kA, comp, f2, f3, f4, f1⟩)
  show H1[z + μ.1]? = some (vp_cell cN (x.toNatClampNeg, .inr (.inr (.inr (.inr fun j => sm_rz z (μ.2.2.2.2 μ.1 j))))))
  rw [e1]
  rw [vp_cell_q]
  congr 2
  funext j
  have q := hz0 μ.1 j (Nat.le_refl _)
  show _ = va_rf (sm_rz z (μ.2.2.2.2 μ.1 j))
  rw [q.2.2]
  rfl
set_option maxHeartbeats 1000000 in
theorem sm_in_ireturn {ex : sm_O} {d bc bs k pc : Nat} {l : List (Option Value)} {st : List Value} {μ : sm_Mem} {Q : sm_Q} {n a b c0 pl : Nat} {v : Value} (hc : sm_ck k pc (.ireturn, n, a, b, c0, pl, v) = true) (h : sm_i ex (sm_W ex) d bc bs k pc l st μ Q (.ireturn) a b c0 v) : sm_W ex d bc bs k pc l st μ Q := by
  intro z E D p l0 e R s m args below meth c Q' H locs cells slots cA ls hF hY hL
  have hF0 := hF
  obtain ⟨hx, hb, hml, hnm, hown, hts, hfr, hlo, hz, hK, hEx, hret⟩ := hF0
  have hY0 := hY
  obtain ⟨⟨hA, hP, hyn, hz0⟩, hcb, hsb, hn, hS⟩ := hY0
  have hD := sm_ws_D z cA μ
  simp only [sm_ck, Bool.and_eq_true, decide_eq_true_eq] at hc
  obtain ⟨hd, hc⟩ := hc
  obtain ⟨x, rfl, h⟩ := sm_rt1_e h
  obtain ⟨x, t, he, hh⟩ := sm_p1_e h
  cases he
  split at hc
  · simp only [decide_eq_true_eq] at hc
    obtain ⟨rfl, hrt⟩ := hc
    exact hret (some (.int x)) μ H locs cells slots cA bc bs pc ls hY (Or.inl hh.1) hh.2 (Or.inl ⟨x, .int, rfl, hd, hrt, rfl⟩)
  · simp only [decide_eq_true_eq] at hc
    obtain ⟨rfl, hrt⟩ := hc
    exact hret (some (.int x)) μ H locs cells slots cA bc bs pc ls hY (Or.inl hh.1) hh.2.2 (Or.inl ⟨x, .boolean, rfl, hd, hrt, by rcases hh.2.1 with rfl | rfl <;> rfl⟩)
  · simp only [decide_eq_true_eq] at hc
    obtain ⟨rfl, hk, hrt⟩ := hc
    rename_i h0 h1
    have h : (x = 0 ∨ x = 1) ∧ Q (some (.int x)) μ := by
      match c0, hh, h0, h1 with
      | 0, _, h0, _ => exact (h0 rfl).elim
      | 1, _, _, h1 => exact (h1 rfl).elim
      | _ + 2, h, _, _ => exact h
    exact hret (some (.int x)) μ H locs cells slots cA bc bs pc ls hY (Or.inr hk) h.2 (Or.inl ⟨x, .boolean, rfl, hd, hrt, by rcases h.1 with rfl | rfl <;> rfl⟩)
set_option maxHeartbeats 1000000 in
theorem sm_in_lreturn {ex : sm_O} {d bc bs k pc : Nat} {l : List (Option Value)} {st : List Value} {μ : sm_Mem} {Q : sm_Q} {n a b c0 pl : Nat} {v : Value} (hc : sm_ck k pc (.lreturn, n, a, b, c0, pl, v) = true) (h : sm_i ex (sm_W ex) d bc bs k pc l st μ Q (.lreturn) a b c0 v) : sm_W ex d bc bs k pc l st μ Q := by
  intro z E D p l0 e R s m args below meth c Q' H locs cells slots cA ls hF hY hL
  have hF0 := hF
  obtain ⟨hx, hb, hml, hnm, hown, hts, hfr, hlo, hz, hK, hEx, hret⟩ := hF0
  have hY0 := hY
  obtain ⟨⟨hA, hP, hyn, hz0⟩, hcb, hsb, hn, hS⟩ := hY0
  have hD := sm_ws_D z cA μ
  simp only [sm_ck, Bool.and_eq_true, decide_eq_true_eq] at hc
  obtain ⟨hd, rfl, hrt⟩ := hc
  obtain ⟨x, rfl, h⟩ := sm_rt1_e h
  obtain ⟨x, t, he, h⟩ := sm_q1_e h
  cases he
  exact hret (some (.long x)) μ H locs cells slots cA bc bs pc ls hY (Or.inl h.1) h.2 (Or.inr (Or.inl ⟨x, rfl, hd, hrt⟩))
set_option maxHeartbeats 1000000 in
theorem sm_in_areturn {ex : sm_O} {d bc bs k pc : Nat} {l : List (Option Value)} {st : List Value} {μ : sm_Mem} {Q : sm_Q} {n a b c0 pl : Nat} {v : Value} (hc : sm_ck k pc (.areturn, n, a, b, c0, pl, v) = true) (h : sm_i ex (sm_W ex) d bc bs k pc l st μ Q (.areturn) a b c0 v) : sm_W ex d bc bs k pc l st μ Q := by
  intro z E D p l0 e R s m args below meth c Q' H locs cells slots cA ls hF hY hL
  have hF0 := hF
  obtain ⟨hx, hb, hml, hnm, hown, hts, hfr, hlo, hz, hK, hEx, hret⟩ := hF0
  have hY0 := hY
  obtain ⟨⟨hA, hP, hyn, hz0⟩, hcb, hsb, hn, hS⟩ := hY0
  have hD := sm_ws_D z cA μ
  simp only [sm_ck, Bool.and_eq_true, decide_eq_true_eq] at hc
  obtain ⟨hd, rfl, hrt⟩ := hc
  obtain ⟨x, rfl, h⟩ := sm_rt1_e h
  obtain ⟨x, t, he, h⟩ := sm_pr_e h
  cases he
  exact hret (some (.ref x)) μ H locs cells slots cA bc bs pc ls hY (Or.inl h.1) h.2 (Or.inr (Or.inr (Or.inl ⟨x, _, rfl, hd, hrt⟩)))
set_option maxHeartbeats 1000000 in
theorem sm_in_return {ex : sm_O} {d bc bs k pc : Nat} {l : List (Option Value)} {st : List Value} {μ : sm_Mem} {Q : sm_Q} {n a b c0 pl : Nat} {v : Value} (hc : sm_ck k pc (.return_, n, a, b, c0, pl, v) = true) (h : sm_i ex (sm_W ex) d bc bs k pc l st μ Q (.return_) a b c0 v) : sm_W ex d bc bs k pc l st μ Q := by
  intro z E D p l0 e R s m args below meth c Q' H locs cells slots cA ls hF hY hL
  have hF0 := hF
  obtain ⟨hx, hb, hml, hnm, hown, hts, hfr, hlo, hz, hK, hEx, hret⟩ := hF0
  have hY0 := hY
  obtain ⟨⟨hA, hP, hyn, hz0⟩, hcb, hsb, hn, hS⟩ := hY0
  have hD := sm_ws_D z cA μ
  simp only [sm_ck, Bool.and_eq_true, decide_eq_true_eq] at hc
  obtain ⟨hd, rfl, hrt⟩ := hc
  obtain ⟨h0, rfl, h⟩ := h
  exact hret none μ H locs cells slots cA bc bs pc ls hY (Or.inl h0) h (Or.inr (Or.inr (Or.inr ⟨rfl, hd, hrt⟩)))
set_option maxHeartbeats 1000000 in
theorem sm_in_sw {ex : sm_O} {d bc bs k pc : Nat} {l : List (Option Value)} {st : List Value} {μ : sm_Mem} {Q : sm_Q} {off lo hi : Int} {offs : Array Int} {n a b c0 pl : Nat} {v : Value} (hc : sm_ck k pc (.tableswitch off lo hi offs, n, a, b, c0, pl, v) = true) (h : sm_i ex (sm_W ex) d bc bs k pc l st μ Q (.tableswitch off lo hi offs) a b c0 v) : sm_W ex d bc bs k pc l st μ Q := by
  intro z E D p l0 e R s m args below meth c Q' H locs cells slots cA ls hF hY hL
  have hF0 := hF
  obtain ⟨hx, hb, hml, hnm, hown, hts, hfr, hlo, hz, hK, hEx, hret⟩ := hF0
  have hY0 := hY
  obtain ⟨⟨hA, hP, hyn, hz0⟩, hcb, hsb, hn, hS⟩ := hY0
  have hD := sm_ws_D z cA μ
  simp only [sm_ck, Bool.and_eq_true, decide_eq_true_eq] at hc
  obtain ⟨hd, ⟨ht, hall⟩, hsz⟩ := hc
  obtain ⟨x, t, rfl, h1, h2⟩ := sm_p1_e h
  by_cases h3 : x.toInt < lo ∨ hi < x.toInt
  · exact lv_tableOut hx hb hd h3 ht (h1 h3 z E D p l0 e R s m args below meth c Q' H locs cells slots cA ls hF hY hL)
  · have hj : x.toInt = lo + ((x.toInt - lo).toNat : Int) := by omega
    have hlt : (x.toInt - lo).toNat < offs.size := by omega
    have ho : offs[(x.toInt - lo).toNat]? = some offs[(x.toInt - lo).toNat] := Array.getElem?_eq_getElem hlt
    have hp : 0 ≤ (pc : Int) + offs[(x.toInt - lo).toNat] := of_decide_eq_true (List.all_eq_true.mp hall _ (by simp))
    exact lv_tableIn hx hb hd (fun q => h3 (Or.inl q)) (fun q => h3 (Or.inr q)) ho (by omega) (h2 _ _ ho hj z E D p l0 e R s m args below meth c Q' H locs cells slots cA ls hF hY hL)
