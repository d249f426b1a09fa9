theorem j_len_c : Cond.code yJ0_length_8abf5 cJ0_length_8abf5 1 (some .int) ∈ sm_all := sm_wd_all (pl := 585) (by decide +kernel) rfl
theorem j_len_i : Cond.instanceMethod yJ0_length_8abf5 ∈ sm_all := sm_wd_all (pl := 583) (by decide +kernel) rfl
theorem j_len_s : Cond.selects RJ0 yJ0_length_8abf5 yJ0_length_8abf5 ∈ sm_all := sm_wd_all (pl := 584) (by decide +kernel) rfl
theorem j_cod_c : Cond.code yJ0_coder_7d493 cJ0_coder_7d493 1 (some .byte) ∈ sm_all := sm_wd_all (pl := 589) (by decide +kernel) rfl
theorem j_cod_i : Cond.instanceMethod yJ0_coder_7d493 ∈ sm_all := sm_wd_all (pl := 587) (by decide +kernel) rfl
theorem j_cod_s : Cond.selects RJ0 yJ0_coder_7d493 yJ0_coder_7d493 ∈ sm_all := sm_wd_all (pl := 588) (by decide +kernel) rfl
theorem j_isl_c : Cond.code yJ0_isLatin1_aae02 cJ0_isLatin1_aae02 1 (some .boolean) ∈ sm_all := sm_wd_all (pl := 599) (by decide +kernel) rfl
theorem j_isl_i : Cond.instanceMethod yJ0_isLatin1_aae02 ∈ sm_all := sm_wd_all (pl := 597) (by decide +kernel) rfl
theorem j_isl_s : Cond.selects RJ0 yJ0_isLatin1_aae02 yJ0_isLatin1_aae02 ∈ sm_all := sm_wd_all (pl := 598) (by decide +kernel) rfl
theorem j_cha_c : Cond.code yJ0_charAt_5068e cJ0_charAt_5068e 2 (some .char) ∈ sm_all := sm_wd_all (pl := 595) (by decide +kernel) rfl
theorem j_cha_i : Cond.instanceMethod yJ0_charAt_5068e ∈ sm_all := sm_wd_all (pl := 593) (by decide +kernel) rfl
theorem j_cha_s : Cond.selects RJ0 yJ0_charAt_5068e yJ0_charAt_5068e ∈ sm_all := sm_wd_all (pl := 594) (by decide +kernel) rfl
theorem j_chk_c : Cond.code yJ0_checkIndex_df160 cJ0_checkIndex_df160 2 none ∈ sm_all := sm_wd_all (pl := 605) (by decide +kernel) rfl
theorem j_chk_t : Cond.static yJ0_checkIndex_df160 ∈ sm_all := sm_wd_all (pl := 604) (by decide +kernel) rfl
theorem j_lat_c : Cond.code yJ1_charAt_3b067 cJ1_charAt_3b067 2 (some .char) ∈ sm_all := sm_wd_all (pl := 602) (by decide +kernel) rfl
theorem j_lat_t : Cond.static yJ1_charAt_3b067 ∈ sm_all := sm_wd_all (pl := 601) (by decide +kernel) rfl
theorem j_prc_c : Cond.code yJ3_checkIndex_8e157 cJ3_checkIndex_8e157 3 (some .int) ∈ sm_all := sm_wd_all (pl := 610) (by decide +kernel) rfl
theorem j_prc_t : Cond.static yJ3_checkIndex_8e157 ∈ sm_all := sm_wd_all (pl := 609) (by decide +kernel) rfl
theorem j_n0 : Cond.initialized RJ0 ∈ sm_all := sm_wd_all (pl := 15) (by decide +kernel) rfl
theorem j_n1 : Cond.initialized RJ1 ∈ sm_all := sm_wd_all (pl := 16) (by decide +kernel) rfl
theorem j_n3 : Cond.initialized RJ3 ∈ sm_all := sm_wd_all (pl := 17) (by decide +kernel) rfl
theorem j_l335 : Cond.methodLink RJ0 335 yJ0_coder_7d493 ∈ sm_all := sm_wd_all (pl := 586) (by decide +kernel) rfl
theorem j_l492 : Cond.methodLink RJ0 492 yJ0_isLatin1_aae02 ∈ sm_all := sm_wd_all (pl := 596) (by decide +kernel) rfl
theorem j_l495 : Cond.methodLink RJ0 495 yJ1_charAt_3b067 ∈ sm_all := sm_wd_all (pl := 600) (by decide +kernel) rfl
theorem j_l9 : Cond.methodLink RJ1 9 yJ0_checkIndex_df160 ∈ sm_all := sm_wd_all (pl := 603) (by decide +kernel) rfl
theorem j_l1059 : Cond.methodLink RJ0 1059 yJ3_checkIndex_8e157 ∈ sm_all := sm_wd_all (pl := 608) (by decide +kernel) rfl
theorem j_f38 : Cond.fieldLink RJ0 38 "java/lang/String" "COMPACT_STRINGS" "Z" ∈ sm_all := sm_wd_all (pl := 590) (by decide +kernel) rfl
theorem j_f15 : Cond.fieldLink RJ0 15 "java/lang/String" "coder" "B" ∈ sm_all := sm_wd_all (pl := 1696) (by decide +kernel) rfl
theorem j_f9 : Cond.fieldLink RJ0 9 "java/lang/String" "value" "[B" ∈ sm_all := sm_wd_all (pl := 1695) (by decide +kernel) rfl
theorem j_f1053 : Cond.fieldLink RJ0 1053 "jdk/internal/util/Preconditions" "SIOOBE_FORMATTER" "Ljava/util/function/BiFunction;" ∈ sm_all := sm_wd_all (pl := 606) (by decide +kernel) rfl
theorem jd_len_0 : decode cJ0_length_8abf5 0 = .ok (.aload_n 0, 1) := by decide +kernel
theorem jd_len_1 : decode cJ0_length_8abf5 1 = .ok (.getfield 9, 3) := by decide +kernel
theorem jd_len_4 : decode cJ0_length_8abf5 4 = .ok (.arraylength, 1) := by decide +kernel
theorem jd_len_5 : decode cJ0_length_8abf5 5 = .ok (.aload_n 0, 1) := by decide +kernel
theorem jd_len_6 : decode cJ0_length_8abf5 6 = .ok (.invokevirtual 335, 3) := by decide +kernel
theorem jd_len_9 : decode cJ0_length_8abf5 9 = .ok (.ishr, 1) := by decide +kernel
theorem jd_len_10 : decode cJ0_length_8abf5 10 = .ok (.ireturn, 1) := by decide +kernel
theorem jd_cod_0 : decode cJ0_coder_7d493 0 = .ok (.getstatic 38, 3) := by decide +kernel
theorem jd_cod_3 : decode cJ0_coder_7d493 3 = .ok (.ifCond .eq 10, 3) := by decide +kernel
theorem jd_cod_6 : decode cJ0_coder_7d493 6 = .ok (.aload_n 0, 1) := by decide +kernel
theorem jd_cod_7 : decode cJ0_coder_7d493 7 = .ok (.getfield 15, 3) := by decide +kernel
theorem jd_cod_10 : decode cJ0_coder_7d493 10 = .ok (.goto 4, 3) := by decide +kernel
theorem jd_cod_13 : decode cJ0_coder_7d493 13 = .ok (.iconst 1, 1) := by decide +kernel
theorem jd_cod_14 : decode cJ0_coder_7d493 14 = .ok (.ireturn, 1) := by decide +kernel
theorem jd_isl_0 : decode cJ0_isLatin1_aae02 0 = .ok (.getstatic 38, 3) := by decide +kernel
theorem jd_isl_3 : decode cJ0_isLatin1_aae02 3 = .ok (.ifCond .eq 14, 3) := by decide +kernel
theorem jd_isl_6 : decode cJ0_isLatin1_aae02 6 = .ok (.aload_n 0, 1) := by decide +kernel
theorem jd_isl_7 : decode cJ0_isLatin1_aae02 7 = .ok (.getfield 15, 3) := by decide +kernel
theorem jd_isl_10 : decode cJ0_isLatin1_aae02 10 = .ok (.ifCond .ne 7, 3) := by decide +kernel
theorem jd_isl_13 : decode cJ0_isLatin1_aae02 13 = .ok (.iconst 1, 1) := by decide +kernel
theorem jd_isl_14 : decode cJ0_isLatin1_aae02 14 = .ok (.goto 4, 3) := by decide +kernel
theorem jd_isl_17 : decode cJ0_isLatin1_aae02 17 = .ok (.iconst 0, 1) := by decide +kernel
theorem jd_isl_18 : decode cJ0_isLatin1_aae02 18 = .ok (.ireturn, 1) := by decide +kernel
theorem jd_cha_0 : decode cJ0_charAt_5068e 0 = .ok (.aload_n 0, 1) := by decide +kernel
theorem jd_cha_1 : decode cJ0_charAt_5068e 1 = .ok (.invokevirtual 492, 3) := by decide +kernel
theorem jd_cha_4 : decode cJ0_charAt_5068e 4 = .ok (.ifCond .eq 12, 3) := by decide +kernel
theorem jd_cha_7 : decode cJ0_charAt_5068e 7 = .ok (.aload_n 0, 1) := by decide +kernel
theorem jd_cha_8 : decode cJ0_charAt_5068e 8 = .ok (.getfield 9, 3) := by decide +kernel
theorem jd_cha_11 : decode cJ0_charAt_5068e 11 = .ok (.iload_n 1, 1) := by decide +kernel
theorem jd_cha_12 : decode cJ0_charAt_5068e 12 = .ok (.invokestatic 495, 3) := by decide +kernel
theorem jd_cha_15 : decode cJ0_charAt_5068e 15 = .ok (.ireturn, 1) := by decide +kernel
theorem jd_cha_16 : decode cJ0_charAt_5068e 16 = .ok (.aload_n 0, 1) := by decide +kernel
theorem jd_cha_17 : decode cJ0_charAt_5068e 17 = .ok (.getfield 9, 3) := by decide +kernel
theorem jd_cha_20 : decode cJ0_charAt_5068e 20 = .ok (.iload_n 1, 1) := by decide +kernel
theorem jd_cha_21 : decode cJ0_charAt_5068e 21 = .ok (.invokestatic 498, 3) := by decide +kernel
theorem jd_cha_24 : decode cJ0_charAt_5068e 24 = .ok (.ireturn, 1) := by decide +kernel
theorem jd_lat_0 : decode cJ1_charAt_3b067 0 = .ok (.iload_n 1, 1) := by decide +kernel
theorem jd_lat_1 : decode cJ1_charAt_3b067 1 = .ok (.aload_n 0, 1) := by decide +kernel
theorem jd_lat_2 : decode cJ1_charAt_3b067 2 = .ok (.arraylength, 1) := by decide +kernel
theorem jd_lat_3 : decode cJ1_charAt_3b067 3 = .ok (.invokestatic 9, 3) := by decide +kernel
theorem jd_lat_6 : decode cJ1_charAt_3b067 6 = .ok (.aload_n 0, 1) := by decide +kernel
theorem jd_lat_7 : decode cJ1_charAt_3b067 7 = .ok (.iload_n 1, 1) := by decide +kernel
theorem jd_lat_8 : decode cJ1_charAt_3b067 8 = .ok (.baload, 1) := by decide +kernel
theorem jd_lat_9 : decode cJ1_charAt_3b067 9 = .ok (.sipush 255, 3) := by decide +kernel
theorem jd_lat_12 : decode cJ1_charAt_3b067 12 = .ok (.iand, 1) := by decide +kernel
theorem jd_lat_13 : decode cJ1_charAt_3b067 13 = .ok (.i2c, 1) := by decide +kernel
theorem jd_lat_14 : decode cJ1_charAt_3b067 14 = .ok (.ireturn, 1) := by decide +kernel
theorem jd_chk_0 : decode cJ0_checkIndex_df160 0 = .ok (.iload_n 0, 1) := by decide +kernel
theorem jd_chk_1 : decode cJ0_checkIndex_df160 1 = .ok (.iload_n 1, 1) := by decide +kernel
theorem jd_chk_2 : decode cJ0_checkIndex_df160 2 = .ok (.getstatic 1053, 3) := by decide +kernel
theorem jd_chk_5 : decode cJ0_checkIndex_df160 5 = .ok (.invokestatic 1059, 3) := by decide +kernel
theorem jd_chk_8 : decode cJ0_checkIndex_df160 8 = .ok (.pop, 1) := by decide +kernel
theorem jd_chk_9 : decode cJ0_checkIndex_df160 9 = .ok (.return_, 1) := by decide +kernel
theorem jd_prc_0 : decode cJ3_checkIndex_8e157 0 = .ok (.iload_n 0, 1) := by decide +kernel
theorem jd_prc_1 : decode cJ3_checkIndex_8e157 1 = .ok (.ifCond .lt 8, 3) := by decide +kernel
theorem jd_prc_4 : decode cJ3_checkIndex_8e157 4 = .ok (.iload_n 0, 1) := by decide +kernel
theorem jd_prc_5 : decode cJ3_checkIndex_8e157 5 = .ok (.iload_n 1, 1) := by decide +kernel
theorem jd_prc_6 : decode cJ3_checkIndex_8e157 6 = .ok (.if_icmp .lt 10, 3) := by decide +kernel
theorem jd_prc_9 : decode cJ3_checkIndex_8e157 9 = .ok (.aload_n 2, 1) := by decide +kernel
theorem jd_prc_10 : decode cJ3_checkIndex_8e157 10 = .ok (.iload_n 0, 1) := by decide +kernel
theorem jd_prc_11 : decode cJ3_checkIndex_8e157 11 = .ok (.iload_n 1, 1) := by decide +kernel
theorem jd_prc_12 : decode cJ3_checkIndex_8e157 12 = .ok (.invokestatic 95, 3) := by decide +kernel
theorem jd_prc_15 : decode cJ3_checkIndex_8e157 15 = .ok (.athrow, 1) := by decide +kernel
theorem jd_prc_16 : decode cJ3_checkIndex_8e157 16 = .ok (.iload_n 0, 1) := by decide +kernel
theorem jd_prc_17 : decode cJ3_checkIndex_8e157 17 = .ok (.ireturn, 1) := by decide +kernel
-- THE JDK'S STRINGS
theorem j_ix : (tables_1.all fun w => match w with
  | .stringRef _ i t => (List.range 9).all fun q => !(decide (t = sm_nth "" sm_str q)) || decide (i = sm_nth 0 sm_six q)
  | _ => true) = true := by decide +kernel
theorem sm_ldcS {z : Nat} {E : Nat → Nat} {ex : sm_O} {p : Program} {l0 : Launch} {e : Env} {R : Room} {s : State} {m : MethodId} {args : Array Value} {below : List Frame} {meth : Method} {c : Code} {Q' : State → Prop} {H : Heap} {locs : List Loc} {cells slots : Nat} {ls : Array Slot} {cc : ByteArray} {pc i j pl : Nat} {rest : List Value} (hx : p.tables.exec = Jvm.exec) (hb : c.code = cc) (hown : s.vm.findClass "StatueRelief$Reader" = some m.cls) (hEx : sm_Ex z E ex s) (h2 : 2 ≤ j) (h11 : j < 11) (hw : sm_wd pl (.stringRef "StatueRelief$Reader" i (sm_nth "" sm_str (j - 2))) = true) (hd : decode cc pc = .ok (.ldc i, 2))
    (k : W p l0 e R s m args below meth c H locs cells slots Q' (F0 m (pc + 2) ls (.ref (E j) :: rest))) : W p l0 e R s m args below meth c H locs cells slots Q' (F0 m pc ls rest) := by
  have hi : i = sm_nth 0 sm_six (j - 2) := by
    have q := List.all_eq_true.mp j_ix _ (sm_wd_tb hw)
    have q := List.all_eq_true.mp q (j - 2) (List.mem_range.mpr (by omega))
    simpa using q
  have hZ := hEx.2.2.2.2.1.2.1 (j - 2) (by omega)
  rw [show j - 2 + 2 = j by omega, ← hi] at hZ
  exact va_ldcS hx hb hown hZ hd k
def jPc (z : Nat) (E : Nat → Nat) (D : va_G) (ex : sm_O) (μ : sm_Mem) (adV : Nat → Nat) (E' : Nat → Nat) (as : List Value) : Array Value → State → Prop := fun a U => a = (as.map (sm_v z E')).toArray ∧ sm_Pre z E D ex μ U ∧ vk_S 9 sm_sl sm_sb (fun i => E (i + 2)) adV (z ≤ ·) U U.heap
theorem jPc_blind {z : Nat} {E : Nat → Nat} {D : va_G} {ex : sm_O} {μ : sm_Mem} {adV E' : Nat → Nat} {as : List Value} : FrameBlind (jPc z E D ex μ adV E' as) := fun _ U _ _ q => ⟨q.1, sm_Pre.same (s := U) rfl rfl q.2.1, vk_S.moved (u := U) (Vm.Alike.refl _) q.2.2⟩
def jQ (μ : sm_Mem) (r0 : Option Value) : sm_Q := fun r μ1 => r = r0 ∧ μ1 = μ
/-- a method of the JDK's that leaves the cells as they are -/
theorem j_met {y : MethodName} {cc : ByteArray} {maxL : Nat} {ret : Option FieldType} {fr lo : Nat} {z : Nat} {E : Nat → Nat} {D : va_G} {ex : sm_O} {μ : sm_Mem} {adV E' : Nat → Nat} {as : List Value} {r0 : Option Value} (l0 : Launch) (hy : plainName y.cls = true) (has : sm_ct as ≤ maxL) (hret : (∃ (x : Int32) (ty : FieldType), r0 = some (.int x) ∧ ret = some ty ∧ narrow ty (.int x) = .int x) ∨ (r0 = none ∧ ret = none))
    (body : ∀ (p : Program) (e : Env) (s : State) (m : MethodId) (below : List Frame) (meth : Method) (c : Code) (ls : Array Slot) (Q' : State → Prop) (R : Room), R = { frames := fr, cells := 0, slots := 0, locals := lo } → p.tables.exec = Jvm.exec → c.code = cc → c.maxLocals = maxL → s.vm.findClass y.cls = some m.cls → (∀ w ∈ sm_all, w.before (as.map (sm_v z E')).toArray s = true) → sm_Pre z E D ex μ s → vk_S 9 sm_sl sm_sb (fun i => E (i + 2)) adV (z ≤ ·) s s.heap → sm_L z E' ls maxL (sm_en as maxL) →
      (∀ (H : Heap) (locs : List Loc) (cA : Nat → ClassId) (pc : Nat) (ls : Array Slot), va_S (z ≤ ·) s.heap H locs → sm_Rep z D cA μ s H → decode cc pc = .ok (match r0 with
        | some _ => .ireturn
        | none => .return_, 1) → W p l0 e R s m (as.map (sm_v z E')).toArray below meth c H locs 0 0 Q' (F0 m pc ls r0.toList)) →
      W p l0 e R s m (as.map (sm_v z E')).toArray below meth c s.heap [] 0 0 Q' (F0 m 0 ls [])) :
    Met l0 y (Cond.code y cc maxL ret :: sm_all) { frames := fr, cells := 0, slots := 0, locals := lo } (jPc z E D ex μ adV E' as) (sm_Qc z E D 0 μ (jQ μ r0)) 0 0 (z ≤ ·) := by
  refine Met.ofW (cc := cc) (maxL := maxL) (ret := ret) hy rfl ?_
  intro p e s m args below meth c s₁ B hml hv
  obtain ⟨rfl, hP, hV⟩ := hv
  have hts := atoms_spec (ws := Cond.code y cc maxL ret :: sm_all) B.pre
  have hl := sm_L_entry z E' as maxL has
  rw [lg_entry_eq]
  generalize (lg_sl (as.map (sm_v z E')) ++ List.replicate (maxL - (lg_sl (as.map (sm_v z E'))).length) Slot.unset).toArray = ls at hl ⊢
  refine body p e s m below meth c ls _ _ rfl B.exec B.bytes hml (findClass_of_methodNamed B.named) (fun w h => hts w (List.mem_cons_of_mem _ h)) hP hV hl ?_
  intro H locs cA pc ls hS hR hd
  have hlocks := B.notSynchronized
  have hpost : ∀ t : State, t.heap = H → s.WarmedH t.vm → sm_Qc z E D 0 μ (jQ μ r0) (as.map (sm_v z E')).toArray s (.returned (r0.map (sm_v z E))) t := fun t ht hw => ⟨⟨r0, μ, cA, rfl, ⟨rfl, rfl⟩, rfl, by rw [ht]; exact hR.moved hw.alike⟩, hS.F ht⟩
  rcases hret with ⟨x, ty, rfl, hrt, hna⟩ | ⟨rfl, hrt⟩
  · exact W.zret (v := x) B.exec B.bytes (B.returns.trans hrt) hna hpost hS.2.2 hd
  · exact W.vret B.exec B.bytes (B.returns.trans hrt) hpost hS.2.2 hd
section JV
variable {p : Program} {l0 : Launch} {e : Env} {R : Room} {s : State} {m : MethodId} {args : Array Value} {below : List Frame} {meth : Method} {c : Code} {H : Heap} {locs : List Loc} {cells slots : Nat} {Q' : State → Prop} {ls : Array Slot} {pc : Nat} {z : Nat} {E : Nat → Nat} {D : va_G} {ex : sm_O} {μ : sm_Mem} {adV E' : Nat → Nat}
theorem j_size {g : JFrame} (hS : va_S (z ≤ ·) s.heap H locs) (k : H.size = s.heap.size → W p l0 e R s m args below meth c H locs 0 slots Q' g) : W p l0 e R s m args below meth c H locs 0 slots Q' g := by
  intro T hT X
  have h1 : T.heap.size ≤ s.heap.size + 0 := X.same.2.2.1
  rw [hT] at h1
  exact k (by have := hS.1; omega) T hT X
theorem j_call {st0 rest : List Value} {r0 : Option Value} {a0 : Array Value} (hr : va_Run p l0 e R s m args below meth c H locs cells slots 0 0 (F0 m pc ls st0) rest (sm_Qc z E D 0 μ (jQ μ r0) a0) (z ≤ ·)) (hS : va_S (z ≤ ·) s.heap H locs)
    (k : ∀ (H1 : Heap) (locs1 : List Loc) (cA : Nat → ClassId), va_S (z ≤ ·) s.heap H1 locs1 → sm_Rep z D cA μ s H1 → W p l0 e R s m args below meth c H1 locs1 cells slots Q' (F0 m (pc + 3) ls ((r0.map (sm_v z E)).toList ++ rest))) : W p l0 e R s m args below meth c H locs cells slots Q' (F0 m pc ls st0) := by
  intro T hT X
  obtain ⟨v, st₀, t, T', L, h0, X', hL', e1, e2, ⟨⟨r, μ1, cA1, hv, ⟨rfl, rfl⟩, hn1, hR1⟩, hz', hk'⟩, st⟩ := hr T hT X
  cases hv
  rw [h0] at hz' hk'
  have hal : s.vm.Alike t.vm := by rw [← e2]; exact X'.warmed.alike
  have hS1 : va_S (z ≤ ·) s.heap T'.heap (locs ++ L) := by
    refine ⟨Nat.le_trans hS.1 (by rw [e1]; exact hz'), fun q g1 g2 => by rw [e1, hk' q (Nat.lt_of_lt_of_le g1 hS.1) g2]; exact hS.2.1 q g1 g2, fun q hq => ?_⟩
    rcases List.mem_append.mp hq with h | h
    · exact hS.2.2 q h
    · exact hL' q h
  obtain ⟨t2, a1, b1⟩ := k T'.heap (locs ++ L) cA1 hS1 (by rw [e1]; exact hR1.moved hal.symm) T' rfl X'
  exact ⟨t2, st t2 a1, b1⟩
theorem j_pre {as : List Value} {cA : Nat → ClassId} (hK : va_K D vwCl [] s) (hEx : sm_Ex z E ex s) (hV : vk_S 9 sm_sl sm_sb (fun i => E (i + 2)) adV (z ≤ ·) s s.heap) (hS : va_S (z ≤ ·) s.heap H locs) (hsz : H.size = z + μ.1) (hR : sm_Rep z D cA μ s H) : ∀ U : State, U.heap = H → s.WarmedH U.vm → jPc z E D ex μ adV E' as (as.map (sm_v z E')).toArray U := fun U hU hW =>
  ⟨rfl, ⟨by rw [hU]; exact hsz, va_K.moved hW.alike hK, hEx.warm hW (fun a h1 h2 => by rw [hU]; exact hS.2.1 a h1 h2), cA, by rw [hU]; exact hR.moved hW.alike⟩, by rw [hU]; exact (hV.moved hW.alike).kept hS.2.1⟩
end JV
theorem j_inV {own : String} {idx : Nat} {y : MethodName} {cc : ByteArray} {ml : Nat} {rt : Option FieldType} (h1 : Cond.methodLink own idx y ∈ sm_all) (h2 : Cond.instanceMethod y ∈ sm_all) (h3 : Cond.selects RJ0 y y ∈ sm_all) (h4 : Cond.initialized RJ0 ∈ sm_all) (h5 : Cond.code y cc ml rt ∈ sm_all) (hc : y.cls = RJ0) : GoodIn sm_all (wsV own idx RJ0 y (Cond.code y cc ml rt :: sm_all)) := sm_goodIn fun w hw1 => by
  unfold wsV at hw1
  rcases List.mem_append.mp hw1 with hw1 | hw1
  · simp only [List.mem_cons, List.not_mem_nil, or_false] at hw1
    rcases hw1 with rfl | rfl | rfl | rfl
    · exact h1
    · exact h2
    · exact h3
    · first | exact h4 | (rw [hc]; exact h4)
  · rcases List.mem_cons.mp hw1 with rfl | hw1
    · exact h5
    · exact hw1
theorem j_inS {own : String} {idx : Nat} {y : MethodName} {cc : ByteArray} {ml : Nat} {rt : Option FieldType} (h1 : Cond.methodLink own idx y ∈ sm_all) (h2 : Cond.static y ∈ sm_all) (h4 : Cond.initialized y.cls ∈ sm_all) (h5 : Cond.code y cc ml rt ∈ sm_all) : GoodIn sm_all (va_wsS own idx y (Cond.code y cc ml rt :: sm_all)) := sm_goodIn fun w hw1 => by
  unfold va_wsS at hw1
  rcases List.mem_append.mp hw1 with hw1 | hw1
  · simp only [List.mem_cons, List.not_mem_nil, or_false] at hw1
    rcases hw1 with rfl | rfl | rfl
    · exact h1
    · exact h2
    · exact h4
  · rcases List.mem_cons.mp hw1 with rfl | hw1
    · exact h5
    · exact hw1
section JM
variable {z : Nat} {E : Nat → Nat} {D : va_G} {ex : sm_O} {μ : sm_Mem} {adV : Nat → Nat} {i k : Nat}
theorem j_coder (l0 : Launch) (hi : i < 9) : Met l0 yJ0_coder_7d493 (Cond.code yJ0_coder_7d493 cJ0_coder_7d493 1 (some .byte) :: sm_all) { frames := 0, cells := 0, slots := 0, locals := 0 } (jPc z E D ex μ adV E [.retAddr (i + 2)]) (sm_Qc z E D 0 μ (jQ μ (some (.int 0)))) 0 0 (z ≤ ·) := by
  refine j_met l0 (by decide) (Nat.le_of_ble_eq_true rfl) (Or.inl ⟨0, _, rfl, rfl, by decide⟩) ?_
  intro p e s m below meth c ls Q' R hRR hx hb hml hown hts hP hV hl ret
  obtain ⟨cA, hR⟩ := hP.2.2.2
  refine va_gets hx hb hP.2.2.1.2.2.2.2.1.2.2.2.1 va_S.rf hown (hts _ j_f38) (fun _ h => h) (index := 38) jd_cod_0 ?_
  refine lv_if_eq (tgt := 13) hx hb jd_cod_3 (by decide) (fun q => absurd q (by decide)) (fun _ => ?_)
  refine lv_aload_n (i := 0) hx hb jd_cod_6 rfl (hl.2.2.2 0 _ rfl) ?_
  refine vk_getf hx hb (hV.1 i hi).2.1 va_S.rf hown (hts _ j_f15) (fun _ h => h) (index := 15) jd_cod_7 ?_
  refine lv_goto (tgt := 14) hx hb jd_cod_10 (by decide) ?_
  exact ret _ _ cA 14 ls va_S.rf hR jd_cod_14
theorem j_latin (l0 : Launch) (hi : i < 9) : Met l0 yJ0_isLatin1_aae02 (Cond.code yJ0_isLatin1_aae02 cJ0_isLatin1_aae02 1 (some .boolean) :: sm_all) { frames := 0, cells := 0, slots := 0, locals := 0 } (jPc z E D ex μ adV E [.retAddr (i + 2)]) (sm_Qc z E D 0 μ (jQ μ (some (.int 1)))) 0 0 (z ≤ ·) := by
  refine j_met l0 (by decide) (Nat.le_of_ble_eq_true rfl) (Or.inl ⟨1, _, rfl, rfl, by decide⟩) ?_
  intro p e s m below meth c ls Q' R hRR hx hb hml hown hts hP hV hl ret
  obtain ⟨cA, hR⟩ := hP.2.2.2
  refine va_gets hx hb hP.2.2.1.2.2.2.2.1.2.2.2.1 va_S.rf hown (hts _ j_f38) (fun _ h => h) (index := 38) jd_isl_0 ?_
  refine lv_if_eq (tgt := 17) hx hb jd_isl_3 (by decide) (fun q => absurd q (by decide)) (fun _ => ?_)
  refine lv_aload_n (i := 0) hx hb jd_isl_6 rfl (hl.2.2.2 0 _ rfl) ?_
  refine vk_getf hx hb (hV.1 i hi).2.1 va_S.rf hown (hts _ j_f15) (fun _ h => h) (index := 15) jd_isl_7 ?_
  refine lv_if_ne (tgt := 17) hx hb jd_isl_10 (by decide) (fun q => absurd rfl q) (fun _ => ?_)
  refine lv_iconst (v := 1) hx hb jd_isl_13 rfl ?_
  refine lv_goto (tgt := 18) hx hb jd_isl_14 (by decide) ?_
  exact ret _ _ cA 18 ls va_S.rf hR jd_isl_18
theorem sl_lt : ∀ i, i < 9 → sm_sl.getD i 0 < 100 := by decide
theorem j_length (l0 : Launch) (hi : i < 9) : Met l0 yJ0_length_8abf5 (Cond.code yJ0_length_8abf5 cJ0_length_8abf5 1 (some .int) :: sm_all) { frames := 1, cells := 0, slots := 0, locals := 20 } (jPc z E D ex μ adV E [.retAddr (i + 2)]) (sm_Qc z E D 0 μ (jQ μ (some (.int (nI (sm_sl.getD i 0)))))) 0 0 (z ≤ ·) := by
  refine j_met l0 (by decide) (Nat.le_of_ble_eq_true rfl) (Or.inl ⟨_, .int, rfl, rfl, rfl⟩) ?_
  intro p e s m below meth c ls Q' R hRR hx hb hml hown hts hP hV hl ret
  obtain ⟨cA, hR⟩ := hP.2.2.2
  have hSt := hV.1 i hi
  refine lv_aload_n (i := 0) hx hb jd_len_0 rfl (hl.2.2.2 0 _ rfl) ?_
  refine vk_getf hx hb hSt.2.2.1 va_S.rf hown (hts _ j_f9) (fun _ h => h) (index := 9) jd_len_1 ?_
  refine va_tlen hx hb hSt.2.2.2 va_S.rf (v := nI (sm_sl.getD i 0)) rfl jd_len_4 ?_
  refine lv_aload_n (i := 0) hx hb jd_len_5 rfl (hl.2.2.2 0 _ rfl) ?_
  refine j_call (rest := [.int (nI (sm_sl.getD i 0))]) (va_runV (As := []) (b := E (i + 2)) (C := RJ0) (index := 335) ⟨hx, hb, hml, hown, hts⟩ (j_coder l0 hi) (cwV 0 hts (j_inV j_l335 j_cod_i j_cod_s j_n0 j_cod_c rfl) rfl rfl rfl ⟨rfl, by decide +kernel⟩ (by rw [hRR]; decide)) ⟨jPc_blind, vk_recv (adK := fun i => E (i + 2)) (i := i) hV hi va_S.rf, j_pre hP.2.1 hP.2.2.1 hV va_S.rf hP.1 hR⟩ rfl rfl hl.2.1 rfl (lv_room (by simp [Value.category])) jd_len_6 (by rw [hRR]; decide)) va_S.rf ?_
  intro H1 locs1 cA1 hS1 hR1
  refine lv_ishr hx hb jd_len_9 ?_
  rw [pk_shrN (by have := sl_lt i hi; omega) _ 0 (by decide)]
  rw [Nat.pow_zero, Nat.div_one]
  exact ret _ _ cA1 10 ls hS1 hR1 jd_len_10
theorem j_prec (l0 : Launch) {n : Nat} {x : Value} {E' : Nat → Nat} (hx0 : x = .null ∨ x = .retAddr 0) (hkn : k < n) (hn : n < 1000) : Met l0 yJ3_checkIndex_8e157 (Cond.code yJ3_checkIndex_8e157 cJ3_checkIndex_8e157 3 (some .int) :: sm_all) { frames := 0, cells := 0, slots := 0, locals := 0 } (jPc z E D ex μ adV E' [.int (nI k), .int (nI n), x]) (sm_Qc z E D 0 μ (jQ μ (some (.int (nI k))))) 0 0 (z ≤ ·) := by
  refine j_met l0 (by decide) (by rcases hx0 with rfl | rfl <;> exact Nat.le_of_ble_eq_true rfl) (Or.inl ⟨_, .int, rfl, rfl, rfl⟩) ?_
  intro p e s m below meth c ls Q' R hRR hx hb hml hown hts hP hV hl ret
  obtain ⟨cA, hR⟩ := hP.2.2.2
  have l0' : ls[0]? = some (.val (.int (nI k))) := hl.2.2.2 0 _ rfl
  have l1' : ls[1]? = some (.val (.int (nI n))) := hl.2.2.2 1 _ rfl
  refine lv_iload_n (i := 0) hx hb jd_prc_0 rfl l0' ?_
  refine lv_if_lt (tgt := 9) hx hb jd_prc_1 (by decide) (fun q => absurd q (nI_pos (by omega))) (fun _ => ?_)
  refine lv_iload_n (i := 0) hx hb jd_prc_4 rfl l0' ?_
  refine lv_iload_n (i := 1) hx hb jd_prc_5 rfl l1' ?_
  refine lv_icmp_lt (tgt := 16) hx hb jd_prc_6 (by decide) (fun _ => ?_) (fun q => absurd ((nI_ltI (by omega) (by omega)).mpr hkn) q)
  refine lv_iload_n (i := 0) hx hb jd_prc_16 rfl l0' ?_
  exact ret _ _ cA 17 ls va_S.rf hR jd_prc_17
theorem j_check (l0 : Launch) {n : Nat} {E' : Nat → Nat} (hkn : k < n) (hn : n < 1000) : Met l0 yJ0_checkIndex_df160 (Cond.code yJ0_checkIndex_df160 cJ0_checkIndex_df160 2 none :: sm_all) { frames := 1, cells := 0, slots := 0, locals := 22 } (jPc z E D ex μ adV E' [.int (nI k), .int (nI n)]) (sm_Qc z E D 0 μ (jQ μ none)) 0 0 (z ≤ ·) := by
  refine j_met l0 (by decide) (Nat.le_of_ble_eq_true rfl) (Or.inr ⟨rfl, rfl⟩) ?_
  intro p e s m below meth c ls Q' R hRR hx hb hml hown hts hP hV hl ret
  obtain ⟨cA, hR⟩ := hP.2.2.2
  have l0' : ls[0]? = some (.val (.int (nI k))) := hl.2.2.2 0 _ rfl
  have l1' : ls[1]? = some (.val (.int (nI n))) := hl.2.2.2 1 _ rfl
  refine lv_iload_n (i := 0) hx hb jd_chk_0 rfl l0' ?_
  refine lv_iload_n (i := 1) hx hb jd_chk_1 rfl l1' ?_
  have go : ∀ (x : Value) (E2 : Nat → Nat), (x = .null ∨ x = .retAddr 0) → W p l0 e R s m ([Value.int (nI k), .int (nI n)].map (sm_v z E')).toArray below meth c s.heap [] 0 0 Q' (F0 m 5 ls [sm_v z E2 x, .int (nI n), .int (nI k)]) := by
    intro x E2 hx0
    refine j_call (rest := []) (va_runS (As := [.int (nI k), .int (nI n), sm_v z E2 x]) (index := 1059) ⟨hx, hb, hml, hown, hts⟩ (j_prec (E' := E2) l0 hx0 hkn hn) (va_cwS 3 hts (j_inS j_l1059 j_prc_t j_n3 j_prc_c) rfl rfl rfl (by decide +kernel) (by rw [hRR]; decide)) ⟨jPc_blind, j_pre (as := [.int (nI k), .int (nI n), x]) hP.2.1 hP.2.2.1 hV va_S.rf hP.1 hR⟩ rfl rfl hl.2.1 rfl (lv_room (by decide)) jd_chk_5 (by rw [hRR]; decide)) va_S.rf ?_
    intro H1 locs1 cA1 hS1 hR1
    refine lv_pop hx hb jd_chk_8 rfl ?_
    exact ret _ _ cA1 9 ls hS1 hR1 jd_chk_9
  rcases hP.2.2.1.2.2.2.2.1.2.2.2.2 with hZ | ⟨t, hZ⟩
  · exact va_gets hx hb hZ va_S.rf hown (hts _ j_f1053) (fun _ h => h) (index := 1053) jd_chk_2 (go .null E (Or.inl rfl))
  · exact va_gets hx hb hZ va_S.rf hown (hts _ j_f1053) (fun _ h => h) (index := 1053) jd_chk_2 (go (.retAddr 0) (fun _ => t) (Or.inr rfl))
theorem sb_ok : ∀ i, i < 9 → (sm_sb.getD i []).length = sm_sl.getD i 0 ∧ ∀ k, k < sm_sl.getD i 0 → (((sm_sb.getD i []).getD k 0 &&& 255).toUInt32 % 65536).toInt32 = (sm_sb.getD i []).getD k 0 ∧ narrow .char (.int ((sm_sb.getD i []).getD k 0)) = .int ((sm_sb.getD i []).getD k 0) := by decide +kernel
theorem j_lat (l0 : Launch) (hi : i < 9) (hk : k < sm_sl.getD i 0) : Met l0 yJ1_charAt_3b067 (Cond.code yJ1_charAt_3b067 cJ1_charAt_3b067 2 (some .char) :: sm_all) { frames := 2, cells := 0, slots := 0, locals := 43 } (jPc z E D ex μ adV (fun _ => adV i) [.retAddr 0, .int (nI k)]) (sm_Qc z E D 0 μ (jQ μ (some (.int ((sm_sb.getD i []).getD k 0))))) 0 0 (z ≤ ·) := by
  have hb0 := (sb_ok i hi).2 k hk
  have hsl := sl_lt i hi
  refine j_met l0 (by decide) (Nat.le_of_ble_eq_true rfl) (Or.inl ⟨_, .char, rfl, rfl, hb0.2⟩) ?_
  intro p e s m below meth c ls Q' R hRR hx hb hml hown hts hP hV hl ret
  obtain ⟨cA, hR⟩ := hP.2.2.2
  have hSt := hV.1 i hi
  have l0' : ls[0]? = some (.val (.ref (adV i))) := hl.2.2.2 0 _ rfl
  have l1' : ls[1]? = some (.val (.int (nI k))) := hl.2.2.2 1 _ rfl
  refine lv_iload_n (i := 1) hx hb jd_lat_0 rfl l1' ?_
  refine lv_aload_n (i := 0) hx hb jd_lat_1 rfl l0' ?_
  refine va_tlen hx hb hSt.2.2.2 va_S.rf (v := nI (sm_sl.getD i 0)) rfl jd_lat_2 ?_
  refine j_call (rest := []) (va_runS (As := [.int (nI k), .int (nI (sm_sl.getD i 0))]) (index := 9) ⟨hx, hb, hml, hown, hts⟩ (j_check (E' := E) l0 hk (by omega)) (va_cwS 2 hts (j_inS j_l9 j_chk_t j_n0 j_chk_c) rfl rfl rfl (by decide +kernel) (by rw [hRR]; decide)) ⟨jPc_blind, j_pre (as := [.int (nI k), .int (nI (sm_sl.getD i 0))]) hP.2.1 hP.2.2.1 hV va_S.rf hP.1 hR⟩ rfl rfl hl.2.1 rfl (lv_room (by decide)) jd_lat_3 (by rw [hRR]; decide)) va_S.rf ?_
  intro H1 locs1 cA1 hS1 hR1
  refine lv_aload_n (i := 0) hx hb jd_lat_6 rfl l0' ?_
  refine lv_iload_n (i := 1) hx hb jd_lat_7 rfl l1' ?_
  refine va_tb hx hb hSt.2.2.2 hS1 (vp_in_nI hk (by omega)) (v := .int ((sm_sb.getD i []).getD k 0)) (by rw [nI_clamp (by omega)]) jd_lat_8 ?_
  refine lv_sipush (v := 255) hx hb jd_lat_9 (by decide) ?_
  refine lv_iand hx hb jd_lat_12 ?_
  refine lv_i2c hx hb jd_lat_13 hb0.1 ?_
  exact ret _ _ cA1 14 ls hS1 hR1 jd_lat_14
theorem j_char (l0 : Launch) (hi : i < 9) (hk : k < sm_sl.getD i 0) : Met l0 yJ0_charAt_5068e (Cond.code yJ0_charAt_5068e cJ0_charAt_5068e 2 (some .char) :: sm_all) { frames := 3, cells := 0, slots := 0, locals := 64 } (jPc z E D ex μ adV E [.retAddr (i + 2), .int (nI k)]) (sm_Qc z E D 0 μ (jQ μ (some (.int ((sm_sb.getD i []).getD k 0))))) 0 0 (z ≤ ·) := by
  have hb0 := (sb_ok i hi).2 k hk
  have hsl := sl_lt i hi
  refine j_met l0 (by decide) (Nat.le_of_ble_eq_true rfl) (Or.inl ⟨_, .char, rfl, rfl, hb0.2⟩) ?_
  intro p e s m below meth c ls Q' R hRR hx hb hml hown hts hP hV hl ret
  obtain ⟨cA, hR⟩ := hP.2.2.2
  have hSt := hV.1 i hi
  have l0' : ls[0]? = some (.val (.ref (E (i + 2)))) := hl.2.2.2 0 _ rfl
  have l1' : ls[1]? = some (.val (.int (nI k))) := hl.2.2.2 1 _ rfl
  refine lv_aload_n (i := 0) hx hb jd_cha_0 rfl l0' ?_
  refine j_call (rest := []) (va_runV (As := []) (b := E (i + 2)) (C := RJ0) (index := 492) ⟨hx, hb, hml, hown, hts⟩ (j_latin l0 hi) (cwV 0 hts (j_inV j_l492 j_isl_i j_isl_s j_n0 j_isl_c rfl) rfl rfl rfl ⟨rfl, by decide +kernel⟩ (by rw [hRR]; decide)) ⟨jPc_blind, vk_recv (adK := fun i => E (i + 2)) (i := i) hV hi va_S.rf, j_pre hP.2.1 hP.2.2.1 hV va_S.rf hP.1 hR⟩ rfl rfl hl.2.1 rfl (lv_room (by decide)) jd_cha_1 (by rw [hRR]; decide)) va_S.rf ?_
  intro H1 locs1 cA1 hS1 hR1
  refine lv_if_eq (tgt := 16) hx hb jd_cha_4 (by decide) (fun q => absurd q (by decide)) (fun _ => ?_)
  refine lv_aload_n (i := 0) hx hb jd_cha_7 rfl l0' ?_
  refine vk_getf hx hb hSt.2.2.1 hS1 hown (hts _ j_f9) (fun _ h => h) (index := 9) jd_cha_8 ?_
  refine lv_iload_n (i := 1) hx hb jd_cha_11 rfl l1' ?_
  refine j_size hS1 (fun hsz => ?_)
  refine j_call (rest := []) (va_runS (As := [.ref (adV i), .int (nI k)]) (index := 495) ⟨hx, hb, hml, hown, hts⟩ (j_lat l0 hi hk) (va_cwS 2 hts (j_inS j_l495 j_lat_t j_n1 j_lat_c) rfl rfl rfl (by decide +kernel) (by rw [hRR]; decide)) ⟨jPc_blind, j_pre (as := [.retAddr 0, .int (nI k)]) (E' := fun _ => adV i) hP.2.1 hP.2.2.1 hV hS1 (hsz.trans hP.1) hR1⟩ rfl rfl hl.2.1 rfl (lv_room (by decide)) jd_cha_12 (by rw [hRR]; decide)) hS1 ?_
  intro H2 locs2 cA2 hS2 hR2
  exact ret _ _ cA2 15 ls hS2 hR2 jd_cha_15
end JM
theorem sm_sb_nth : ∀ i, i < 9 → sm_nth [] sm_sb i = sm_sb.getD i [] := by decide +kernel
theorem sm_strlen {ex : sm_O} {d bc bs k pc : Nat} {l : List (Option Value)} {st : List Value} {μ : sm_Mem} {Q : sm_Q} {i n a b pl : Nat} {v : Value} (hc : (decide (n = 3) && sm_wd pl (.methodLink (sm_y k).cls i yJ0_length_8abf5)) = true) (hd : decode (sm_by k) pc = .ok (.invokevirtual i, n)) (h : sm_i ex (sm_W ex) d bc bs k pc l st μ Q (.invokevirtual i) a b 1 v) : sm_W ex d bc bs k pc l st μ Q := by
  intro z E D p l0 e R s m args below meth c Q' H locs cells slots cA ls hF hY hL
  simp only [Bool.and_eq_true, decide_eq_true_eq] at hc
  obtain ⟨rfl, hw⟩ := hc
  have h : sm_pe st (fun _ _ => False) fun o t => (2 ≤ o ∧ o < 11) ∧ 5 ≤ d ∧ sm_ct t ≤ 8 ∧ sm_W ex d bc bs k (pc + 3) l (.int (nI (ex.2 o).length) :: t) μ Q := h
  rcases sm_pe_e h with ⟨x, t, _, hf⟩ | ⟨o, t, rfl, ⟨h2, h11⟩, h5, h8, hk⟩
  · exact hf.elim
  · have hF0 := hF
    obtain ⟨hx, hb, hml, hnm, hown, hts, hfr, hlo, hz, hK, hEx, hret⟩ := hF0
    obtain ⟨⟨adV, hV⟩, g2, g3, g4, g5⟩ := hEx.2.2.2.2.1
    have hS := hY.2.2.2.2
    obtain ⟨q, rfl⟩ : ∃ q, o = q + 2 := ⟨o - 2, by omega⟩
    have hq : q < 9 := by omega
    have hlen : (ex.2 (q + 2)).length = sm_sl.getD q 0 := by rw [g3 q hq, sm_sb_nth q hq]; exact (sb_ok q hq).1
    refine sm_size hz hY fun hH => ?_
    refine sm_callK (rest := t) (P := jQ μ (some (.int (nI (sm_sl.getD q 0))))) hF hY hL (Nat.zero_le _) (Nat.zero_le _) (va_runV (As := []) (b := E (q + 2)) (C := RJ0) (index := i) ⟨hx, hb, hml, hown, hts⟩ (j_length (adV := adV) (ex := ex) l0 hq) (cwV 0 hts (j_inV (sm_wd_all hw rfl) j_len_i j_len_s j_n0 j_len_c rfl) rfl rfl rfl ⟨rfl, by decide +kernel⟩ ⟨by show 1 + 1 ≤ R.frames; omega, by show 8 + (1 + 11) + 20 ≤ R.locals; omega⟩) ⟨jPc_blind, vk_recv (adK := fun i => E (i + 2)) (i := q) hV hq hS, j_pre hK hEx hV hS hH hY.1⟩ rfl rfl hL.2.1 rfl (lv_room (by rw [sm_ct_sum, sm_ct_map]; exact h8)) hd ⟨by have := hY.2.1; omega, by have := hY.2.2.1; omega⟩) ?_
    intro r μ1 hr
    obtain ⟨rfl, rfl⟩ := hr
    rw [hlen] at hk
    exact hk
theorem sm_strchar {ex : sm_O} {d bc bs k pc : Nat} {l : List (Option Value)} {st : List Value} {μ : sm_Mem} {Q : sm_Q} {i n a b c0 pl : Nat} {v : Value} (hc : (decide (n = 3 ∧ c0 = 2) && sm_wd pl (.methodLink (sm_y k).cls i yJ0_charAt_5068e)) = true) (hd : decode (sm_by k) pc = .ok (.invokevirtual i, n)) (h : sm_i ex (sm_W ex) d bc bs k pc l st μ Q (.invokevirtual i) a b c0 v) : sm_W ex d bc bs k pc l st μ Q := by
  intro z E D p l0 e R s m args below meth c Q' H locs cells slots cA ls hF hY hL
  simp only [Bool.and_eq_true, decide_eq_true_eq] at hc
  obtain ⟨⟨rfl, rfl⟩, hw⟩ := hc
  have h : sm_p1 st fun i t => sm_pe t (fun _ _ => False) fun o t => (2 ≤ o ∧ o < 11) ∧ 5 ≤ d ∧ sm_ct t ≤ 8 ∧ vp_in i (ex.2 o).length ∧ sm_W ex d bc bs k (pc + 3) l (.int ((ex.2 o).getD i.toNatClampNeg 0) :: t) μ Q := h
  obtain ⟨x, t0, rfl, h⟩ := sm_p1_e h
  rcases sm_pe_e h with ⟨x, t, _, hf⟩ | ⟨o, t, rfl, ⟨h2, h11⟩, h5, h8, hin, hk⟩
  · exact hf.elim
  · have hF0 := hF
    obtain ⟨hx, hb, hml, hnm, hown, hts, hfr, hlo, hz, hK, hEx, hret⟩ := hF0
    obtain ⟨⟨adV, hV⟩, g2, g3, g4, g5⟩ := hEx.2.2.2.2.1
    have hS := hY.2.2.2.2
    obtain ⟨q, rfl⟩ : ∃ q, o = q + 2 := ⟨o - 2, by omega⟩
    have hq : q < 9 := by omega
    have e2 : ex.2 (q + 2) = sm_sb.getD q [] := by rw [g3 q hq, sm_sb_nth q hq]
    rw [e2] at hin hk
    have hlen := (sb_ok q hq).1
    have hsl := sl_lt q hq
    obtain ⟨kk, hkk, rfl⟩ : ∃ kk : Nat, kk < sm_sl.getD q 0 ∧ x = nI kk := by
      have h0 : ¬ x < 0 := fun z => hin (Or.inl z)
      obtain ⟨kk, hk1, rfl⟩ := nI_of h0
      refine ⟨kk, ?_, rfl⟩
      rw [hlen] at hin
      have := Nat.not_le.mp fun z => hin (Or.inr z)
      rw [nI_clamp hk1] at this
      exact this
    rw [nI_clamp (by omega)] at hk
    refine sm_size hz hY fun hH => ?_
    refine sm_callK (rest := t) (P := jQ μ (some (.int ((sm_sb.getD q []).getD kk 0)))) hF hY hL (Nat.zero_le _) (Nat.zero_le _) (va_runV (As := [.int (nI kk)]) (b := E (q + 2)) (C := RJ0) (index := i) ⟨hx, hb, hml, hown, hts⟩ (j_char (adV := adV) (ex := ex) l0 hq hkk) (cwV 1 hts (j_inV (sm_wd_all hw rfl) j_cha_i j_cha_s j_n0 j_cha_c rfl) rfl rfl rfl ⟨rfl, by decide +kernel⟩ ⟨by show 3 + 1 ≤ R.frames; omega, by show 8 + (2 + 11) + 64 ≤ R.locals; omega⟩) ⟨jPc_blind, vk_recv (adK := fun i => E (i + 2)) (i := q) hV hq hS, j_pre (as := [.retAddr (q + 2), .int (nI kk)]) hK hEx hV hS hH hY.1⟩ rfl rfl hL.2.1 rfl (lv_room (by rw [sm_ct_sum, sm_ct_map]; exact h8)) hd ⟨by have := hY.2.1; omega, by have := hY.2.2.1; omega⟩) ?_
    intro r μ1 hr
    obtain ⟨rfl, rfl⟩ := hr
    exact hk
