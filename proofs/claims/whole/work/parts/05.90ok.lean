set_option maxRecDepth 100000 in
theorem sm_ck_list : sm_ckl sm_cka 0 sm_cds = true := by
  simp only [sm_cds, sm_ckl, sm_ok0, sm_ok1, sm_ok2, sm_ok3, sm_ok4, sm_ok5, sm_ok6, sm_ok7, sm_ok8, sm_ok9, sm_ok10, sm_ok11, sm_ok12, sm_ok13, sm_ok14, sm_ok15, sm_ok16, sm_ok17, sm_ok18, sm_ok19, sm_ok20, sm_ok21, sm_ok22, sm_ok23, sm_ok24, sm_ok25, sm_ok26, sm_ok27, sm_ok28, sm_ok29, sm_ok30, sm_ok31, sm_ok32, sm_ok33, sm_ok34, sm_ok35, sm_ok36, sm_ok37, sm_ok38, sm_ok39, sm_ok40, sm_ok41, sm_ok42, sm_ok43, sm_ok44, sm_ok45, sm_ok46, sm_ok47, sm_ok48, sm_ok49, sm_ok50, sm_ok51, sm_ok52, sm_ok53, sm_ok54, sm_ok55, sm_ok56, sm_ok57, sm_ok58, sm_ok59, sm_ok60, sm_ok61, sm_ok62, sm_ok63, sm_ok64, sm_ok65, sm_ok66, sm_ok67, sm_ok68, sm_ok69, sm_ok70, sm_ok71, sm_ok72, sm_ok73, sm_ok74, sm_ok75, sm_ok76, sm_ok77, sm_ok78, sm_ok79, sm_ok80, sm_ok81, sm_ok82, sm_ok83, sm_ok84, sm_ok85, sm_ok86, sm_ok87, sm_ok88, sm_ok89, sm_ok90, sm_ok91, sm_ok92, sm_ok93, sm_ok94, sm_ok95, sm_ok96, sm_ok97, sm_ok98, sm_ok99, sm_ok100, sm_ok101, sm_ok102, sm_ok103, sm_ok104, sm_ok105, sm_ok106, sm_ok107, sm_ok108, sm_ok109, sm_ok110, sm_ok111, sm_ok112, sm_ok113, sm_ok114, sm_ok115, sm_ok116, sm_ok117, sm_ok118, sm_ok119, sm_ok120, sm_ok121, sm_ok122, sm_ok123, sm_ok124, sm_ok125, sm_ok126, sm_ok127, sm_ok128, sm_ok129, sm_ok130, sm_ok131, sm_ok132, sm_ok133, sm_ok134, sm_ok135, sm_ok136, sm_ok137, sm_ok138, sm_ok139, sm_ok140, sm_ok141, sm_ok142, sm_ok143, sm_ok144, sm_ok145, sm_ok146, sm_ok147, sm_ok148, sm_ok149, sm_ok150, sm_ok151, sm_ok152, sm_ok153, sm_ok154, sm_ok155, sm_ok156, sm_ok157, sm_ok158, sm_ok159, sm_ok160, sm_ok161, sm_ok162, sm_ok163, sm_ok164, sm_ok165, sm_ok166, sm_ok167, sm_ok168, sm_ok169, sm_ok170, sm_ok171, sm_ok172, sm_ok173, sm_ok174, sm_ok175, sm_ok176, sm_ok177, sm_ok178, sm_ok179, sm_ok180, sm_ok181, sm_ok182, sm_ok183, sm_ok184, sm_ok185, sm_ok186, sm_ok187, sm_ok188, sm_ok189, sm_ok190, sm_ok191, sm_ok192, sm_ok193, sm_ok194, sm_ok195, sm_ok196, sm_ok197, sm_ok198, sm_ok199, sm_ok200, sm_ok201, sm_ok202, sm_ok203, sm_ok204, sm_ok205, sm_ok206, sm_ok207, sm_ok208, sm_ok209, sm_ok210, sm_ok211, sm_ok212, sm_ok213, sm_ok214, sm_ok215, sm_ok216, sm_ok217, sm_ok218, sm_ok219, sm_ok220, sm_ok221, sm_ok222, sm_ok223, sm_ok224, sm_ok225, sm_ok226, sm_ok227, sm_ok228, sm_ok229, sm_ok230, sm_ok231, sm_ok232, sm_ok233, sm_ok234, sm_ok235, sm_ok236, sm_ok237, sm_ok238, sm_ok239, sm_ok240, sm_ok241, Bool.and_self, Nat.reduceAdd]
theorem sm_ck_at {k pc : Nat} {e : sm_E} (h : sm_lk (sm_cd k) pc = some e) : sm_ck k pc e = true := by
  have h1 := sm_ckl_at sm_cka (fun _ => rfl) sm_cds 0 k sm_ck_list
  rw [Nat.zero_add] at h1
  exact sm_lk_all _ pc e h1 h
def sm_mka : Nat → List (Nat × Nat × Nat × Nat × Nat × Nat) → (Nat → (Nat × Nat × Nat × Nat × Nat × Nat) → Bool) → Bool
  | _, [], _ => true
  | k, q :: t, f => f k q && sm_mka (k + 1) t f
theorem sm_mka_at (f : Nat → (Nat × Nat × Nat × Nat × Nat × Nat) → Bool) : ∀ (l : List (Nat × Nat × Nat × Nat × Nat × Nat)) (k0 i : Nat), sm_mka k0 l f = true → i < l.length → f (k0 + i) (sm_nth (0, 0, 0, 0, 0, 0) l i) = true
  | [], k0, i, _, hi => by cases hi
  | c :: t, k0, 0, h, _ => by
    simp only [sm_mka, Bool.and_eq_true] at h
    exact h.1
  | c :: t, k0, i + 1, h, hi => by
    simp only [sm_mka, Bool.and_eq_true] at h
    have := sm_mka_at f t (k0 + 1) i h.2 (by simpa using hi)
    rw [show k0 + (i + 1) = k0 + 1 + i by omega]
    exact this
theorem sm_mka_cut (f : Nat → (Nat × Nat × Nat × Nat × Nat × Nat) → Bool) : ∀ (n : Nat) (l : List (Nat × Nat × Nat × Nat × Nat × Nat)) (k : Nat), sm_mka k (l.take n) f = true → sm_mka (k + n) (l.drop n) f = true → sm_mka k l f = true
  | 0, l, k, _, h => by simpa using h
  | n + 1, [], k, _, _ => rfl
  | n + 1, q :: t, k, h1, h2 => by
    simp only [List.take_succ_cons, List.drop_succ_cons, sm_mka, Bool.and_eq_true] at *
    exact ⟨h1.1, sm_mka_cut f n t (k + 1) h1.2 (by rw [show k + 1 + n = k + (n + 1) by omega]; exact h2)⟩
