/-! ===== THE PROGRAM'S TABLES ARE CHECKED ===== -/
theorem pg_sub {us : List Cond} {ps : List Nat} (h : us = ps.filterMap (fun i => lw_tbl[i]?)) : ∀ w ∈ us, w ∈ lw_tbl := fun w hw => by
  rw [h] at hw
  obtain ⟨i, -, hi⟩ := List.mem_filterMap.mp hw
  exact List.mem_of_getElem? hi
theorem pg_subT {us : List Cond} {ps : List Nat} (h : us = ps.filterMap (fun i => lw_tbl[i]?)) (hg : us.all goodWord = true) : ∀ w ∈ us, w ∈ pg_T := fun w hw => List.mem_filter.mpr ⟨pg_sub h w hw, List.all_eq_true.mp hg w hw⟩
theorem pg_good : ∀ w ∈ pg_T, goodWord w = true := fun w hw => (List.mem_filter.mp hw).2
theorem pg_xk : mm_Xk pg_xs := by
  intro w hw
  simp only [pg_xs, List.mem_cons, List.not_mem_nil, or_false] at hw
  rcases hw with rfl | rfl | rfl | rfl | rfl | rfl | rfl | rfl | rfl | rfl <;> first | exact Or.inl ⟨_, _, _, _, rfl⟩ | exact Or.inr ⟨_, rfl⟩
theorem pg_xm : ∀ w ∈ pg_xs, w ∈ lw_tbl := pg_sub (ps := pg_xi) (by decide +kernel)
theorem pg_uk0 : ∀ w ∈ pg_us0, w ∈ pg_T := pg_subT (ps := pg_ui0) (by decide +kernel) (by decide +kernel)
theorem pg_uk1 : ∀ w ∈ pg_us1, w ∈ pg_T := pg_subT (ps := pg_ui1) (by decide +kernel) (by decide +kernel)
theorem pg_uk2 : ∀ w ∈ pg_us2, w ∈ pg_T := pg_subT (ps := pg_ui2) (by decide +kernel) (by decide +kernel)
theorem pg_uk3 : ∀ w ∈ pg_us3, w ∈ pg_T := pg_subT (ps := pg_ui3) (by decide +kernel) (by decide +kernel)
theorem pg_uk4 : ∀ w ∈ pg_us4, w ∈ pg_T := pg_subT (ps := pg_ui4) (by decide +kernel) (by decide +kernel)
theorem pg_uk5 : ∀ w ∈ pg_us5, w ∈ pg_T := pg_subT (ps := pg_ui5) (by decide +kernel) (by decide +kernel)
theorem pg_uk6 : ∀ w ∈ pg_us6, w ∈ pg_T := pg_subT (ps := pg_ui6) (by decide +kernel) (by decide +kernel)
theorem pg_uk7 : ∀ w ∈ pg_us7, w ∈ pg_T := pg_subT (ps := pg_ui7) (by decide +kernel) (by decide +kernel)
theorem pg_uk8 : ∀ w ∈ pg_us8, w ∈ pg_T := pg_subT (ps := pg_ui8) (by decide +kernel) (by decide +kernel)
theorem pg_uk9 : ∀ w ∈ pg_us9, w ∈ pg_T := pg_subT (ps := pg_ui9) (by decide +kernel) (by decide +kernel)
theorem pg_uk10 : ∀ w ∈ pg_us10, w ∈ pg_T := pg_subT (ps := pg_ui10) (by decide +kernel) (by decide +kernel)
theorem pg_uk11 : ∀ w ∈ pg_us11, w ∈ pg_T := pg_subT (ps := pg_ui11) (by decide +kernel) (by decide +kernel)
theorem pg_uk12 : ∀ w ∈ pg_us12, w ∈ pg_T := pg_subT (ps := pg_ui12) (by decide +kernel) (by decide +kernel)
theorem pg_uk13 : ∀ w ∈ pg_us13, w ∈ pg_T := pg_subT (ps := pg_ui13) (by decide +kernel) (by decide +kernel)
