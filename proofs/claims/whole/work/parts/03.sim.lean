/-! ===== THE SMALL MACHINE IS THE MACHINE: what comes out of it comes out of the bytecode ===== -/
def mm_cv (ad : Nat → Nat) : Value → Value
  | .ref k => .ref (ad k)
  | v => v
def mm_isr : FieldType → Bool
  | .object _ => true
  | .array _ => true
  | _ => false
def mm_nf (cl : List vw_C) (ci : Nat) : Nat := match cl[ci]? with
  | some r => r.2.2
  | none => 0
def mm_fv (ft : Nat → Nat → FieldType) (ad : Nat → Nat) (h : mm_Hp) (k ci j : Nat) : Value := if mm_isr (ft ci j) = true then va_rf ((mm_Rf h k j).map ad) else .int (mm_I h k j)
def mm_ce (cl : List vw_C) (ft : Nat → Nat → FieldType) (cA : Nat → ClassId) (ad : Nat → Nat) (h : mm_Hp) (k : Nat) : va_E := match mm_s h k with
  | some (.inl ci) => .inr (ci, (List.range (mm_nf cl ci)).map (mm_fv ft ad h k ci))
  | some (.inr (t, n)) => .inl (cA t, n, if t = 3 then .inr (.inr (.inr (.inr (fun j => (mm_Rf h k j).map ad)))) else .inl (mm_I h k))
  | none => .inr (0, [])
def mm_ws (cl : List vw_C) (ft : Nat → Nat → FieldType) (cA : Nat → ClassId) (ad : Nat → Nat) (h : mm_Hp) : va_W := (List.range (mm_n h)).map (fun k => (ad k, mm_ce cl ft cA ad h k))
def mm_wf (h : mm_Hp) : Prop := (∀ k, mm_n h ≤ k → mm_s h k = none) ∧ (∀ k j r, mm_Rf h k j = some r → r < mm_n h) ∧ ∀ k t n, mm_s h k = some (.inr (t, n)) → t < 4
def mm_okv (n : Nat) : Value → Prop
  | .int _ => True
  | .null => True
  | .ref k => k < n
  | .retAddr _ => True
  | _ => False
theorem mm_wf.lt {h : mm_Hp} (w : mm_wf h) {k : Nat} {x : Nat ⊕ (Nat × Nat)} (e : mm_s h k = some x) : k < mm_n h := by
  rcases Nat.lt_or_ge k (mm_n h) with q | q
  · exact q
  · rw [w.1 k q] at e; cases e
theorem mm_ws_get {cl : List vw_C} {ft : Nat → Nat → FieldType} {cA : Nat → ClassId} {ad : Nat → Nat} {h : mm_Hp} {k : Nat} (hk : k < mm_n h) : (mm_ws cl ft cA ad h)[k]? = some (ad k, mm_ce cl ft cA ad h k) := by
  simp [mm_ws, hk]
theorem mm_ws_len {cl : List vw_C} {ft : Nat → Nat → FieldType} {cA : Nat → ClassId} {ad : Nat → Nat} {h : mm_Hp} : (mm_ws cl ft cA ad h).length = mm_n h := by
  simp [mm_ws]
theorem mm_ce_eq {cl : List vw_C} {ft : Nat → Nat → FieldType} {cA : Nat → ClassId} {ad : Nat → Nat} {h h' : mm_Hp} {k : Nat} (e1 : mm_s h' k = mm_s h k) (e2 : mm_I h' k = mm_I h k) (e3 : mm_Rf h' k = mm_Rf h k) : mm_ce cl ft cA ad h' k = mm_ce cl ft cA ad h k := by
  have e : ∀ ci, mm_fv ft ad h' k ci = mm_fv ft ad h k ci := fun ci => by funext j; unfold mm_fv; rw [e2, e3]
  unfold mm_ce
  rw [e1, e2, e3]
  split <;> simp [e]
theorem mm_ws_set {cl : List vw_C} {ft : Nat → Nat → FieldType} {cA : Nat → ClassId} {ad : Nat → Nat} {h h' : mm_Hp} {q : Nat} {x : va_E} (hn : mm_n h' = mm_n h) (hx : x = mm_ce cl ft cA ad h' q) (hs : ∀ k, k ≠ q → mm_ce cl ft cA ad h' k = mm_ce cl ft cA ad h k) : (mm_ws cl ft cA ad h).set q (ad q, x) = mm_ws cl ft cA ad h' := by
  apply List.ext_getElem?
  intro k
  by_cases hk : k < mm_n h
  · by_cases hq : k = q
    · subst hq
      rw [List.getElem?_set_self (by rw [mm_ws_len]; exact hk), mm_ws_get (by rw [hn]; exact hk), hx]
    · rw [List.getElem?_set_ne (Ne.symm hq), mm_ws_get hk, mm_ws_get (by rw [hn]; exact hk), hs k hq]
  · rw [List.getElem?_eq_none (by rw [List.length_set, mm_ws_len]; omega), List.getElem?_eq_none (by rw [mm_ws_len, hn]; omega)]
theorem mm_cp_ce {cl : List vw_C} {ft : Nat → Nat → FieldType} {cA : Nat → ClassId} {ad : Nat → Nat} {h : mm_Hp} {q : Nat} {f : Nat → Int32} {k : Nat} (hk : k ≠ q) : mm_ce cl ft cA ad (mm_cp h q f) k = mm_ce cl ft cA ad h k :=
  mm_ce_eq rfl (va_up_ne _ _ hk) rfl
theorem mm_sR_ce {cl : List vw_C} {ft : Nat → Nat → FieldType} {cA : Nat → ClassId} {ad : Nat → Nat} {h : mm_Hp} {q j : Nat} {r : Option Nat} {k : Nat} (hk : k ≠ q) : mm_ce cl ft cA ad (mm_sR h q j r) k = mm_ce cl ft cA ad h k :=
  mm_ce_eq rfl rfl (va_up_ne _ _ hk)
theorem mm_cp_I {h : mm_Hp} {q : Nat} {f : Nat → Int32} : mm_I (mm_cp h q f) q = f := va_up_self _ _ _
theorem mm_sR_R {h : mm_Hp} {q j : Nat} {r : Option Nat} : mm_Rf (mm_sR h q j r) q = va_up (mm_Rf h q) j r := va_up_self _ _ _
theorem mm_cp_wf {h : mm_Hp} {q : Nat} {f : Nat → Int32} (w : mm_wf h) : mm_wf (mm_cp h q f) := w
theorem mm_sR_wf {h : mm_Hp} {q j r : Nat} (w : mm_wf h) (hr : r < mm_n h) : mm_wf (mm_sR h q j (some r)) := by
  refine ⟨w.1, fun k i x hx => ?_, w.2.2⟩
  by_cases hk : k = q
  · subst hk
    rw [mm_sR_R] at hx
    by_cases hi : i = j
    · subst hi
      rw [va_up_self] at hx
      cases hx
      exact hr
    · rw [va_up_ne _ _ hi] at hx
      exact w.2.1 _ _ _ hx
  · have e : mm_Rf (mm_sR h q j (some r)) k = mm_Rf h k := va_up_ne _ _ hk
    rw [e] at hx
    exact w.2.1 _ _ _ hx
theorem mm_range_set {n k : Nat} {f g : Nat → Value} {v : Value} (hk : k < n) (hv : g k = v) (hg : ∀ j, j ≠ k → g j = f j) : ((List.range n).map f).set k v = (List.range n).map g := by
  apply List.ext_getElem?
  intro i
  by_cases hi : i < n
  · by_cases hik : i = k
    · subst hik
      rw [List.getElem?_set_self (by simp [hi])]
      simp [hi, hv]
    · rw [List.getElem?_set_ne (Ne.symm hik)]
      simp [hi, hg i hik]
  · rw [List.getElem?_eq_none (by simp; omega), List.getElem?_eq_none (by simp; omega)]
/-- an int field or element is written -/
theorem mm_put_int {cl : List vw_C} {ft : Nat → Nat → FieldType} {cA : Nat → ClassId} {ad : Nat → Nat} {h : mm_Hp} {q ci j : Nat} {v : Int32} (hs : mm_s h q = some (.inl ci)) (hj : j < mm_nf cl ci) (ht : mm_isr (ft ci j) = false) :
    (mm_ws cl ft cA ad h).set q (ad q, .inr (ci, ((List.range (mm_nf cl ci)).map (mm_fv ft ad h q ci)).set j (.int v))) = mm_ws cl ft cA ad (mm_sI h q j v) := by
  refine mm_ws_set rfl ?_ (fun k hk => mm_cp_ce hk)
  have e : mm_s (mm_sI h q j v) q = some (.inl ci) := hs
  unfold mm_ce
  rw [e]
  refine congrArg Sum.inr (congrArg (Prod.mk ci) (mm_range_set hj ?_ fun i hi => ?_))
  · unfold mm_fv
    rw [if_neg (by rw [ht]; decide)]
    show Value.int (mm_I (mm_cp h q _) q j) = _
    rw [mm_cp_I]
    simp [upd]
  · unfold mm_fv
    show (if _ then va_rf ((mm_Rf h q i).map ad) else Value.int (mm_I (mm_cp h q _) q i)) = _
    rw [mm_cp_I]
    simp [upd, hi]
theorem mm_put_ref {cl : List vw_C} {ft : Nat → Nat → FieldType} {cA : Nat → ClassId} {ad : Nat → Nat} {h : mm_Hp} {q ci j r : Nat} (hs : mm_s h q = some (.inl ci)) (hj : j < mm_nf cl ci) (ht : mm_isr (ft ci j) = true) :
    (mm_ws cl ft cA ad h).set q (ad q, .inr (ci, ((List.range (mm_nf cl ci)).map (mm_fv ft ad h q ci)).set j (.ref (ad r)))) = mm_ws cl ft cA ad (mm_sR h q j (some r)) := by
  refine mm_ws_set rfl ?_ (fun k hk => mm_sR_ce hk)
  have e : mm_s (mm_sR h q j (some r)) q = some (.inl ci) := hs
  unfold mm_ce
  rw [e]
  refine congrArg Sum.inr (congrArg (Prod.mk ci) (mm_range_set hj ?_ fun i hi => ?_))
  · unfold mm_fv
    rw [if_pos ht, mm_sR_R, va_up_self]
    rfl
  · unfold mm_fv
    rw [mm_sR_R, va_up_ne _ _ hi]
    rfl
theorem mm_put_arr {cl : List vw_C} {ft : Nat → Nat → FieldType} {cA : Nat → ClassId} {ad : Nat → Nat} {h : mm_Hp} {q t n : Nat} {f : Nat → Int32} (hs : mm_s h q = some (.inr (t, n))) (ht : t ≠ 3) :
    (mm_ws cl ft cA ad h).set q (ad q, .inl (cA t, n, .inl f)) = mm_ws cl ft cA ad (mm_cp h q f) := by
  refine mm_ws_set rfl ?_ (fun k hk => mm_cp_ce hk)
  have e : mm_s (mm_cp h q f) q = some (.inr (t, n)) := hs
  unfold mm_ce
  rw [e]
  simp only [ht, if_false, mm_cp_I]
theorem mm_put_arq {cl : List vw_C} {ft : Nat → Nat → FieldType} {cA : Nat → ClassId} {ad : Nat → Nat} {h : mm_Hp} {q n j r : Nat} (hs : mm_s h q = some (.inr (3, n))) :
    (mm_ws cl ft cA ad h).set q (ad q, .inl (cA 3, n, .inr (.inr (.inr (.inr (va_up (fun j => (mm_Rf h q j).map ad) j (some (ad r)))))))) = mm_ws cl ft cA ad (mm_sR h q j (some r)) := by
  refine mm_ws_set rfl ?_ (fun k hk => mm_sR_ce hk)
  have e : mm_s (mm_sR h q j (some r)) q = some (.inr (3, n)) := hs
  unfold mm_ce
  rw [e]
  simp only [if_true, mm_sR_R]
  refine congrArg Sum.inl (congrArg (fun x => (cA 3, n, Sum.inr (Sum.inr (Sum.inr (Sum.inr x))))) ?_)
  funext i
  by_cases hi : i = j
  · subst hi
    rw [va_up_self, va_up_self]
    rfl
  · rw [va_up_ne _ _ hi, va_up_ne _ _ hi]
/-- a new cell -/
theorem mm_ws_new {cl : List vw_C} {ft : Nat → Nat → FieldType} {cA : Nat → ClassId} {ad : Nat → Nat} {h : mm_Hp} {x z : Nat} {sh : Nat ⊕ (Nat × Nat)} {y : va_E} (w : mm_wf h) (hy : y = mm_ce cl ft cA (va_up ad (mm_n h) x) (mm_nw h z sh) (mm_n h)) : mm_ws cl ft cA ad h ++ [(x, y)] = mm_ws cl ft cA (va_up ad (mm_n h) x) (mm_nw h z sh) := by
  have key : ∀ k, k < mm_n h → mm_ce cl ft cA (va_up ad (mm_n h) x) (mm_nw h z sh) k = mm_ce cl ft cA ad h k := by
    intro k hk
    have e1 : mm_s (mm_nw h z sh) k = mm_s h k := va_up_ne _ _ (Nat.ne_of_lt hk)
    have e2 : mm_I (mm_nw h z sh) k = mm_I h k := va_up_ne _ _ (Nat.ne_of_lt hk)
    have e3 : mm_Rf (mm_nw h z sh) k = mm_Rf h k := va_up_ne _ _ (Nat.ne_of_lt hk)
    have e4 : ∀ j, (mm_Rf h k j).map (va_up ad (mm_n h) x) = (mm_Rf h k j).map ad := by
      intro j
      cases hr : mm_Rf h k j with
      | none => rfl
      | some r => exact congrArg some (va_up_ne _ _ (Nat.ne_of_lt (w.2.1 _ _ _ hr)))
    have e5 : ∀ ci, mm_fv ft (va_up ad (mm_n h) x) (mm_nw h z sh) k ci = mm_fv ft ad h k ci := fun ci => by
      funext j
      unfold mm_fv
      rw [e2, e3, e4]
    unfold mm_ce
    rw [e1, e2, e3]
    simp only [e4, e5]
  have hn : mm_n (mm_nw h z sh) = mm_n h + 1 := rfl
  apply List.ext_getElem?
  intro k
  rcases Nat.lt_trichotomy k (mm_n h) with hk | hk | hk
  · rw [List.getElem?_append_left (by rw [mm_ws_len]; exact hk), mm_ws_get hk, mm_ws_get (by rw [hn]; omega), key k hk, va_up_ne _ _ (Nat.ne_of_lt hk)]
  · subst hk
    rw [List.getElem?_append_right (by rw [mm_ws_len]; exact Nat.le_refl _), mm_ws_len, Nat.sub_self, mm_ws_get (by rw [hn]; omega), hy, va_up_self]
    rfl
  · rw [List.getElem?_eq_none (by rw [List.length_append, mm_ws_len]; simp; omega), List.getElem?_eq_none (by rw [mm_ws_len, hn]; omega)]
theorem mm_nw_wf {h : mm_Hp} {z : Nat} {sh : Nat ⊕ (Nat × Nat)} (w : mm_wf h) (hsh : ∀ t n, sh = .inr (t, n) → t < 4) : mm_wf (mm_nw h z sh) := by
  refine ⟨fun k hk => ?_, fun k j r hr => ?_, fun k t n hs => ?_⟩
  · have hk : mm_n h + 1 ≤ k := hk
    have e : mm_s (mm_nw h z sh) k = mm_s h k := va_up_ne _ _ (show k ≠ h.1 from fun q => by rw [q] at hk; exact absurd hk (Nat.not_succ_le_self _))
    rw [e]
    exact w.1 k (by omega)
  · show r < mm_n h + 1
    by_cases hk : k = mm_n h
    · subst hk
      have e : mm_Rf (mm_nw h z sh) (mm_n h) = fun _ => none := va_up_self _ _ _
      rw [e] at hr
      cases hr
    · have e : mm_Rf (mm_nw h z sh) k = mm_Rf h k := va_up_ne _ _ hk
      rw [e] at hr
      exact Nat.lt_succ_of_lt (w.2.1 _ _ _ hr)
  · by_cases hk : k = mm_n h
    · subst hk
      have e : mm_s (mm_nw h z sh) (mm_n h) = some sh := va_up_self _ _ _
      rw [e] at hs
      exact hsh t n (Option.some.inj hs)
    · have e : mm_s (mm_nw h z sh) k = mm_s h k := va_up_ne _ _ hk
      rw [e] at hs
      exact w.2.2 _ _ _ hs
theorem mm_nth_eq : ∀ (l : List Value) (i : Nat), mm_nth l i = l[i]?
  | [], _ => by simp [mm_nth]
  | _ :: _, 0 => rfl
  | _ :: l, i + 1 => by simp [mm_nth, mm_nth_eq l i]
theorem mm_cv_cat (ad : Nat → Nat) {n : Nat} {v : Value} (h : mm_okv n v) : (mm_cv ad v).category = 1 := by
  cases v <;> first | rfl | cases h
theorem mm_okv.up {n k : Nat} (hnk : n ≤ k) {v : Value} (h : mm_okv n v) : mm_okv k v := by
  cases v <;> first | exact h | exact Nat.lt_of_lt_of_le h hnk
theorem mm_cv_up {ad : Nat → Nat} {n x : Nat} {v : Value} (h : mm_okv n v) : mm_cv (va_up ad n x) v = mm_cv ad v := by
  cases v <;> first | rfl | exact congrArg Value.ref (va_up_ne _ _ (Nat.ne_of_lt h))
theorem mm_map_up {ad : Nat → Nat} {n x : Nat} {l : List Value} (h : ∀ v ∈ l, mm_okv n v) : l.map (mm_cv (va_up ad n x)) = l.map (mm_cv ad) := List.map_congr_left fun v hv => mm_cv_up (h v hv)
/-- the locals: those that are set are held -/
def mm_LR (ad : Nat → Nat) (L : List Value) (ls : Array Slot) (nL : Nat) : Prop := ls.size = nL ∧ lv_wf ls ∧ L.length = nL ∧ ∀ (i : Nat) (v : Value), L[i]? = some v → (∀ r, v ≠ .retAddr r) → ls[i]? = some (.val (mm_cv ad v))
def mm_ret : Value → Bool
  | .retAddr _ => true
  | _ => false
def mm_lvl (ad : Nat → Nat) (L : List Value) : List (Nat × Value) := (List.range L.length).filterMap (fun j => (L[j]?).bind fun v => if mm_ret v = true then none else some (j, mm_cv ad v))
theorem mm_ret_iff {v : Value} : mm_ret v = true ↔ ∃ r, v = .retAddr r := by
  cases v <;> simp [mm_ret]
theorem mm_lvl_mem {ad : Nat → Nat} {L : List Value} {q : Nat × Value} : q ∈ mm_lvl ad L ↔ ∃ v, L[q.1]? = some v ∧ (∀ r, v ≠ .retAddr r) ∧ q.2 = mm_cv ad v := by
  unfold mm_lvl
  rw [List.mem_filterMap]
  constructor
  · rintro ⟨j, hj, e⟩
    obtain ⟨v, hv, e⟩ := Option.bind_eq_some_iff.mp e
    by_cases hr : mm_ret v = true
    · rw [if_pos hr] at e; cases e
    · rw [if_neg hr] at e
      cases e
      exact ⟨v, hv, fun r h => hr (mm_ret_iff.mpr ⟨r, h⟩), rfl⟩
  · rintro ⟨v, hv, hne, e⟩
    refine ⟨q.1, List.mem_range.mpr (List.getElem?_eq_some_iff.mp hv).1, Option.bind_eq_some_iff.mpr ⟨v, hv, ?_⟩⟩
    rw [if_neg (fun h => by obtain ⟨r, hr⟩ := mm_ret_iff.mp h; exact hne r hr), ← e]
theorem mm_LR.has {ad : Nat → Nat} {L : List Value} {ls : Array Slot} {nL : Nat} (h : mm_LR ad L ls nL) : lv_has ls nL (mm_lvl ad L) := by
  refine ⟨h.1, h.2.1, fun q hq => ?_⟩
  obtain ⟨v, h1, h2, h3⟩ := mm_lvl_mem.mp hq
  rw [h3]
  exact h.2.2.2 _ _ h1 h2
theorem mm_LR.set {ad : Nat → Nat} {L : List Value} {ls ls' : Array Slot} {nL n i : Nat} {v : Value} (h : mm_LR ad L ls nL) (hok : ∀ v ∈ L, mm_okv n v) (h' : lv_has ls' nL ((i, mm_cv ad v) :: (mm_lvl ad L).filter (fun q => !(q.1 == i) && !(q.1 + 1 == i && q.2.category == 2)))) : mm_LR ad (L.set i v) ls' nL := by
  refine ⟨h'.1, h'.2.1, by rw [List.length_set]; exact h.2.2.1, fun j w hj hw => ?_⟩
  by_cases hji : j = i
  · subst hji
    have hlt : j < L.length := by
      have := (List.getElem?_eq_some_iff.mp hj).1
      rwa [List.length_set] at this
    rw [List.getElem?_set_self hlt] at hj
    cases hj
    exact h'.2.2 (j, _) List.mem_cons_self
  · rw [List.getElem?_set_ne (Ne.symm hji)] at hj
    refine h'.2.2 (j, mm_cv ad w) (List.mem_cons_of_mem _ (List.mem_filter.mpr ⟨mm_lvl_mem.mpr ⟨w, hj, hw, rfl⟩, ?_⟩))
    have hc := mm_cv_cat ad (hok w (List.mem_of_getElem? hj))
    simp [hji, hc]
theorem mm_LR.up {ad : Nat → Nat} {L : List Value} {ls : Array Slot} {nL n x : Nat} (h : mm_LR ad L ls nL) (hok : ∀ v ∈ L, mm_okv n v) : mm_LR (va_up ad n x) L ls nL :=
  ⟨h.1, h.2.1, h.2.2.1, fun i v hv hn => by rw [mm_cv_up (hok v (List.mem_of_getElem? hv))]; exact h.2.2.2 i v hv hn⟩
