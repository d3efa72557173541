/-! ===== NEW CELLS, CALLS, ENDS ===== -/
abbrev mm_ty (cA : Nat → ClassId) (TC : String) : List (ClassId × FieldType) := [(cA 0, .int), (cA 1, .byte), (cA 2, .boolean), (cA 3, .object TC)]
theorem mm_nw_fv {ft : Nat → Nat → FieldType} {ad : Nat → Nat} {h : mm_Hp} {z ci j : Nat} {sh : Nat ⊕ (Nat × Nat)} : mm_fv ft ad (mm_nw h z sh) (mm_n h) ci j = if mm_isr (ft ci j) = true then .null else .int 0 := by
  have e2 : mm_I (mm_nw h z sh) (mm_n h) = fun _ => 0 := va_up_self _ _ _
  have e3 : mm_Rf (mm_nw h z sh) (mm_n h) = fun _ => none := va_up_self _ _ _
  unfold mm_fv
  rw [e2, e3]
  rfl
theorem mm_cv_ag {ad ad' : Nat → Nat} {n : Nat} (ha : ∀ k, k < n → ad' k = ad k) {v : Value} (h : mm_okv n v) : mm_cv ad' v = mm_cv ad v := by
  cases v <;> first | rfl | exact congrArg Value.ref (ha _ h)
theorem mm_map_ag {ad ad' : Nat → Nat} {n : Nat} (ha : ∀ k, k < n → ad' k = ad k) {l : List Value} (h : ∀ v ∈ l, mm_okv n v) : l.map (mm_cv ad') = l.map (mm_cv ad) := List.map_congr_left fun v hv => mm_cv_ag ha (h v hv)
theorem mm_LR.ag {ad ad' : Nat → Nat} {L : List Value} {ls : Array Slot} {nL n : Nat} (ha : ∀ k, k < n → ad' k = ad k) (h : mm_LR ad L ls nL) (hok : ∀ v ∈ L, mm_okv n v) : mm_LR ad' L ls nL :=
  ⟨h.1, h.2.1, h.2.2.1, fun i v hv hn => by rw [mm_cv_ag ha (hok v (List.mem_of_getElem? hv))]; exact h.2.2.2 i v hv hn⟩
theorem mm_pop_spec : ∀ (k : Nat) (acc st as r : List Value), mm_pop k acc st = some (as, r) → ∃ xs : List Value, xs.length = k ∧ st = xs ++ r ∧ as = xs.reverse ++ acc
  | 0, acc, st, as, r, h => by
    cases h
    exact ⟨[], rfl, rfl, rfl⟩
  | k + 1, acc, [], as, r, h => by cases h
  | k + 1, acc, v :: st, as, r, h => by
    obtain ⟨xs, h1, h2, h3⟩ := mm_pop_spec k (v :: acc) st as r h
    exact ⟨v :: xs, by rw [List.length_cons, h1], by rw [h2]; rfl, by rw [h3]; simp⟩
theorem mm_pop_0 {k : Nat} {st as r : List Value} (h : mm_pop k [] st = some (as, r)) : as.length = k ∧ st = as.reverse ++ r := by
  obtain ⟨xs, h1, h2, h3⟩ := mm_pop_spec k [] st as r h
  rw [List.append_nil] at h3
  exact ⟨by rw [h3, List.length_reverse, h1], by rw [h3, List.reverse_reverse]; exact h2⟩
def mm_Pc (Xs : List Cond) (D : va_G) (cl : List vw_C) (ft : Nat → Nat → FieldType) (cA : Nat → ClassId) (TC : String) (ad : Nat → Nat) (sz : Nat) (as : List Value) (h : mm_Hp) : Array Value → State → Prop :=
  va_Pc (as.map (mm_cv ad)) (fun U => U.heap.size = sz ∧ va_P D cl (mm_ws cl ft cA ad h) U.heap ∧ va_K D cl (mm_ty cA TC) U ∧ va_D (fun _ => True) (mm_ws cl ft cA ad h) ∧ mm_Xw Xs U)
def mm_Qc (D : va_G) (cl : List vw_C) (ft : Nat → Nat → FieldType) (cA : Nat → ClassId) (ad : Nat → Nat) (sz : Nat) (h : mm_Hp) (v : Option Value) (h1 : mm_Hp) : Array Value → State → Outcome → State → Prop := fun _ st oc t =>
  (∃ ad', (∀ k, k < mm_n h → ad' k = ad k) ∧ oc = .returned (v.map (mm_cv ad')) ∧ va_P D cl (mm_ws cl ft cA ad' h1) t.heap ∧ va_D (va_A (mm_ws cl ft cA ad h) sz) (mm_ws cl ft cA ad' h1)) ∧ va_F (va_A (mm_ws cl ft cA ad h) sz) st t
def mm_rmd (d c z : Nat) : Room := { frames := d, cells := c, slots := z, locals := d * 40 }
theorem mm_cats (ad : Nat → Nat) {n : Nat} : ∀ {rr : List Value}, (∀ x ∈ rr, mm_okv n x) → ((rr.map (mm_cv ad)).map fun v => v.category).sum = rr.length
  | [], _ => rfl
  | x :: t, hx => by
    rw [List.map_cons, List.map_cons, List.sum_cons, mm_cats ad (mm_tl hx), mm_cv_cat ad (mm_hd hx), List.length_cons]
    omega
theorem mm_call {p : Program} {l : Launch} {e : Env} {R : Room} {s : State} {m : MethodId} {args : Array Value} {below : List Frame} {meth : Method} {c : Code} {H : Heap} {locs : List Loc} {cells slots : Nat} {Q : State → Prop} {D : va_G} {cl : List vw_C} {ft : Nat → Nat → FieldType} {cA : Nat → ClassId} {ad : Nat → Nat} {A : Nat → Prop} {h h1 : mm_Hp} {v : Option Value} {mc ms pc : Nat} {ls : Array Slot} {st0 rest : List Value} {a : Array Value}
    (hr : va_Run p l e R s m args below meth c H locs cells slots mc ms (F0 m pc ls st0) rest (mm_Qc D cl ft cA ad H.size h v h1 a) (va_A (mm_ws cl ft cA ad h) H.size)) (hS : va_S A s.heap H locs) (hF : ∀ q, va_A (mm_ws cl ft cA ad h) H.size q → A q)
    (kk : ∀ ad' H1 locs1, (∀ k, k < mm_n h → ad' k = ad k) → va_P D cl (mm_ws cl ft cA ad' h1) H1 → va_D A (mm_ws cl ft cA ad' h1) → va_S A s.heap H1 locs1 → W p l e R s m args below meth c H1 locs1 (cells + mc) (slots + ms) Q (F0 m (pc + 3) ls ((v.map (mm_cv ad')).toList ++ rest))) : W p l e R s m args below meth c H locs cells slots Q (F0 m pc ls st0) := by
  intro T hT X
  obtain ⟨v', st₀, t, T', L', h0, X', hL, e1, e2, ⟨⟨ad', ha, hv, hp, hd⟩, hz, hk⟩, st⟩ := hr T hT X
  cases hv
  rw [h0] at hz hk
  obtain ⟨t2, a1, b1⟩ := kk ad' T'.heap (locs ++ L') ha (by rw [e1]; exact hp) (hd.weaken (fun _ q _ hq => hF _ hq)) ⟨Nat.le_trans hS.1 (by rw [e1]; exact hz), fun q g1 g2 => by rw [e1, hk q (Nat.lt_of_lt_of_le g1 hS.1) (fun z => g2 (hF q z))]; exact hS.2.1 q g1 g2, fun q hq => by
      rcases List.mem_append.mp hq with g | g
      · exact hS.2.2 q g
      · exact hF _ (hL q g)⟩ T' rfl X'
  exact ⟨t2, st t2 a1, b1⟩
theorem mm_free {s : State} {H : Heap} {locs : List Loc} {cl : List vw_C} {ft : Nat → Nat → FieldType} {cA : Nat → ClassId} {ad : Nat → Nat} {A : Nat → Prop} {h : mm_Hp} (hD : va_D A (mm_ws cl ft cA ad h)) (hS : va_S A s.heap H locs) (hA : ∀ q, s.heap.size ≤ q → A q) : ∀ q, va_A (mm_ws cl ft cA ad h) H.size q → A q := by
  intro q hq
  rcases hq with ⟨k, e, hk⟩ | hq
  · exact hD.2 k _ hk
  · exact hA q (Nat.le_trans hS.1 hq)
theorem mm_Pc_blind {Xs : List Cond} (hXk : mm_Xk Xs) {D : va_G} {cl : List vw_C} {ft : Nat → Nat → FieldType} {cA : Nat → ClassId} {TC : String} {ad : Nat → Nat} {sz : Nat} {as : List Value} {h : mm_Hp} : FrameBlind (mm_Pc Xs D cl ft cA TC ad sz as h) := fun a U g mk q => by
  obtain ⟨q0, q1, qP, qK, qD, qX⟩ := q
  exact ⟨q0, q1, qP, va_K.moved (u := U) (U := U.calling g mk a) (Vm.Alike.refl U.vm) qK, qD, qX.calling hXk⟩
/-- what the tables must say of a method that is called -/
def mm_Mo (Ts : List Cond) (y : Nat) (q : mm_Mi) : Prop :=
  Cond.code q.1 q.2.1 q.2.2.1 q.2.2.2.1 ∈ Ts ∧ (q.1.cls ≠ "java/lang/invoke/MethodHandle" ∧ q.1.cls ≠ "java/lang/invoke/VarHandle") ∧ q.2.2.1 ≤ 21 ∧ (parseMethodDescriptor q.1.desc).map (fun d => d.parameters.length + (if q.2.2.2.2.2.1 = 0 then 0 else 1)) = some q.2.2.2.2.1 ∧
  (q.2.2.2.2.2.1 = 0 → Cond.static q.1 ∈ Ts) ∧ (q.2.2.2.2.2.1 ≠ 0 → Cond.instanceMethod q.1 ∈ Ts) ∧ (q.2.2.2.2.2.1 = 1 → Cond.selects q.1.cls q.1 q.1 ∈ Ts) ∧ Cond.initialized q.1.cls ∈ Ts ∧ (q.2.2.2.2.2.1 = 2 → q.1.name = "<init>" ∧ q.2.2.2.1 = none)
def mm_wsm (Ts : List Cond) (q : mm_Mi) : List Cond := Cond.code q.1 q.2.1 q.2.2.1 q.2.2.2.1 :: Ts
/-- what the calls give, at depth d -/
def mm_Calls (l : Launch) (D : va_G) (cl : List vw_C) (ft : Nat → Nat → FieldType) (cA : Nat → ClassId) (TC : String) (Ts Xs : List Cond) (mt : Nat → Option mm_Mi) (d : Nat) (E : mm_Ev) : Prop :=
  ∀ (y : Nat) (as : List Value) (h : mm_Hp) (v : Option Value) (h1 : mm_Hp), E y as h = some (v, h1) → mm_wf h → (∀ x ∈ as, mm_okv (mm_n h) x) → ∀ q, mt y = some q → as.length = q.2.2.2.2.1 → mm_Fin v h h1 ∧ ∀ ad sz, Met l q.1 (mm_wsm Ts q) (mm_rmd d (mm_n h1 - mm_n h) (mm_z h1 - mm_z h)) (mm_Pc Xs D cl ft cA TC ad sz as h) (mm_Qc D cl ft cA ad sz h v h1) (mm_n h1 - mm_n h) (mm_z h1 - mm_z h) (va_A (mm_ws cl ft cA ad h) sz)
theorem mm_goodIn {Ts : List Cond} {q : mm_Mi} {ws : List Cond} (hG : ∀ w ∈ Ts, goodWord w = true) (hc : Cond.code q.1 q.2.1 q.2.2.1 q.2.2.2.1 ∈ Ts) (hws : ∀ w ∈ ws, w ∈ Ts) : GoodIn Ts (ws ++ mm_wsm Ts q) := by
  intro w hw
  have hm : w ∈ Ts := by
    rcases List.mem_append.mp hw with g | g
    · exact hws w g
    · rcases List.mem_cons.mp g with g | g
      · rw [g]; exact hc
      · exact g
  exact ⟨hm, good_of_word (hG w hm)⟩
set_option maxHeartbeats 4000000 in
theorem mm_step_new {p : Program} {l : Launch} {e : Env} {R : Room} {s : State} {m : MethodId} {args : Array Value} {below : List Frame} {meth : Method} {c : Code} {Q : State → Prop} {cc : ByteArray} {nL : Nat} {ini : Bool} {rt : Option FieldType} {own host TC : String} {Ts Us Xs : List Cond} {D : va_G} {cl : List vw_C} {ft : Nat → Nat → FieldType} {cA : Nat → ClassId} {A : Nat → Prop} {n0 z0 : Nat} {ad0 : Nat → Nat} {mt : Nat → Option mm_Mi} {E : mm_Ev} {K : mm_Cf → Option mm_Rs} {vv : Option Value} {h' : mm_Hp}
    (X : mm_Cx p s m args meth c cc nL ini rt own TC Ts Us Xs D cl ft cA A)
    (hK : ∀ pc L st h, K (pc, L, st, h) = some (vv, h') → mm_wf h → (∀ v ∈ L, mm_okv (mm_n h) v) → (∀ v ∈ st, mm_okv (mm_n h) v) → mm_Fin vv h h' ∧ ∀ H locs ad ls, mm_Pre s D cl ft cA A nL n0 z0 ad0 L st h H locs ad ls → W p l e R s m args below meth c H locs (mm_n h - n0) (mm_z h - z0) Q (F0 m pc ls (st.map (mm_cv ad))))
    (hR : mm_n h' - n0 ≤ R.cells ∧ mm_z h' - z0 ≤ R.slots) {pc : Nat} {L st : List Value} {h : mm_Hp} {k : Nat} {a b c' : Nat} {v : Int32} {q : List (Int32 × Nat)} (hck : mm_ck own host TC cc nL ini rt Us Xs cl ft mt pc (.new k) a b c' v q = true) (hr : mm_ex E K pc L st h (.new k) a b c' v q = some (vv, h')) (hwf : mm_wf h) (hoL : ∀ v ∈ L, mm_okv (mm_n h) v) (hok : ∀ v ∈ st, mm_okv (mm_n h) v) :
    mm_Fin vv h h' ∧ ∀ H locs ad ls, mm_Pre s D cl ft cA A nL n0 z0 ad0 L st h H locs ad ls → W p l e R s m args below meth c H locs (mm_n h - n0) (mm_z h - z0) Q (F0 m pc ls (st.map (mm_cv ad))) := by
  obtain ⟨hx, hb, hml, hown, hts, hKk, hA, hCl, hUs, hini, hrt, hlk, hXs⟩ := X
  simp only [mm_ck] at hck
  split at hck
  · rename_i r0 hr0
    simp only [Bool.and_eq_true, decide_eq_true_eq] at hck
    obtain ⟨⟨hd, hbN⟩, hl⟩ := hck
    subst hbN
    have hC := hCl a r0 hr0
    have hr : K (pc + 3, L, .ref (mm_n h) :: st, mm_nw h r0.2.2 (.inl a)) = some (vv, h') := hr
    have hw' : mm_wf (mm_nw h r0.2.2 (.inl a)) := mm_nw_wf hwf (fun t n e => by cases e)
    have hnn : mm_n (mm_nw h r0.2.2 (.inl a)) = mm_n h + 1 := rfl
    have hzz : mm_z (mm_nw h r0.2.2 (.inl a)) = mm_z h + r0.2.2 := rfl
    have hoL' : ∀ v ∈ L, mm_okv (mm_n (mm_nw h r0.2.2 (.inl a))) v := fun v hv => (hoL v hv).up (Nat.le_succ _)
    have hoo : ∀ v ∈ (Value.ref (mm_n h)) :: st, mm_okv (mm_n (mm_nw h r0.2.2 (.inl a))) v := mm_o1 (Nat.lt_succ_self _) (fun v hv => (hok v hv).up (Nat.le_succ _))
    obtain ⟨F, w⟩ := hK _ _ _ _ hr hw' hoL' hoo
    have F1 := F.2.1
    have F2 := F.2.2.1
    rw [hnn] at F1
    rw [hzz] at F2
    refine ⟨⟨F.1, by omega, by omega, F.2.2.2⟩, fun H locs ad ls P => ?_⟩
    have hn0 := P.2.2.2.2.2.2.2.1
    have hz0 := P.2.2.2.2.2.2.2.2.1
    refine va_new (D := D) (ci := a) (fs := (List.range (mm_nf cl a)).map (fun j => if mm_isr (ft a j) = true then Value.null else Value.int 0)) hx hb hts hC.1 (ft a) hC.2.1 hown (hts _ (hUs _ hl)) (hts _ hC.2.2.2.2.2.1) (hts _ hC.2.2.2.2.2.2) hKk P.1 P.2.1 P.2.2.1 hA hr0 (fun j hj => ?_) (by omega) (by omega) hd (fun q H1 g1 g2 g3 => ?_)
    · rw [mm_nf_of hr0]
      have e : vp_V ((List.range r0.2.2).map (fun j => if mm_isr (ft a j) = true then Value.null else Value.int 0)) j = if mm_isr (ft a j) = true then Value.null else Value.int 0 := by
        simp [vp_V, hj]
      rw [e]
      rcases hC.2.2.2.2.1 j hj with g | g | g
      · rw [if_pos g]
        cases hf : ft a j <;> rw [hf] at g <;> first | rfl | cases g
      · rw [g]; rfl
      · rw [g]; rfl
    · have e1 := mm_ws_new (cl := cl) (ft := ft) (cA := cA) (ad := ad) (x := q) (z := r0.2.2) (sh := .inl a) (y := .inr (a, (List.range (mm_nf cl a)).map (fun j => if mm_isr (ft a j) = true then Value.null else Value.int 0))) hwf (by
        rw [mm_ce_o (show mm_s (mm_nw h r0.2.2 (.inl a)) (mm_n h) = some (.inl a) from va_up_self _ _ _)]
        refine congrArg Sum.inr (congrArg (Prod.mk a) (List.map_congr_left fun j _ => ?_))
        exact mm_nw_fv.symm)
      rw [e1] at g1 g2
      have w1 := w H1 locs (va_up ad (mm_n h) q) ls ⟨g1, g2, g3, hw', hoL', hoo, P.2.2.2.2.2.2.1.up hoL, by omega, by omega, fun k hk => by rw [va_up_ne _ _ (show k ≠ mm_n h by omega)]; exact P.2.2.2.2.2.2.2.2.2 k hk⟩
      rw [List.map_cons, mm_map_up hok, hnn, hzz, show mm_n h + 1 - n0 = mm_n h - n0 + 1 by omega, show mm_z h + r0.2.2 - z0 = mm_z h - z0 + r0.2.2 by omega] at w1
      have e2 : mm_cv (va_up ad (mm_n h) q) (.ref (mm_n h)) = .ref q := congrArg Value.ref (va_up_self _ _ _)
      rw [e2] at w1
      exact w1
  · cases hck
set_option maxHeartbeats 4000000 in
theorem mm_step_newarray_int {p : Program} {l : Launch} {e : Env} {R : Room} {s : State} {m : MethodId} {args : Array Value} {below : List Frame} {meth : Method} {c : Code} {Q : State → Prop} {cc : ByteArray} {nL : Nat} {ini : Bool} {rt : Option FieldType} {own host TC : String} {Ts Us Xs : List Cond} {D : va_G} {cl : List vw_C} {ft : Nat → Nat → FieldType} {cA : Nat → ClassId} {A : Nat → Prop} {n0 z0 : Nat} {ad0 : Nat → Nat} {mt : Nat → Option mm_Mi} {E : mm_Ev} {K : mm_Cf → Option mm_Rs} {vv : Option Value} {h' : mm_Hp}
    (X : mm_Cx p s m args meth c cc nL ini rt own TC Ts Us Xs D cl ft cA A)
    (hK : ∀ pc L st h, K (pc, L, st, h) = some (vv, h') → mm_wf h → (∀ v ∈ L, mm_okv (mm_n h) v) → (∀ v ∈ st, mm_okv (mm_n h) v) → mm_Fin vv h h' ∧ ∀ H locs ad ls, mm_Pre s D cl ft cA A nL n0 z0 ad0 L st h H locs ad ls → W p l e R s m args below meth c H locs (mm_n h - n0) (mm_z h - z0) Q (F0 m pc ls (st.map (mm_cv ad))))
    (hR : mm_n h' - n0 ≤ R.cells ∧ mm_z h' - z0 ≤ R.slots) {pc : Nat} {L st : List Value} {h : mm_Hp} {a b c' : Nat} {v : Int32} {q : List (Int32 × Nat)} (hck : mm_ck own host TC cc nL ini rt Us Xs cl ft mt pc (.newarray .int) a b c' v q = true) (hr : mm_ex E K pc L st h (.newarray .int) a b c' v q = some (vv, h')) (hwf : mm_wf h) (hoL : ∀ v ∈ L, mm_okv (mm_n h) v) (hok : ∀ v ∈ st, mm_okv (mm_n h) v) :
    mm_Fin vv h h' ∧ ∀ H locs ad ls, mm_Pre s D cl ft cA A nL n0 z0 ad0 L st h H locs ad ls → W p l e R s m args below meth c H locs (mm_n h - n0) (mm_z h - z0) Q (F0 m pc ls (st.map (mm_cv ad))) := by
  obtain ⟨hx, hb, hml, hown, hts, hKk, hA, hCl, hUs, hini, hrt, hlk, hXs⟩ := X
  simp only [mm_ck, Bool.and_eq_true, decide_eq_true_eq] at hck
  obtain ⟨⟨hd, hat⟩, hl⟩ := hck
  have ha : a = 0 := by
    rcases hat with ⟨e1, e2⟩ | ⟨e1, e2⟩ | ⟨e1, e2⟩ <;> first | exact e2 | cases e1
  subst ha
  simp only [mm_ex] at hr
  split at hr
  · rename_i n r
    unfold mm_na at hr
    split at hr
    · rename_i hn
      have hr : K (pc + 2, L, .ref (mm_n h) :: r, mm_nw h n.toNatClampNeg (.inr (0, n.toNatClampNeg))) = some (vv, h') := hr
      have hw' : mm_wf (mm_nw h n.toNatClampNeg (.inr (0, n.toNatClampNeg))) := mm_nw_wf hwf (fun t n e => by cases e; decide)
      have hnn : mm_n (mm_nw h n.toNatClampNeg (.inr (0, n.toNatClampNeg))) = mm_n h + 1 := rfl
      have hzz : mm_z (mm_nw h n.toNatClampNeg (.inr (0, n.toNatClampNeg))) = mm_z h + n.toNatClampNeg := rfl
      have hoL' : ∀ v ∈ L, mm_okv (mm_n (mm_nw h n.toNatClampNeg (.inr (0, n.toNatClampNeg)))) v := fun v hv => (hoL v hv).up (Nat.le_succ _)
      have hoo : ∀ v ∈ (Value.ref (mm_n h)) :: r, mm_okv (mm_n (mm_nw h n.toNatClampNeg (.inr (0, n.toNatClampNeg)))) v := mm_o1 (Nat.lt_succ_self _) (fun v hv => (mm_tl hok v hv).up (Nat.le_succ _))
      obtain ⟨F, w⟩ := hK _ _ _ _ hr hw' hoL' hoo
      have F1 := F.2.1
      have F2 := F.2.2.1
      rw [hnn] at F1
      rw [hzz] at F2
      refine ⟨⟨F.1, by omega, by omega, F.2.2.2⟩, fun H locs ad ls P => ?_⟩
      have hn0 := P.2.2.2.2.2.2.2.1
      have hz0 := P.2.2.2.2.2.2.2.2.1
      refine va_newa (ty := .int) (a0 := (n.toNatClampNeg, .inl (fun _ => 0))) hx hb (hts _ (hUs _ hl)) rfl hKk P.1 P.2.1 P.2.2.1 hA (fun cA => rfl) hn.1 rfl (by show n.toNatClampNeg * 4 ≤ 536870912; omega) (by omega) (by omega) hd (fun q cA' H1 hK1 g1 g2 g3 => ?_)
      have hcA : cA' = cA 0 := by
        have q1 := (hK1.2 4 _ rfl).2
        have q2 := (hKk.2 0 _ rfl).2
        exact Option.some.inj ((show s.vm.findClass _ = some cA' from q1).symm.trans (show s.vm.findClass _ = some (cA 0) from q2))
      subst hcA
      have e1 := mm_ws_new (cl := cl) (ft := ft) (cA := cA) (ad := ad) (x := q) (z := n.toNatClampNeg) (sh := .inr (0, n.toNatClampNeg)) (y := .inl (cA 0, n.toNatClampNeg, .inl (fun _ => 0))) hwf (by
        rw [mm_ce_a (show mm_s (mm_nw h n.toNatClampNeg (.inr (0, n.toNatClampNeg))) (mm_n h) = some (.inr (0, n.toNatClampNeg)) from va_up_self _ _ _) (by decide)]
        have e2 : mm_I (mm_nw h n.toNatClampNeg (.inr (0, n.toNatClampNeg))) (mm_n h) = fun _ => 0 := va_up_self _ _ _
        have e3 : mm_Rf (mm_nw h n.toNatClampNeg (.inr (0, n.toNatClampNeg))) (mm_n h) = fun _ => none := va_up_self _ _ _
        rw [e2])
      rw [e1] at g1 g2
      have w1 := w H1 locs (va_up ad (mm_n h) q) ls ⟨g1, g2, g3, hw', hoL', hoo, P.2.2.2.2.2.2.1.up hoL, by omega, by omega, fun k hk => by rw [va_up_ne _ _ (show k ≠ mm_n h by omega)]; exact P.2.2.2.2.2.2.2.2.2 k hk⟩
      rw [List.map_cons, mm_map_up (mm_tl hok), hnn, hzz, show mm_n h + 1 - n0 = mm_n h - n0 + 1 by omega, show mm_z h + n.toNatClampNeg - z0 = mm_z h - z0 + n.toNatClampNeg by omega] at w1
      have e2 : mm_cv (va_up ad (mm_n h) q) (.ref (mm_n h)) = .ref q := congrArg Value.ref (va_up_self _ _ _)
      rw [e2] at w1
      exact w1
    · cases hr
  · cases hr
set_option maxHeartbeats 4000000 in
theorem mm_step_newarray_byte {p : Program} {l : Launch} {e : Env} {R : Room} {s : State} {m : MethodId} {args : Array Value} {below : List Frame} {meth : Method} {c : Code} {Q : State → Prop} {cc : ByteArray} {nL : Nat} {ini : Bool} {rt : Option FieldType} {own host TC : String} {Ts Us Xs : List Cond} {D : va_G} {cl : List vw_C} {ft : Nat → Nat → FieldType} {cA : Nat → ClassId} {A : Nat → Prop} {n0 z0 : Nat} {ad0 : Nat → Nat} {mt : Nat → Option mm_Mi} {E : mm_Ev} {K : mm_Cf → Option mm_Rs} {vv : Option Value} {h' : mm_Hp}
    (X : mm_Cx p s m args meth c cc nL ini rt own TC Ts Us Xs D cl ft cA A)
    (hK : ∀ pc L st h, K (pc, L, st, h) = some (vv, h') → mm_wf h → (∀ v ∈ L, mm_okv (mm_n h) v) → (∀ v ∈ st, mm_okv (mm_n h) v) → mm_Fin vv h h' ∧ ∀ H locs ad ls, mm_Pre s D cl ft cA A nL n0 z0 ad0 L st h H locs ad ls → W p l e R s m args below meth c H locs (mm_n h - n0) (mm_z h - z0) Q (F0 m pc ls (st.map (mm_cv ad))))
    (hR : mm_n h' - n0 ≤ R.cells ∧ mm_z h' - z0 ≤ R.slots) {pc : Nat} {L st : List Value} {h : mm_Hp} {a b c' : Nat} {v : Int32} {q : List (Int32 × Nat)} (hck : mm_ck own host TC cc nL ini rt Us Xs cl ft mt pc (.newarray .byte) a b c' v q = true) (hr : mm_ex E K pc L st h (.newarray .byte) a b c' v q = some (vv, h')) (hwf : mm_wf h) (hoL : ∀ v ∈ L, mm_okv (mm_n h) v) (hok : ∀ v ∈ st, mm_okv (mm_n h) v) :
    mm_Fin vv h h' ∧ ∀ H locs ad ls, mm_Pre s D cl ft cA A nL n0 z0 ad0 L st h H locs ad ls → W p l e R s m args below meth c H locs (mm_n h - n0) (mm_z h - z0) Q (F0 m pc ls (st.map (mm_cv ad))) := by
  obtain ⟨hx, hb, hml, hown, hts, hKk, hA, hCl, hUs, hini, hrt, hlk, hXs⟩ := X
  simp only [mm_ck, Bool.and_eq_true, decide_eq_true_eq] at hck
  obtain ⟨⟨hd, hat⟩, hl⟩ := hck
  have ha : a = 1 := by
    rcases hat with ⟨e1, e2⟩ | ⟨e1, e2⟩ | ⟨e1, e2⟩ <;> first | exact e2 | cases e1
  subst ha
  simp only [mm_ex] at hr
  split at hr
  · rename_i n r
    unfold mm_na at hr
    split at hr
    · rename_i hn
      have hr : K (pc + 2, L, .ref (mm_n h) :: r, mm_nw h n.toNatClampNeg (.inr (1, n.toNatClampNeg))) = some (vv, h') := hr
      have hw' : mm_wf (mm_nw h n.toNatClampNeg (.inr (1, n.toNatClampNeg))) := mm_nw_wf hwf (fun t n e => by cases e; decide)
      have hnn : mm_n (mm_nw h n.toNatClampNeg (.inr (1, n.toNatClampNeg))) = mm_n h + 1 := rfl
      have hzz : mm_z (mm_nw h n.toNatClampNeg (.inr (1, n.toNatClampNeg))) = mm_z h + n.toNatClampNeg := rfl
      have hoL' : ∀ v ∈ L, mm_okv (mm_n (mm_nw h n.toNatClampNeg (.inr (1, n.toNatClampNeg)))) v := fun v hv => (hoL v hv).up (Nat.le_succ _)
      have hoo : ∀ v ∈ (Value.ref (mm_n h)) :: r, mm_okv (mm_n (mm_nw h n.toNatClampNeg (.inr (1, n.toNatClampNeg)))) v := mm_o1 (Nat.lt_succ_self _) (fun v hv => (mm_tl hok v hv).up (Nat.le_succ _))
      obtain ⟨F, w⟩ := hK _ _ _ _ hr hw' hoL' hoo
      have F1 := F.2.1
      have F2 := F.2.2.1
      rw [hnn] at F1
      rw [hzz] at F2
      refine ⟨⟨F.1, by omega, by omega, F.2.2.2⟩, fun H locs ad ls P => ?_⟩
      have hn0 := P.2.2.2.2.2.2.2.1
      have hz0 := P.2.2.2.2.2.2.2.2.1
      refine va_newa (ty := .byte) (a0 := (n.toNatClampNeg, .inl (fun _ => 0))) hx hb (hts _ (hUs _ hl)) rfl hKk P.1 P.2.1 P.2.2.1 hA (fun cA => rfl) hn.1 rfl (by show n.toNatClampNeg * 1 ≤ 536870912; omega) (by omega) (by omega) hd (fun q cA' H1 hK1 g1 g2 g3 => ?_)
      have hcA : cA' = cA 1 := by
        have q1 := (hK1.2 4 _ rfl).2
        have q2 := (hKk.2 1 _ rfl).2
        exact Option.some.inj ((show s.vm.findClass _ = some cA' from q1).symm.trans (show s.vm.findClass _ = some (cA 1) from q2))
      subst hcA
      have e1 := mm_ws_new (cl := cl) (ft := ft) (cA := cA) (ad := ad) (x := q) (z := n.toNatClampNeg) (sh := .inr (1, n.toNatClampNeg)) (y := .inl (cA 1, n.toNatClampNeg, .inl (fun _ => 0))) hwf (by
        rw [mm_ce_a (show mm_s (mm_nw h n.toNatClampNeg (.inr (1, n.toNatClampNeg))) (mm_n h) = some (.inr (1, n.toNatClampNeg)) from va_up_self _ _ _) (by decide)]
        have e2 : mm_I (mm_nw h n.toNatClampNeg (.inr (1, n.toNatClampNeg))) (mm_n h) = fun _ => 0 := va_up_self _ _ _
        have e3 : mm_Rf (mm_nw h n.toNatClampNeg (.inr (1, n.toNatClampNeg))) (mm_n h) = fun _ => none := va_up_self _ _ _
        rw [e2])
      rw [e1] at g1 g2
      have w1 := w H1 locs (va_up ad (mm_n h) q) ls ⟨g1, g2, g3, hw', hoL', hoo, P.2.2.2.2.2.2.1.up hoL, by omega, by omega, fun k hk => by rw [va_up_ne _ _ (show k ≠ mm_n h by omega)]; exact P.2.2.2.2.2.2.2.2.2 k hk⟩
      rw [List.map_cons, mm_map_up (mm_tl hok), hnn, hzz, show mm_n h + 1 - n0 = mm_n h - n0 + 1 by omega, show mm_z h + n.toNatClampNeg - z0 = mm_z h - z0 + n.toNatClampNeg by omega] at w1
      have e2 : mm_cv (va_up ad (mm_n h) q) (.ref (mm_n h)) = .ref q := congrArg Value.ref (va_up_self _ _ _)
      rw [e2] at w1
      exact w1
    · cases hr
  · cases hr
set_option maxHeartbeats 4000000 in
theorem mm_step_newarray_boolean {p : Program} {l : Launch} {e : Env} {R : Room} {s : State} {m : MethodId} {args : Array Value} {below : List Frame} {meth : Method} {c : Code} {Q : State → Prop} {cc : ByteArray} {nL : Nat} {ini : Bool} {rt : Option FieldType} {own host TC : String} {Ts Us Xs : List Cond} {D : va_G} {cl : List vw_C} {ft : Nat → Nat → FieldType} {cA : Nat → ClassId} {A : Nat → Prop} {n0 z0 : Nat} {ad0 : Nat → Nat} {mt : Nat → Option mm_Mi} {E : mm_Ev} {K : mm_Cf → Option mm_Rs} {vv : Option Value} {h' : mm_Hp}
    (X : mm_Cx p s m args meth c cc nL ini rt own TC Ts Us Xs D cl ft cA A)
    (hK : ∀ pc L st h, K (pc, L, st, h) = some (vv, h') → mm_wf h → (∀ v ∈ L, mm_okv (mm_n h) v) → (∀ v ∈ st, mm_okv (mm_n h) v) → mm_Fin vv h h' ∧ ∀ H locs ad ls, mm_Pre s D cl ft cA A nL n0 z0 ad0 L st h H locs ad ls → W p l e R s m args below meth c H locs (mm_n h - n0) (mm_z h - z0) Q (F0 m pc ls (st.map (mm_cv ad))))
    (hR : mm_n h' - n0 ≤ R.cells ∧ mm_z h' - z0 ≤ R.slots) {pc : Nat} {L st : List Value} {h : mm_Hp} {a b c' : Nat} {v : Int32} {q : List (Int32 × Nat)} (hck : mm_ck own host TC cc nL ini rt Us Xs cl ft mt pc (.newarray .boolean) a b c' v q = true) (hr : mm_ex E K pc L st h (.newarray .boolean) a b c' v q = some (vv, h')) (hwf : mm_wf h) (hoL : ∀ v ∈ L, mm_okv (mm_n h) v) (hok : ∀ v ∈ st, mm_okv (mm_n h) v) :
    mm_Fin vv h h' ∧ ∀ H locs ad ls, mm_Pre s D cl ft cA A nL n0 z0 ad0 L st h H locs ad ls → W p l e R s m args below meth c H locs (mm_n h - n0) (mm_z h - z0) Q (F0 m pc ls (st.map (mm_cv ad))) := by
  obtain ⟨hx, hb, hml, hown, hts, hKk, hA, hCl, hUs, hini, hrt, hlk, hXs⟩ := X
  simp only [mm_ck, Bool.and_eq_true, decide_eq_true_eq] at hck
  obtain ⟨⟨hd, hat⟩, hl⟩ := hck
  have ha : a = 2 := by
    rcases hat with ⟨e1, e2⟩ | ⟨e1, e2⟩ | ⟨e1, e2⟩ <;> first | exact e2 | cases e1
  subst ha
  simp only [mm_ex] at hr
  split at hr
  · rename_i n r
    unfold mm_na at hr
    split at hr
    · rename_i hn
      have hr : K (pc + 2, L, .ref (mm_n h) :: r, mm_nw h n.toNatClampNeg (.inr (2, n.toNatClampNeg))) = some (vv, h') := hr
      have hw' : mm_wf (mm_nw h n.toNatClampNeg (.inr (2, n.toNatClampNeg))) := mm_nw_wf hwf (fun t n e => by cases e; decide)
      have hnn : mm_n (mm_nw h n.toNatClampNeg (.inr (2, n.toNatClampNeg))) = mm_n h + 1 := rfl
      have hzz : mm_z (mm_nw h n.toNatClampNeg (.inr (2, n.toNatClampNeg))) = mm_z h + n.toNatClampNeg := rfl
      have hoL' : ∀ v ∈ L, mm_okv (mm_n (mm_nw h n.toNatClampNeg (.inr (2, n.toNatClampNeg)))) v := fun v hv => (hoL v hv).up (Nat.le_succ _)
      have hoo : ∀ v ∈ (Value.ref (mm_n h)) :: r, mm_okv (mm_n (mm_nw h n.toNatClampNeg (.inr (2, n.toNatClampNeg)))) v := mm_o1 (Nat.lt_succ_self _) (fun v hv => (mm_tl hok v hv).up (Nat.le_succ _))
      obtain ⟨F, w⟩ := hK _ _ _ _ hr hw' hoL' hoo
      have F1 := F.2.1
      have F2 := F.2.2.1
      rw [hnn] at F1
      rw [hzz] at F2
      refine ⟨⟨F.1, by omega, by omega, F.2.2.2⟩, fun H locs ad ls P => ?_⟩
      have hn0 := P.2.2.2.2.2.2.2.1
      have hz0 := P.2.2.2.2.2.2.2.2.1
      refine va_newa (ty := .boolean) (a0 := (n.toNatClampNeg, .inl (fun _ => 0))) hx hb (hts _ (hUs _ hl)) rfl hKk P.1 P.2.1 P.2.2.1 hA (fun cA => rfl) hn.1 rfl (by show n.toNatClampNeg * 1 ≤ 536870912; omega) (by omega) (by omega) hd (fun q cA' H1 hK1 g1 g2 g3 => ?_)
      have hcA : cA' = cA 2 := by
        have q1 := (hK1.2 4 _ rfl).2
        have q2 := (hKk.2 2 _ rfl).2
        exact Option.some.inj ((show s.vm.findClass _ = some cA' from q1).symm.trans (show s.vm.findClass _ = some (cA 2) from q2))
      subst hcA
      have e1 := mm_ws_new (cl := cl) (ft := ft) (cA := cA) (ad := ad) (x := q) (z := n.toNatClampNeg) (sh := .inr (2, n.toNatClampNeg)) (y := .inl (cA 2, n.toNatClampNeg, .inl (fun _ => 0))) hwf (by
        rw [mm_ce_a (show mm_s (mm_nw h n.toNatClampNeg (.inr (2, n.toNatClampNeg))) (mm_n h) = some (.inr (2, n.toNatClampNeg)) from va_up_self _ _ _) (by decide)]
        have e2 : mm_I (mm_nw h n.toNatClampNeg (.inr (2, n.toNatClampNeg))) (mm_n h) = fun _ => 0 := va_up_self _ _ _
        have e3 : mm_Rf (mm_nw h n.toNatClampNeg (.inr (2, n.toNatClampNeg))) (mm_n h) = fun _ => none := va_up_self _ _ _
        rw [e2])
      rw [e1] at g1 g2
      have w1 := w H1 locs (va_up ad (mm_n h) q) ls ⟨g1, g2, g3, hw', hoL', hoo, P.2.2.2.2.2.2.1.up hoL, by omega, by omega, fun k hk => by rw [va_up_ne _ _ (show k ≠ mm_n h by omega)]; exact P.2.2.2.2.2.2.2.2.2 k hk⟩
      rw [List.map_cons, mm_map_up (mm_tl hok), hnn, hzz, show mm_n h + 1 - n0 = mm_n h - n0 + 1 by omega, show mm_z h + n.toNatClampNeg - z0 = mm_z h - z0 + n.toNatClampNeg by omega] at w1
      have e2 : mm_cv (va_up ad (mm_n h) q) (.ref (mm_n h)) = .ref q := congrArg Value.ref (va_up_self _ _ _)
      rw [e2] at w1
      exact w1
    · cases hr
  · cases hr
set_option maxHeartbeats 4000000 in
theorem mm_step_anewarray {p : Program} {l : Launch} {e : Env} {R : Room} {s : State} {m : MethodId} {args : Array Value} {below : List Frame} {meth : Method} {c : Code} {Q : State → Prop} {cc : ByteArray} {nL : Nat} {ini : Bool} {rt : Option FieldType} {own host TC : String} {Ts Us Xs : List Cond} {D : va_G} {cl : List vw_C} {ft : Nat → Nat → FieldType} {cA : Nat → ClassId} {A : Nat → Prop} {n0 z0 : Nat} {ad0 : Nat → Nat} {mt : Nat → Option mm_Mi} {E : mm_Ev} {K : mm_Cf → Option mm_Rs} {vv : Option Value} {h' : mm_Hp}
    (X : mm_Cx p s m args meth c cc nL ini rt own TC Ts Us Xs D cl ft cA A)
    (hK : ∀ pc L st h, K (pc, L, st, h) = some (vv, h') → mm_wf h → (∀ v ∈ L, mm_okv (mm_n h) v) → (∀ v ∈ st, mm_okv (mm_n h) v) → mm_Fin vv h h' ∧ ∀ H locs ad ls, mm_Pre s D cl ft cA A nL n0 z0 ad0 L st h H locs ad ls → W p l e R s m args below meth c H locs (mm_n h - n0) (mm_z h - z0) Q (F0 m pc ls (st.map (mm_cv ad))))
    (hR : mm_n h' - n0 ≤ R.cells ∧ mm_z h' - z0 ≤ R.slots) {pc : Nat} {L st : List Value} {h : mm_Hp} {k : Nat} {a b c' : Nat} {v : Int32} {q : List (Int32 × Nat)} (hck : mm_ck own host TC cc nL ini rt Us Xs cl ft mt pc (.anewarray k) a b c' v q = true) (hr : mm_ex E K pc L st h (.anewarray k) a b c' v q = some (vv, h')) (hwf : mm_wf h) (hoL : ∀ v ∈ L, mm_okv (mm_n h) v) (hok : ∀ v ∈ st, mm_okv (mm_n h) v) :
    mm_Fin vv h h' ∧ ∀ H locs ad ls, mm_Pre s D cl ft cA A nL n0 z0 ad0 L st h H locs ad ls → W p l e R s m args below meth c H locs (mm_n h - n0) (mm_z h - z0) Q (F0 m pc ls (st.map (mm_cv ad))) := by
  obtain ⟨hx, hb, hml, hown, hts, hKk, hA, hCl, hUs, hini, hrt, hlk, hXs⟩ := X
  simp only [mm_ck, Bool.and_eq_true, decide_eq_true_eq] at hck
  obtain ⟨⟨hd, hl1⟩, hl2⟩ := hck
  simp only [mm_ex] at hr
  split at hr
  · rename_i n r
    unfold mm_na at hr
    split at hr
    · rename_i hn
      have hr : K (pc + 3, L, .ref (mm_n h) :: r, mm_nw h n.toNatClampNeg (.inr (3, n.toNatClampNeg))) = some (vv, h') := hr
      have hw' : mm_wf (mm_nw h n.toNatClampNeg (.inr (3, n.toNatClampNeg))) := mm_nw_wf hwf (fun t n e => by cases e; decide)
      have hnn : mm_n (mm_nw h n.toNatClampNeg (.inr (3, n.toNatClampNeg))) = mm_n h + 1 := rfl
      have hzz : mm_z (mm_nw h n.toNatClampNeg (.inr (3, n.toNatClampNeg))) = mm_z h + n.toNatClampNeg := rfl
      have hoL' : ∀ v ∈ L, mm_okv (mm_n (mm_nw h n.toNatClampNeg (.inr (3, n.toNatClampNeg)))) v := fun v hv => (hoL v hv).up (Nat.le_succ _)
      have hoo : ∀ v ∈ (Value.ref (mm_n h)) :: r, mm_okv (mm_n (mm_nw h n.toNatClampNeg (.inr (3, n.toNatClampNeg)))) v := mm_o1 (Nat.lt_succ_self _) (fun v hv => (mm_tl hok v hv).up (Nat.le_succ _))
      obtain ⟨F, w⟩ := hK _ _ _ _ hr hw' hoL' hoo
      have F1 := F.2.1
      have F2 := F.2.2.1
      rw [hnn] at F1
      rw [hzz] at F2
      refine ⟨⟨F.1, by omega, by omega, F.2.2.2⟩, fun H locs ad ls P => ?_⟩
      have hn0 := P.2.2.2.2.2.2.2.1
      have hz0 := P.2.2.2.2.2.2.2.2.1
      refine va_newq (C := TC) hx hb hown (hts _ (hUs _ hl1)) (hXs _ hl2) hKk P.1 P.2.1 P.2.2.1 hA hn.1 rfl (by omega) (by omega) (by omega) hd (fun q cA' H1 hK1 g1 g2 g3 => ?_)
      have hcA : cA' = cA 3 := by
        have q1 := (hK1.2 4 _ rfl).2
        have q2 := (hKk.2 3 _ rfl).2
        obtain ⟨_, _, _, _, _, f1⟩ := q1
        obtain ⟨_, _, _, _, _, f2⟩ := q2
        exact Option.some.inj (f1.symm.trans f2)
      subst hcA
      have e1 := mm_ws_new (cl := cl) (ft := ft) (cA := cA) (ad := ad) (x := q) (z := n.toNatClampNeg) (sh := .inr (3, n.toNatClampNeg)) (y := .inl (cA 3, n.toNatClampNeg, .inr (.inr (.inr (.inr (fun _ => none)))))) hwf (by
        rw [mm_ce_q (show mm_s (mm_nw h n.toNatClampNeg (.inr (3, n.toNatClampNeg))) (mm_n h) = some (.inr (3, n.toNatClampNeg)) from va_up_self _ _ _)]
        have e2 : mm_I (mm_nw h n.toNatClampNeg (.inr (3, n.toNatClampNeg))) (mm_n h) = fun _ => 0 := va_up_self _ _ _
        have e3 : mm_Rf (mm_nw h n.toNatClampNeg (.inr (3, n.toNatClampNeg))) (mm_n h) = fun _ => none := va_up_self _ _ _
        rw [e3]; rfl)
      rw [e1] at g1 g2
      have w1 := w H1 locs (va_up ad (mm_n h) q) ls ⟨g1, g2, g3, hw', hoL', hoo, P.2.2.2.2.2.2.1.up hoL, by omega, by omega, fun k hk => by rw [va_up_ne _ _ (show k ≠ mm_n h by omega)]; exact P.2.2.2.2.2.2.2.2.2 k hk⟩
      rw [List.map_cons, mm_map_up (mm_tl hok), hnn, hzz, show mm_n h + 1 - n0 = mm_n h - n0 + 1 by omega, show mm_z h + n.toNatClampNeg - z0 = mm_z h - z0 + n.toNatClampNeg by omega] at w1
      have e2 : mm_cv (va_up ad (mm_n h) q) (.ref (mm_n h)) = .ref q := congrArg Value.ref (va_up_self _ _ _)
      rw [e2] at w1
      exact w1
    · cases hr
  · cases hr
set_option maxHeartbeats 4000000 in
theorem mm_step_invokevirtual {p : Program} {l : Launch} {e : Env} {R : Room} {s : State} {m : MethodId} {args : Array Value} {below : List Frame} {meth : Method} {c : Code} {Q : State → Prop} {cc : ByteArray} {nL : Nat} {ini : Bool} {rt : Option FieldType} {own host TC : String} {Ts Us Xs : List Cond} {D : va_G} {cl : List vw_C} {ft : Nat → Nat → FieldType} {cA : Nat → ClassId} {A : Nat → Prop} {n0 z0 : Nat} {ad0 : Nat → Nat} {mt : Nat → Option mm_Mi} {E : mm_Ev} {K : mm_Cf → Option mm_Rs} {vv : Option Value} {h' : mm_Hp}
    (X : mm_Cx p s m args meth c cc nL ini rt own TC Ts Us Xs D cl ft cA A)
    (hK : ∀ pc L st h, K (pc, L, st, h) = some (vv, h') → mm_wf h → (∀ v ∈ L, mm_okv (mm_n h) v) → (∀ v ∈ st, mm_okv (mm_n h) v) → mm_Fin vv h h' ∧ ∀ H locs ad ls, mm_Pre s D cl ft cA A nL n0 z0 ad0 L st h H locs ad ls → W p l e R s m args below meth c H locs (mm_n h - n0) (mm_z h - z0) Q (F0 m pc ls (st.map (mm_cv ad))))
    {d : Nat} (hR : mm_n h' - n0 ≤ R.cells ∧ mm_z h' - z0 ≤ R.slots) (hRd : d + 1 ≤ R.frames ∧ (d + 1) * 40 ≤ R.locals) (hG : ∀ w ∈ Ts, goodWord w = true) (hMo : ∀ y q, mt y = some q → mm_Mo Ts y q) (hE : mm_Calls l D cl ft cA TC Ts Xs mt d E) (hXk : mm_Xk Xs) {pc : Nat} {L st : List Value} {h : mm_Hp} {k : Nat} {a b c' : Nat} {v : Int32} {q : List (Int32 × Nat)} (hck : mm_ck own host TC cc nL ini rt Us Xs cl ft mt pc (.invokevirtual k) a b c' v q = true) (hr : mm_ex E K pc L st h (.invokevirtual k) a b c' v q = some (vv, h')) (hwf : mm_wf h) (hoL : ∀ v ∈ L, mm_okv (mm_n h) v) (hok : ∀ v ∈ st, mm_okv (mm_n h) v) :
    mm_Fin vv h h' ∧ ∀ H locs ad ls, mm_Pre s D cl ft cA A nL n0 z0 ad0 L st h H locs ad ls → W p l e R s m args below meth c H locs (mm_n h - n0) (mm_z h - z0) Q (F0 m pc ls (st.map (mm_cv ad))) := by
  obtain ⟨hx, hb, hml, hown, hts, hKk, hA, hCl, hUs, hini, hrt, hlk, hXs⟩ := X
  simp only [mm_ck] at hck
  split at hck
  · rename_i q1 r0 hq1 hr0
    simp only [Bool.and_eq_true, decide_eq_true_eq] at hck
    obtain ⟨⟨⟨⟨hd, hcls⟩, hna⟩, hkd⟩, hl⟩ := hck
    have hmo := hMo a q1 hq1
    simp only [mm_ex] at hr
    split at hr
    · rename_i as r hpop
      split at hr
      · rename_i hble
        obtain ⟨hal, hst⟩ := mm_pop_0 hpop
        unfold mm_iv at hr
        split at hr
        · rename_i q0 As
          split at hr
          · rename_i hs
            obtain ⟨⟨v1, h1⟩, hE1, hr⟩ := Option.bind_eq_some_iff.mp hr
            have hoa : ∀ x ∈ Value.ref q0 :: As, mm_okv (mm_n h) x := fun x hx => hok x (by rw [hst]; exact List.mem_append_left _ (List.mem_reverse.mpr hx))
            have hE2 := hE a _ h v1 h1 hE1 hwf hoa q1 hq1 (by rw [hal, hna])
            have F1 := hE2.1
            have hnn := F1.2.1
            have hzz := F1.2.2.1
            have hoL' : ∀ x ∈ L, mm_okv (mm_n h1) x := fun x hx => (hoL x hx).up hnn
            have hoo : ∀ x ∈ v1.toList ++ r, mm_okv (mm_n h1) x := fun x hx => by
              rcases List.mem_append.mp hx with g | g
              · exact F1.2.2.2 x (by cases v1 <;> simp at g ⊢; exact g.symm)
              · exact (hok x (by rw [hst]; exact List.mem_append_right _ g)).up hnn
            obtain ⟨F, w⟩ := hK _ _ _ _ hr F1.1 hoL' hoo
            refine ⟨⟨F.1, Nat.le_trans hnn F.2.1, Nat.le_trans hzz F.2.2.1, F.2.2.2⟩, fun H locs ad ls P => ?_⟩
            have F2 : mm_n h1 ≤ mm_n h' := F.2.1
            have F3 : mm_z h1 ≤ mm_z h' := F.2.2.1
            have hn0 := P.2.2.2.2.2.2.2.1
            have hz0 := P.2.2.2.2.2.2.2.2.1
            have hor : ∀ x ∈ r, mm_okv (mm_n h) x := fun x hx => hok x (by rw [hst]; exact List.mem_append_right _ hx)
            have hcat : 2 * (F0 m pc ls (st.map (mm_cv ad))).monitorRoom + ((r.map (mm_cv ad)).map fun v => v.category).sum ≤ 8 := by
              refine lv_room ?_
              have e : ∀ (rr : List Value), (∀ x ∈ rr, mm_okv (mm_n h) x) → ((rr.map (mm_cv ad)).map fun v => v.category).sum = rr.length := by
                intro rr
                induction rr with
                | nil => intro _; rfl
                | cons x t ih =>
                  intro hx
                  rw [List.map_cons, List.map_cons, List.sum_cons, ih (mm_tl hx), mm_cv_cat ad (mm_hd hx), List.length_cons]
                  omega
              rw [e r hor]
              exact Nat.le_of_ble_eq_true hble
            have hFq := mm_free P.2.1 P.2.2.1 hA
            have hM := (hE2.2 ad H.size)
            have kk : ∀ ad' H1 locs1, (∀ k, k < mm_n h → ad' k = ad k) → va_P D cl (mm_ws cl ft cA ad' h1) H1 → va_D A (mm_ws cl ft cA ad' h1) → va_S A s.heap H1 locs1 → W p l e R s m args below meth c H1 locs1 (mm_n h - n0 + (mm_n h1 - mm_n h)) (mm_z h - z0 + (mm_z h1 - mm_z h)) Q (F0 m (pc + 3) ls ((v1.map (mm_cv ad')).toList ++ r.map (mm_cv ad))) := by
              intro ad' H1 locs1 ha g1 g2 g3
              have w1 := w H1 locs1 ad' ls ⟨g1, g2, g3, F1.1, hoL', hoo, P.2.2.2.2.2.2.1.ag ha hoL, Nat.le_trans hn0 hnn, Nat.le_trans hz0 hzz, fun k hk => by rw [ha k (Nat.lt_of_lt_of_le hk hn0)]; exact P.2.2.2.2.2.2.2.2.2 k hk⟩
              have e1 : (v1.toList ++ r).map (mm_cv ad') = (v1.map (mm_cv ad')).toList ++ r.map (mm_cv ad) := by
                rw [List.map_append, mm_map_ag ha hor]
                cases v1 <;> rfl
              rw [e1, show mm_n h1 - n0 = mm_n h - n0 + (mm_n h1 - mm_n h) by omega, show mm_z h1 - z0 = mm_z h - z0 + (mm_z h1 - mm_z h) by omega] at w1
              exact w1
            have hroom : (mm_rmd d (mm_n h1 - mm_n h) (mm_z h1 - mm_z h)).frames + 1 ≤ R.frames ∧ 8 + (q1.2.2.1 + 11) + (mm_rmd d (mm_n h1 - mm_n h) (mm_z h1 - mm_z h)).locals ≤ R.locals := by
              refine ⟨hRd.1, ?_⟩
              have g1 := hmo.2.2.1
              have g2 := hRd.2
              show 8 + (q1.2.2.1 + 11) + d * 40 ≤ R.locals
              omega
            have hPU : ∀ U : State, U.heap = H → s.WarmedH U.vm → mm_Pc Xs D cl ft cA TC ad H.size (Value.ref q0 :: As) h (((Value.ref q0 :: As).map (mm_cv ad)).toArray) U := fun U hU hW => ⟨rfl, by rw [hU], by rw [hU]; exact P.1, va_K.moved hW.alike hKk, P.2.1.weaken (fun _ _ _ _ => trivial), hXs.moved hXk hW⟩
            have he := mm_ws_get (cl := cl) (ft := ft) (cA := cA) (ad := ad) (hwf.lt hs)
            rw [mm_ce_o hs] at he
            have hpar : (parseMethodDescriptor q1.1.desc).map (fun d => d.parameters.length) = some As.length := by
              have g := hmo.2.2.2.1
              rw [hkd, hna] at g
              cases hpd : parseMethodDescriptor q1.1.desc with
              | none => rw [hpd] at g; cases g
              | some sg =>
                rw [hpd] at g
                have g : sg.parameters.length + 1 = b := Option.some.inj g
                have g2 : As.length + 1 = b := by rw [← hal]; rfl
                exact congrArg some (show sg.parameters.length = As.length by omega)
            have hgi : GoodIn Ts (wsV own k r0.1 q1.1 (mm_wsm Ts q1)) := by
              unfold wsV
              refine mm_goodIn hG hmo.1 (fun w hw => ?_)
              simp only [List.mem_cons, List.not_mem_nil, or_false] at hw
              rcases hw with rfl | rfl | rfl | rfl
              · exact hUs _ hl
              · exact hmo.2.2.2.2.2.1 (by rw [hkd]; decide)
              · rw [← hcls]; exact hmo.2.2.2.2.2.2.1 hkd
              · exact (hCl _ _ hr0).2.2.2.2.2.2
            refine mm_call (va_runV (As := As.map (mm_cv ad)) (b := ad q0) (rest := r.map (mm_cv ad)) (n := As.length) ⟨hx, hb, hml, hown, hts⟩ hM (cwV As.length hts hgi rfl rfl rfl ⟨hcls, hmo.2.1.1, hmo.2.1.2, hpar⟩ hroom) ⟨mm_Pc_blind hXk, va_recv hKk P.1 hr0 he, hPU⟩ rfl (by simp) P.2.2.2.2.2.2.1.1 (by rw [hst]; simp [mm_cv]) hcat hd ⟨by omega, by omega⟩) P.2.2.1 hFq kk
          · cases hr
        · cases hr
      · cases hr
    · cases hr
  · cases hck
set_option maxHeartbeats 4000000 in
theorem mm_step_invokespecial_o {p : Program} {l : Launch} {e : Env} {R : Room} {s : State} {m : MethodId} {args : Array Value} {below : List Frame} {meth : Method} {c : Code} {Q : State → Prop} {cc : ByteArray} {nL : Nat} {ini : Bool} {rt : Option FieldType} {own host TC : String} {Ts Us Xs : List Cond} {D : va_G} {cl : List vw_C} {ft : Nat → Nat → FieldType} {cA : Nat → ClassId} {A : Nat → Prop} {n0 z0 : Nat} {ad0 : Nat → Nat} {mt : Nat → Option mm_Mi} {E : mm_Ev} {K : mm_Cf → Option mm_Rs} {vv : Option Value} {h' : mm_Hp}
    (X : mm_Cx p s m args meth c cc nL ini rt own TC Ts Us Xs D cl ft cA A)
    (hK : ∀ pc L st h, K (pc, L, st, h) = some (vv, h') → mm_wf h → (∀ v ∈ L, mm_okv (mm_n h) v) → (∀ v ∈ st, mm_okv (mm_n h) v) → mm_Fin vv h h' ∧ ∀ H locs ad ls, mm_Pre s D cl ft cA A nL n0 z0 ad0 L st h H locs ad ls → W p l e R s m args below meth c H locs (mm_n h - n0) (mm_z h - z0) Q (F0 m pc ls (st.map (mm_cv ad))))
    {d : Nat} (hR : mm_n h' - n0 ≤ R.cells ∧ mm_z h' - z0 ≤ R.slots) (hRd : d + 1 ≤ R.frames ∧ (d + 1) * 40 ≤ R.locals) (hG : ∀ w ∈ Ts, goodWord w = true) (hMo : ∀ y q, mt y = some q → mm_Mo Ts y q) (hE : mm_Calls l D cl ft cA TC Ts Xs mt d E) (hXk : mm_Xk Xs) {c' : Nat} (hc3 : c' = 3) (hOb : Cond.instanceMethod objectInit ∈ Ts ∧ Cond.code objectInit ⟨#[0xb1]⟩ 1 none ∈ Ts) {pc : Nat} {L st : List Value} {h : mm_Hp} {k : Nat} {a b : Nat} {v : Int32} {q : List (Int32 × Nat)} (hck : mm_ck own host TC cc nL ini rt Us Xs cl ft mt pc (.invokespecial k) a b c' v q = true) (hr : mm_ex E K pc L st h (.invokespecial k) a b c' v q = some (vv, h')) (hwf : mm_wf h) (hoL : ∀ v ∈ L, mm_okv (mm_n h) v) (hok : ∀ v ∈ st, mm_okv (mm_n h) v) :
    mm_Fin vv h h' ∧ ∀ H locs ad ls, mm_Pre s D cl ft cA A nL n0 z0 ad0 L st h H locs ad ls → W p l e R s m args below meth c H locs (mm_n h - n0) (mm_z h - z0) Q (F0 m pc ls (st.map (mm_cv ad))) := by
  obtain ⟨hx, hb, hml, hown, hts, hKk, hA, hCl, hUs, hini, hrt, hlk, hXs⟩ := X
  subst hc3
  simp only [mm_ck, Bool.and_eq_true, decide_eq_true_eq] at hck
  obtain ⟨⟨hd, hl⟩, hin⟩ := hck
  simp only [mm_ex] at hr
  split at hr
  · rename_i q0 r
    split at hr
    · rename_i hble
      obtain ⟨F, w⟩ := hK _ _ _ _ hr hwf hoL (mm_tl hok)
      refine ⟨F, fun H locs ad ls P => ?_⟩
      have h8 : r.length ≤ 8 := Nat.le_of_ble_eq_true hble
      refine W.objInit hx hb hown (hts _ (hUs _ hl)) (hts _ (hUs _ hin)) (hts _ hOb.2) rfl (by rw [hml]; exact P.2.2.2.2.2.2.1.1) rfl hd (by omega) ?_ (w _ _ _ _ (P.stk (mm_tl hok)))
      show 2 * 0 + ((r.map (mm_cv ad)).map fun v => v.category).sum + 12 ≤ R.locals
      rw [mm_cats ad (mm_tl hok)]
      omega
    · cases hr
  · cases hr
set_option maxHeartbeats 4000000 in
theorem mm_step_math_max {p : Program} {l : Launch} {e : Env} {R : Room} {s : State} {m : MethodId} {args : Array Value} {below : List Frame} {meth : Method} {c : Code} {Q : State → Prop} {cc : ByteArray} {nL : Nat} {ini : Bool} {rt : Option FieldType} {own host TC : String} {Ts Us Xs : List Cond} {D : va_G} {cl : List vw_C} {ft : Nat → Nat → FieldType} {cA : Nat → ClassId} {A : Nat → Prop} {n0 z0 : Nat} {ad0 : Nat → Nat} {mt : Nat → Option mm_Mi} {E : mm_Ev} {K : mm_Cf → Option mm_Rs} {vv : Option Value} {h' : mm_Hp}
    (X : mm_Cx p s m args meth c cc nL ini rt own TC Ts Us Xs D cl ft cA A)
    (hK : ∀ pc L st h, K (pc, L, st, h) = some (vv, h') → mm_wf h → (∀ v ∈ L, mm_okv (mm_n h) v) → (∀ v ∈ st, mm_okv (mm_n h) v) → mm_Fin vv h h' ∧ ∀ H locs ad ls, mm_Pre s D cl ft cA A nL n0 z0 ad0 L st h H locs ad ls → W p l e R s m args below meth c H locs (mm_n h - n0) (mm_z h - z0) Q (F0 m pc ls (st.map (mm_cv ad))))
    {d : Nat} (hR : mm_n h' - n0 ≤ R.cells ∧ mm_z h' - z0 ≤ R.slots) (hRd : d + 1 ≤ R.frames ∧ (d + 1) * 40 ≤ R.locals) (hG : ∀ w ∈ Ts, goodWord w = true) (hMo : ∀ y q, mt y = some q → mm_Mo Ts y q) (hE : mm_Calls l D cl ft cA TC Ts Xs mt d E) (hXk : mm_Xk Xs) {c' : Nat} (hc1 : c' = 4) (hMm : Cond.code Lib.Math.max.name Lib.Math.max.code 2 (some .int) ∈ Ts) {pc : Nat} {L st : List Value} {h : mm_Hp} {k : Nat} {a b : Nat} {v : Int32} {q : List (Int32 × Nat)} (hck : mm_ck own host TC cc nL ini rt Us Xs cl ft mt pc (.invokestatic k) a b c' v q = true) (hr : mm_ex E K pc L st h (.invokestatic k) a b c' v q = some (vv, h')) (hwf : mm_wf h) (hoL : ∀ v ∈ L, mm_okv (mm_n h) v) (hok : ∀ v ∈ st, mm_okv (mm_n h) v) :
    mm_Fin vv h h' ∧ ∀ H locs ad ls, mm_Pre s D cl ft cA A nL n0 z0 ad0 L st h H locs ad ls → W p l e R s m args below meth c H locs (mm_n h - n0) (mm_z h - z0) Q (F0 m pc ls (st.map (mm_cv ad))) := by
  obtain ⟨hx, hb, hml, hown, hts, hKk, hA, hCl, hUs, hini, hrt, hlk, hXs⟩ := X
  subst hc1
  simp only [mm_ck, Bool.and_eq_true, decide_eq_true_eq] at hck
  obtain ⟨⟨⟨hd, hl⟩, hstt⟩, hini2⟩ := hck
  simp only [mm_ex] at hr
  split at hr
  · rename_i y x r
    split at hr
    · rename_i hble
      have hor := mm_tl (mm_tl hok)
      have hoo := mm_o1 (x := Value.int (if x < y then y else x)) trivial hor
      obtain ⟨F, w⟩ := hK _ _ _ _ hr hwf hoL hoo
      refine ⟨F, fun H locs ad ls P => ?_⟩
      have h8 : r.length ≤ 8 := Nat.le_of_ble_eq_true hble
      have F1 := F.2.1
      have F2 := F.2.2.1
      refine va_mmax hx hb (by rw [hml]; exact P.2.2.2.2.2.2.1.1.symm) hown (hts _ (hUs _ hl)) (hts _ (hUs _ hstt)) (hts _ (hUs _ hini2)) (hts _ hMm) (by omega) ?_ (by omega) (by omega) hd (w _ _ _ _ (P.stk hoo))
      rw [mm_cats ad hor]
      omega
    · cases hr
  · cases hr
set_option maxHeartbeats 4000000 in
theorem mm_step_math_min {p : Program} {l : Launch} {e : Env} {R : Room} {s : State} {m : MethodId} {args : Array Value} {below : List Frame} {meth : Method} {c : Code} {Q : State → Prop} {cc : ByteArray} {nL : Nat} {ini : Bool} {rt : Option FieldType} {own host TC : String} {Ts Us Xs : List Cond} {D : va_G} {cl : List vw_C} {ft : Nat → Nat → FieldType} {cA : Nat → ClassId} {A : Nat → Prop} {n0 z0 : Nat} {ad0 : Nat → Nat} {mt : Nat → Option mm_Mi} {E : mm_Ev} {K : mm_Cf → Option mm_Rs} {vv : Option Value} {h' : mm_Hp}
    (X : mm_Cx p s m args meth c cc nL ini rt own TC Ts Us Xs D cl ft cA A)
    (hK : ∀ pc L st h, K (pc, L, st, h) = some (vv, h') → mm_wf h → (∀ v ∈ L, mm_okv (mm_n h) v) → (∀ v ∈ st, mm_okv (mm_n h) v) → mm_Fin vv h h' ∧ ∀ H locs ad ls, mm_Pre s D cl ft cA A nL n0 z0 ad0 L st h H locs ad ls → W p l e R s m args below meth c H locs (mm_n h - n0) (mm_z h - z0) Q (F0 m pc ls (st.map (mm_cv ad))))
    {d : Nat} (hR : mm_n h' - n0 ≤ R.cells ∧ mm_z h' - z0 ≤ R.slots) (hRd : d + 1 ≤ R.frames ∧ (d + 1) * 40 ≤ R.locals) (hG : ∀ w ∈ Ts, goodWord w = true) (hMo : ∀ y q, mt y = some q → mm_Mo Ts y q) (hE : mm_Calls l D cl ft cA TC Ts Xs mt d E) (hXk : mm_Xk Xs) {c' : Nat} (hc1 : c' = 5) (hMm : Cond.code Lib.Math.min.name Lib.Math.min.code 2 (some .int) ∈ Ts) {pc : Nat} {L st : List Value} {h : mm_Hp} {k : Nat} {a b : Nat} {v : Int32} {q : List (Int32 × Nat)} (hck : mm_ck own host TC cc nL ini rt Us Xs cl ft mt pc (.invokestatic k) a b c' v q = true) (hr : mm_ex E K pc L st h (.invokestatic k) a b c' v q = some (vv, h')) (hwf : mm_wf h) (hoL : ∀ v ∈ L, mm_okv (mm_n h) v) (hok : ∀ v ∈ st, mm_okv (mm_n h) v) :
    mm_Fin vv h h' ∧ ∀ H locs ad ls, mm_Pre s D cl ft cA A nL n0 z0 ad0 L st h H locs ad ls → W p l e R s m args below meth c H locs (mm_n h - n0) (mm_z h - z0) Q (F0 m pc ls (st.map (mm_cv ad))) := by
  obtain ⟨hx, hb, hml, hown, hts, hKk, hA, hCl, hUs, hini, hrt, hlk, hXs⟩ := X
  subst hc1
  simp only [mm_ck, Bool.and_eq_true, decide_eq_true_eq] at hck
  obtain ⟨⟨⟨hd, hl⟩, hstt⟩, hini2⟩ := hck
  simp only [mm_ex] at hr
  split at hr
  · rename_i y x r
    split at hr
    · rename_i hble
      have hor := mm_tl (mm_tl hok)
      have hoo := mm_o1 (x := Value.int (if y < x then y else x)) trivial hor
      obtain ⟨F, w⟩ := hK _ _ _ _ hr hwf hoL hoo
      refine ⟨F, fun H locs ad ls P => ?_⟩
      have h8 : r.length ≤ 8 := Nat.le_of_ble_eq_true hble
      have F1 := F.2.1
      have F2 := F.2.2.1
      refine va_mmin hx hb (by rw [hml]; exact P.2.2.2.2.2.2.1.1.symm) hown (hts _ (hUs _ hl)) (hts _ (hUs _ hstt)) (hts _ (hUs _ hini2)) (hts _ hMm) (by omega) ?_ (by omega) (by omega) hd (w _ _ _ _ (P.stk hoo))
      rw [mm_cats ad hor]
      omega
    · cases hr
  · cases hr
set_option maxHeartbeats 4000000 in
theorem mm_step_invokespecial {p : Program} {l : Launch} {e : Env} {R : Room} {s : State} {m : MethodId} {args : Array Value} {below : List Frame} {meth : Method} {c : Code} {Q : State → Prop} {cc : ByteArray} {nL : Nat} {ini : Bool} {rt : Option FieldType} {own host TC : String} {Ts Us Xs : List Cond} {D : va_G} {cl : List vw_C} {ft : Nat → Nat → FieldType} {cA : Nat → ClassId} {A : Nat → Prop} {n0 z0 : Nat} {ad0 : Nat → Nat} {mt : Nat → Option mm_Mi} {E : mm_Ev} {K : mm_Cf → Option mm_Rs} {vv : Option Value} {h' : mm_Hp}
    (X : mm_Cx p s m args meth c cc nL ini rt own TC Ts Us Xs D cl ft cA A)
    (hK : ∀ pc L st h, K (pc, L, st, h) = some (vv, h') → mm_wf h → (∀ v ∈ L, mm_okv (mm_n h) v) → (∀ v ∈ st, mm_okv (mm_n h) v) → mm_Fin vv h h' ∧ ∀ H locs ad ls, mm_Pre s D cl ft cA A nL n0 z0 ad0 L st h H locs ad ls → W p l e R s m args below meth c H locs (mm_n h - n0) (mm_z h - z0) Q (F0 m pc ls (st.map (mm_cv ad))))
    {d : Nat} (hR : mm_n h' - n0 ≤ R.cells ∧ mm_z h' - z0 ≤ R.slots) (hRd : d + 1 ≤ R.frames ∧ (d + 1) * 40 ≤ R.locals) (hG : ∀ w ∈ Ts, goodWord w = true) (hMo : ∀ y q, mt y = some q → mm_Mo Ts y q) (hE : mm_Calls l D cl ft cA TC Ts Xs mt d E) (hXk : mm_Xk Xs) {c' : Nat} (hc3 : c' ≠ 3) {pc : Nat} {L st : List Value} {h : mm_Hp} {k : Nat} {a b : Nat} {v : Int32} {q : List (Int32 × Nat)} (hck : mm_ck own host TC cc nL ini rt Us Xs cl ft mt pc (.invokespecial k) a b c' v q = true) (hr : mm_ex E K pc L st h (.invokespecial k) a b c' v q = some (vv, h')) (hwf : mm_wf h) (hoL : ∀ v ∈ L, mm_okv (mm_n h) v) (hok : ∀ v ∈ st, mm_okv (mm_n h) v) :
    mm_Fin vv h h' ∧ ∀ H locs ad ls, mm_Pre s D cl ft cA A nL n0 z0 ad0 L st h H locs ad ls → W p l e R s m args below meth c H locs (mm_n h - n0) (mm_z h - z0) Q (F0 m pc ls (st.map (mm_cv ad))) := by
  obtain ⟨hx, hb, hml, hown, hts, hKk, hA, hCl, hUs, hini, hrt, hlk, hXs⟩ := X
  simp only [mm_ck] at hck
  · split at hck
    · rename_i q1 hq1
      simp only [Bool.and_eq_true, decide_eq_true_eq] at hck
      obtain ⟨⟨⟨hd, hna⟩, hkd⟩, hl⟩ := hck
      have hmo := hMo a q1 hq1
      simp only [mm_ex] at hr
      split at hr
      · rename_i as r hpop
        split at hr
        · rename_i hble
          obtain ⟨hal, hst⟩ := mm_pop_0 hpop
          by_cases hc2 : c' = 2
          · rw [if_pos hc2] at hl
            simp only [decide_eq_true_eq] at hl
            unfold mm_ip at hr
            split at hr
            · rename_i q0 As
              obtain ⟨⟨v1, h1⟩, hE1, hr⟩ := Option.bind_eq_some_iff.mp hr
              have hoa : ∀ x ∈ Value.ref q0 :: As, mm_okv (mm_n h) x := fun x hx => hok x (by rw [hst]; exact List.mem_append_left _ (List.mem_reverse.mpr hx))
              have hE2 := hE a _ h v1 h1 hE1 hwf hoa q1 hq1 (by rw [hal, hna])
              have F1 := hE2.1
              have hnn := F1.2.1
              have hzz := F1.2.2.1
              have hoL' : ∀ x ∈ L, mm_okv (mm_n h1) x := fun x hx => (hoL x hx).up hnn
              have hoo : ∀ x ∈ v1.toList ++ r, mm_okv (mm_n h1) x := fun x hx => by
                rcases List.mem_append.mp hx with g | g
                · exact F1.2.2.2 x (by cases v1 <;> simp at g ⊢; exact g.symm)
                · exact (hok x (by rw [hst]; exact List.mem_append_right _ g)).up hnn
              obtain ⟨F, w⟩ := hK _ _ _ _ hr F1.1 hoL' hoo
              refine ⟨⟨F.1, Nat.le_trans hnn F.2.1, Nat.le_trans hzz F.2.2.1, F.2.2.2⟩, fun H locs ad ls P => ?_⟩
              have F2 : mm_n h1 ≤ mm_n h' := F.2.1
              have F3 : mm_z h1 ≤ mm_z h' := F.2.2.1
              have hn0 := P.2.2.2.2.2.2.2.1
              have hz0 := P.2.2.2.2.2.2.2.2.1
              have hor : ∀ x ∈ r, mm_okv (mm_n h) x := fun x hx => hok x (by rw [hst]; exact List.mem_append_right _ hx)
              have hcat : 2 * (F0 m pc ls (st.map (mm_cv ad))).monitorRoom + ((r.map (mm_cv ad)).map fun v => v.category).sum ≤ 8 := by
                refine lv_room ?_
                have e : ∀ (rr : List Value), (∀ x ∈ rr, mm_okv (mm_n h) x) → ((rr.map (mm_cv ad)).map fun v => v.category).sum = rr.length := by
                  intro rr
                  induction rr with
                  | nil => intro _; rfl
                  | cons x t ih =>
                    intro hx
                    rw [List.map_cons, List.map_cons, List.sum_cons, ih (mm_tl hx), mm_cv_cat ad (mm_hd hx), List.length_cons]
                    omega
                rw [e r hor]
                exact Nat.le_of_ble_eq_true hble
              have hFq := mm_free P.2.1 P.2.2.1 hA
              have hM := (hE2.2 ad H.size)
              have kk : ∀ ad' H1 locs1, (∀ k, k < mm_n h → ad' k = ad k) → va_P D cl (mm_ws cl ft cA ad' h1) H1 → va_D A (mm_ws cl ft cA ad' h1) → va_S A s.heap H1 locs1 → W p l e R s m args below meth c H1 locs1 (mm_n h - n0 + (mm_n h1 - mm_n h)) (mm_z h - z0 + (mm_z h1 - mm_z h)) Q (F0 m (pc + 3) ls ((v1.map (mm_cv ad')).toList ++ r.map (mm_cv ad))) := by
                intro ad' H1 locs1 ha g1 g2 g3
                have w1 := w H1 locs1 ad' ls ⟨g1, g2, g3, F1.1, hoL', hoo, P.2.2.2.2.2.2.1.ag ha hoL, Nat.le_trans hn0 hnn, Nat.le_trans hz0 hzz, fun k hk => by rw [ha k (Nat.lt_of_lt_of_le hk hn0)]; exact P.2.2.2.2.2.2.2.2.2 k hk⟩
                have e1 : (v1.toList ++ r).map (mm_cv ad') = (v1.map (mm_cv ad')).toList ++ r.map (mm_cv ad) := by
                  rw [List.map_append, mm_map_ag ha hor]
                  cases v1 <;> rfl
                rw [e1, show mm_n h1 - n0 = mm_n h - n0 + (mm_n h1 - mm_n h) by omega, show mm_z h1 - z0 = mm_z h - z0 + (mm_z h1 - mm_z h) by omega] at w1
                exact w1
              have hroom : (mm_rmd d (mm_n h1 - mm_n h) (mm_z h1 - mm_z h)).frames + 1 ≤ R.frames ∧ 8 + (q1.2.2.1 + 11) + (mm_rmd d (mm_n h1 - mm_n h) (mm_z h1 - mm_z h)).locals ≤ R.locals := by
                refine ⟨hRd.1, ?_⟩
                have g1 := hmo.2.2.1
                have g2 := hRd.2
                show 8 + (q1.2.2.1 + 11) + d * 40 ≤ R.locals
                omega
              have hPU : ∀ U : State, U.heap = H → s.WarmedH U.vm → mm_Pc Xs D cl ft cA TC ad H.size (Value.ref q0 :: As) h (((Value.ref q0 :: As).map (mm_cv ad)).toArray) U := fun U hU hW => ⟨rfl, by rw [hU], by rw [hU]; exact P.1, va_K.moved hW.alike hKk, P.2.1.weaken (fun _ _ _ _ => trivial), hXs.moved hXk hW⟩
              have hpar : (parseMethodDescriptor q1.1.desc).map (fun d => d.parameters.length) = some As.length := by
                have g := hmo.2.2.2.1
                rw [hkd, hna] at g
                cases hpd : parseMethodDescriptor q1.1.desc with
                | none => rw [hpd] at g; cases g
                | some sg =>
                  rw [hpd] at g
                  have g : sg.parameters.length + 1 = b := Option.some.inj g
                  have g2 : As.length + 1 = b := by rw [← hal]; rfl
                  exact congrArg some (show sg.parameters.length = As.length by omega)
              have hnm := hmo.2.2.2.2.2.2.2.2 hkd
              have hin : (Cond.instanceMethod q1.1).before args s = true := hts _ (hmo.2.2.2.2.2.1 (by rw [hkd]; decide))
              have hiz : (Cond.initialized q1.1.cls).before args s = true := hts _ (hmo.2.2.2.2.2.2.2.1)
              have hgi : GoodIn Ts (mm_wsm Ts q1) := mm_goodIn (ws := []) hG hmo.1 (fun w hw => by cases hw)
              have hrn : mm_wsm Ts q1 = Cond.code q1.1 q1.2.1 q1.2.2.1 none :: Ts := by unfold mm_wsm; rw [hnm.2]
              exact mm_call (va_runIN (host := host) (As := As.map (mm_cv ad)) (b := ad q0) (rest := r.map (mm_cv ad)) (n := As.length) ⟨hx, hb, hml, hown, hts⟩ hM ⟨va_cnB As.length hts hgi hrn rfl rfl (hXs _ hl) hiz ⟨hmo.2.1.1, hmo.2.1.2, hpar⟩ hroom, hnm.1, hin⟩ ⟨mm_Pc_blind hXk, hPU⟩ rfl (by simp) P.2.2.2.2.2.2.1.1 (by rw [hst]; simp [mm_cv]) hcat hd ⟨by omega, by omega⟩) P.2.2.1 hFq kk
            · cases hr
          · rw [if_neg hc2] at hl
            simp only [decide_eq_true_eq] at hl
            unfold mm_ip at hr
            split at hr
            · rename_i q0 As
              obtain ⟨⟨v1, h1⟩, hE1, hr⟩ := Option.bind_eq_some_iff.mp hr
              have hoa : ∀ x ∈ Value.ref q0 :: As, mm_okv (mm_n h) x := fun x hx => hok x (by rw [hst]; exact List.mem_append_left _ (List.mem_reverse.mpr hx))
              have hE2 := hE a _ h v1 h1 hE1 hwf hoa q1 hq1 (by rw [hal, hna])
              have F1 := hE2.1
              have hnn := F1.2.1
              have hzz := F1.2.2.1
              have hoL' : ∀ x ∈ L, mm_okv (mm_n h1) x := fun x hx => (hoL x hx).up hnn
              have hoo : ∀ x ∈ v1.toList ++ r, mm_okv (mm_n h1) x := fun x hx => by
                rcases List.mem_append.mp hx with g | g
                · exact F1.2.2.2 x (by cases v1 <;> simp at g ⊢; exact g.symm)
                · exact (hok x (by rw [hst]; exact List.mem_append_right _ g)).up hnn
              obtain ⟨F, w⟩ := hK _ _ _ _ hr F1.1 hoL' hoo
              refine ⟨⟨F.1, Nat.le_trans hnn F.2.1, Nat.le_trans hzz F.2.2.1, F.2.2.2⟩, fun H locs ad ls P => ?_⟩
              have F2 : mm_n h1 ≤ mm_n h' := F.2.1
              have F3 : mm_z h1 ≤ mm_z h' := F.2.2.1
              have hn0 := P.2.2.2.2.2.2.2.1
              have hz0 := P.2.2.2.2.2.2.2.2.1
              have hor : ∀ x ∈ r, mm_okv (mm_n h) x := fun x hx => hok x (by rw [hst]; exact List.mem_append_right _ hx)
              have hcat : 2 * (F0 m pc ls (st.map (mm_cv ad))).monitorRoom + ((r.map (mm_cv ad)).map fun v => v.category).sum ≤ 8 := by
                refine lv_room ?_
                have e : ∀ (rr : List Value), (∀ x ∈ rr, mm_okv (mm_n h) x) → ((rr.map (mm_cv ad)).map fun v => v.category).sum = rr.length := by
                  intro rr
                  induction rr with
                  | nil => intro _; rfl
                  | cons x t ih =>
                    intro hx
                    rw [List.map_cons, List.map_cons, List.sum_cons, ih (mm_tl hx), mm_cv_cat ad (mm_hd hx), List.length_cons]
                    omega
                rw [e r hor]
                exact Nat.le_of_ble_eq_true hble
              have hFq := mm_free P.2.1 P.2.2.1 hA
              have hM := (hE2.2 ad H.size)
              have kk : ∀ ad' H1 locs1, (∀ k, k < mm_n h → ad' k = ad k) → va_P D cl (mm_ws cl ft cA ad' h1) H1 → va_D A (mm_ws cl ft cA ad' h1) → va_S A s.heap H1 locs1 → W p l e R s m args below meth c H1 locs1 (mm_n h - n0 + (mm_n h1 - mm_n h)) (mm_z h - z0 + (mm_z h1 - mm_z h)) Q (F0 m (pc + 3) ls ((v1.map (mm_cv ad')).toList ++ r.map (mm_cv ad))) := by
                intro ad' H1 locs1 ha g1 g2 g3
                have w1 := w H1 locs1 ad' ls ⟨g1, g2, g3, F1.1, hoL', hoo, P.2.2.2.2.2.2.1.ag ha hoL, Nat.le_trans hn0 hnn, Nat.le_trans hz0 hzz, fun k hk => by rw [ha k (Nat.lt_of_lt_of_le hk hn0)]; exact P.2.2.2.2.2.2.2.2.2 k hk⟩
                have e1 : (v1.toList ++ r).map (mm_cv ad') = (v1.map (mm_cv ad')).toList ++ r.map (mm_cv ad) := by
                  rw [List.map_append, mm_map_ag ha hor]
                  cases v1 <;> rfl
                rw [e1, show mm_n h1 - n0 = mm_n h - n0 + (mm_n h1 - mm_n h) by omega, show mm_z h1 - z0 = mm_z h - z0 + (mm_z h1 - mm_z h) by omega] at w1
                exact w1
              have hroom : (mm_rmd d (mm_n h1 - mm_n h) (mm_z h1 - mm_z h)).frames + 1 ≤ R.frames ∧ 8 + (q1.2.2.1 + 11) + (mm_rmd d (mm_n h1 - mm_n h) (mm_z h1 - mm_z h)).locals ≤ R.locals := by
                refine ⟨hRd.1, ?_⟩
                have g1 := hmo.2.2.1
                have g2 := hRd.2
                show 8 + (q1.2.2.1 + 11) + d * 40 ≤ R.locals
                omega
              have hPU : ∀ U : State, U.heap = H → s.WarmedH U.vm → mm_Pc Xs D cl ft cA TC ad H.size (Value.ref q0 :: As) h (((Value.ref q0 :: As).map (mm_cv ad)).toArray) U := fun U hU hW => ⟨rfl, by rw [hU], by rw [hU]; exact P.1, va_K.moved hW.alike hKk, P.2.1.weaken (fun _ _ _ _ => trivial), hXs.moved hXk hW⟩
              have hpar : (parseMethodDescriptor q1.1.desc).map (fun d => d.parameters.length) = some As.length := by
                have g := hmo.2.2.2.1
                rw [hkd, hna] at g
                cases hpd : parseMethodDescriptor q1.1.desc with
                | none => rw [hpd] at g; cases g
                | some sg =>
                  rw [hpd] at g
                  have g : sg.parameters.length + 1 = b := Option.some.inj g
                  have g2 : As.length + 1 = b := by rw [← hal]; rfl
                  exact congrArg some (show sg.parameters.length = As.length by omega)
              have hnm := hmo.2.2.2.2.2.2.2.2 hkd
              have hin : (Cond.instanceMethod q1.1).before args s = true := hts _ (hmo.2.2.2.2.2.1 (by rw [hkd]; decide))
              have hiz : (Cond.initialized q1.1.cls).before args s = true := hts _ (hmo.2.2.2.2.2.2.2.1)
              have hgi : GoodIn Ts (mm_wsm Ts q1) := mm_goodIn (ws := []) hG hmo.1 (fun w hw => by cases hw)
              have hrn : mm_wsm Ts q1 = Cond.code q1.1 q1.2.1 q1.2.2.1 none :: Ts := by unfold mm_wsm; rw [hnm.2]
              exact mm_call (va_runI (As := As.map (mm_cv ad)) (b := ad q0) (rest := r.map (mm_cv ad)) (n := As.length) ⟨hx, hb, hml, hown, hts⟩ hM (cwI As.length hts hgi hrn rfl rfl hiz (hts _ (hUs _ hl)) hin hnm.1 ⟨hmo.2.1.1, hmo.2.1.2, hpar⟩ hroom) ⟨mm_Pc_blind hXk, hPU⟩ rfl (by simp) P.2.2.2.2.2.2.1.1 (by rw [hst]; simp [mm_cv]) hcat hd ⟨by omega, by omega⟩) P.2.2.1 hFq kk
            · cases hr
        · cases hr
      · cases hr
    · cases hck
set_option maxHeartbeats 4000000 in
theorem mm_step_invokestatic {p : Program} {l : Launch} {e : Env} {R : Room} {s : State} {m : MethodId} {args : Array Value} {below : List Frame} {meth : Method} {c : Code} {Q : State → Prop} {cc : ByteArray} {nL : Nat} {ini : Bool} {rt : Option FieldType} {own host TC : String} {Ts Us Xs : List Cond} {D : va_G} {cl : List vw_C} {ft : Nat → Nat → FieldType} {cA : Nat → ClassId} {A : Nat → Prop} {n0 z0 : Nat} {ad0 : Nat → Nat} {mt : Nat → Option mm_Mi} {E : mm_Ev} {K : mm_Cf → Option mm_Rs} {vv : Option Value} {h' : mm_Hp}
    (X : mm_Cx p s m args meth c cc nL ini rt own TC Ts Us Xs D cl ft cA A)
    (hK : ∀ pc L st h, K (pc, L, st, h) = some (vv, h') → mm_wf h → (∀ v ∈ L, mm_okv (mm_n h) v) → (∀ v ∈ st, mm_okv (mm_n h) v) → mm_Fin vv h h' ∧ ∀ H locs ad ls, mm_Pre s D cl ft cA A nL n0 z0 ad0 L st h H locs ad ls → W p l e R s m args below meth c H locs (mm_n h - n0) (mm_z h - z0) Q (F0 m pc ls (st.map (mm_cv ad))))
    {d : Nat} (hR : mm_n h' - n0 ≤ R.cells ∧ mm_z h' - z0 ≤ R.slots) (hRd : d + 1 ≤ R.frames ∧ (d + 1) * 40 ≤ R.locals) (hG : ∀ w ∈ Ts, goodWord w = true) (hMo : ∀ y q, mt y = some q → mm_Mo Ts y q) (hE : mm_Calls l D cl ft cA TC Ts Xs mt d E) (hXk : mm_Xk Xs) {c' : Nat} (hc1 : c' ≠ 1) (hc4 : c' ≠ 4) (hc5 : c' ≠ 5) {pc : Nat} {L st : List Value} {h : mm_Hp} {k : Nat} {a b : Nat} {v : Int32} {q : List (Int32 × Nat)} (hck : mm_ck own host TC cc nL ini rt Us Xs cl ft mt pc (.invokestatic k) a b c' v q = true) (hr : mm_ex E K pc L st h (.invokestatic k) a b c' v q = some (vv, h')) (hwf : mm_wf h) (hoL : ∀ v ∈ L, mm_okv (mm_n h) v) (hok : ∀ v ∈ st, mm_okv (mm_n h) v) :
    mm_Fin vv h h' ∧ ∀ H locs ad ls, mm_Pre s D cl ft cA A nL n0 z0 ad0 L st h H locs ad ls → W p l e R s m args below meth c H locs (mm_n h - n0) (mm_z h - z0) Q (F0 m pc ls (st.map (mm_cv ad))) := by
  obtain ⟨hx, hb, hml, hown, hts, hKk, hA, hCl, hUs, hini, hrt, hlk, hXs⟩ := X
  simp only [mm_ck] at hck
  · split at hck
    · rename_i q1 hq1
      simp only [Bool.and_eq_true, decide_eq_true_eq] at hck
      obtain ⟨⟨⟨hd, hna⟩, hkd⟩, hl⟩ := hck
      have hmo := hMo a q1 hq1
      simp only [mm_ex] at hr
      · split at hr
        · rename_i as r hpop
          split at hr
          · rename_i hble
            obtain ⟨hal, hst⟩ := mm_pop_0 hpop
            by_cases hc2 : c' = 2
            · rw [if_pos hc2] at hl
              simp only [decide_eq_true_eq] at hl
              unfold mm_is at hr
              obtain ⟨⟨v1, h1⟩, hE1, hr⟩ := Option.bind_eq_some_iff.mp hr
              have hoa : ∀ x ∈ as, mm_okv (mm_n h) x := fun x hx => hok x (by rw [hst]; exact List.mem_append_left _ (List.mem_reverse.mpr hx))
              have hE2 := hE a _ h v1 h1 hE1 hwf hoa q1 hq1 (by rw [hal, hna])
              have F1 := hE2.1
              have hnn := F1.2.1
              have hzz := F1.2.2.1
              have hoL' : ∀ x ∈ L, mm_okv (mm_n h1) x := fun x hx => (hoL x hx).up hnn
              have hoo : ∀ x ∈ v1.toList ++ r, mm_okv (mm_n h1) x := fun x hx => by
                rcases List.mem_append.mp hx with g | g
                · exact F1.2.2.2 x (by cases v1 <;> simp at g ⊢; exact g.symm)
                · exact (hok x (by rw [hst]; exact List.mem_append_right _ g)).up hnn
              obtain ⟨F, w⟩ := hK _ _ _ _ hr F1.1 hoL' hoo
              refine ⟨⟨F.1, Nat.le_trans hnn F.2.1, Nat.le_trans hzz F.2.2.1, F.2.2.2⟩, fun H locs ad ls P => ?_⟩
              have F2 : mm_n h1 ≤ mm_n h' := F.2.1
              have F3 : mm_z h1 ≤ mm_z h' := F.2.2.1
              have hn0 := P.2.2.2.2.2.2.2.1
              have hz0 := P.2.2.2.2.2.2.2.2.1
              have hor : ∀ x ∈ r, mm_okv (mm_n h) x := fun x hx => hok x (by rw [hst]; exact List.mem_append_right _ hx)
              have hcat : 2 * (F0 m pc ls (st.map (mm_cv ad))).monitorRoom + ((r.map (mm_cv ad)).map fun v => v.category).sum ≤ 8 := by
                refine lv_room ?_
                have e : ∀ (rr : List Value), (∀ x ∈ rr, mm_okv (mm_n h) x) → ((rr.map (mm_cv ad)).map fun v => v.category).sum = rr.length := by
                  intro rr
                  induction rr with
                  | nil => intro _; rfl
                  | cons x t ih =>
                    intro hx
                    rw [List.map_cons, List.map_cons, List.sum_cons, ih (mm_tl hx), mm_cv_cat ad (mm_hd hx), List.length_cons]
                    omega
                rw [e r hor]
                exact Nat.le_of_ble_eq_true hble
              have hFq := mm_free P.2.1 P.2.2.1 hA
              have hM := (hE2.2 ad H.size)
              have kk : ∀ ad' H1 locs1, (∀ k, k < mm_n h → ad' k = ad k) → va_P D cl (mm_ws cl ft cA ad' h1) H1 → va_D A (mm_ws cl ft cA ad' h1) → va_S A s.heap H1 locs1 → W p l e R s m args below meth c H1 locs1 (mm_n h - n0 + (mm_n h1 - mm_n h)) (mm_z h - z0 + (mm_z h1 - mm_z h)) Q (F0 m (pc + 3) ls ((v1.map (mm_cv ad')).toList ++ r.map (mm_cv ad))) := by
                intro ad' H1 locs1 ha g1 g2 g3
                have w1 := w H1 locs1 ad' ls ⟨g1, g2, g3, F1.1, hoL', hoo, P.2.2.2.2.2.2.1.ag ha hoL, Nat.le_trans hn0 hnn, Nat.le_trans hz0 hzz, fun k hk => by rw [ha k (Nat.lt_of_lt_of_le hk hn0)]; exact P.2.2.2.2.2.2.2.2.2 k hk⟩
                have e1 : (v1.toList ++ r).map (mm_cv ad') = (v1.map (mm_cv ad')).toList ++ r.map (mm_cv ad) := by
                  rw [List.map_append, mm_map_ag ha hor]
                  cases v1 <;> rfl
                rw [e1, show mm_n h1 - n0 = mm_n h - n0 + (mm_n h1 - mm_n h) by omega, show mm_z h1 - z0 = mm_z h - z0 + (mm_z h1 - mm_z h) by omega] at w1
                exact w1
              have hroom : (mm_rmd d (mm_n h1 - mm_n h) (mm_z h1 - mm_z h)).frames + 1 ≤ R.frames ∧ 8 + (q1.2.2.1 + 11) + (mm_rmd d (mm_n h1 - mm_n h) (mm_z h1 - mm_z h)).locals ≤ R.locals := by
                refine ⟨hRd.1, ?_⟩
                have g1 := hmo.2.2.1
                have g2 := hRd.2
                show 8 + (q1.2.2.1 + 11) + d * 40 ≤ R.locals
                omega
              have hPU : ∀ U : State, U.heap = H → s.WarmedH U.vm → mm_Pc Xs D cl ft cA TC ad H.size as h ((as.map (mm_cv ad)).toArray) U := fun U hU hW => ⟨rfl, by rw [hU], by rw [hU]; exact P.1, va_K.moved hW.alike hKk, P.2.1.weaken (fun _ _ _ _ => trivial), hXs.moved hXk hW⟩
              have hpar : (parseMethodDescriptor q1.1.desc).map (fun d => d.parameters.length) = some as.length := by
                have g := hmo.2.2.2.1
                rw [hkd, hna] at g
                cases hpd : parseMethodDescriptor q1.1.desc with
                | none => rw [hpd] at g; cases g
                | some sg =>
                  rw [hpd] at g
                  have g : sg.parameters.length = b := Option.some.inj g
                  exact congrArg some (show sg.parameters.length = as.length by omega)
              have hsc : (Cond.static q1.1).before args s = true := hts _ (hmo.2.2.2.2.1 hkd)
              have hgi : GoodIn Ts (mm_wsm Ts q1) := mm_goodIn (ws := []) hG hmo.1 (fun w hw => by cases hw)
              exact mm_call (va_runSN (host := host) (As := as.map (mm_cv ad)) (rest := r.map (mm_cv ad)) (n := as.length) ⟨hx, hb, hml, hown, hts⟩ hM ⟨va_cnB as.length hts hgi rfl rfl rfl (hXs _ hl) (hts _ (hmo.2.2.2.2.2.2.2.1)) ⟨hmo.2.1.1, hmo.2.1.2, hpar⟩ hroom, hsc, trivial⟩ ⟨mm_Pc_blind hXk, hPU⟩ rfl (by simp) P.2.2.2.2.2.2.1.1 (by rw [hst]; simp) hcat hd ⟨by omega, by omega⟩) P.2.2.1 hFq kk
            · rw [if_neg hc2] at hl
              simp only [decide_eq_true_eq] at hl
              unfold mm_is at hr
              obtain ⟨⟨v1, h1⟩, hE1, hr⟩ := Option.bind_eq_some_iff.mp hr
              have hoa : ∀ x ∈ as, mm_okv (mm_n h) x := fun x hx => hok x (by rw [hst]; exact List.mem_append_left _ (List.mem_reverse.mpr hx))
              have hE2 := hE a _ h v1 h1 hE1 hwf hoa q1 hq1 (by rw [hal, hna])
              have F1 := hE2.1
              have hnn := F1.2.1
              have hzz := F1.2.2.1
              have hoL' : ∀ x ∈ L, mm_okv (mm_n h1) x := fun x hx => (hoL x hx).up hnn
              have hoo : ∀ x ∈ v1.toList ++ r, mm_okv (mm_n h1) x := fun x hx => by
                rcases List.mem_append.mp hx with g | g
                · exact F1.2.2.2 x (by cases v1 <;> simp at g ⊢; exact g.symm)
                · exact (hok x (by rw [hst]; exact List.mem_append_right _ g)).up hnn
              obtain ⟨F, w⟩ := hK _ _ _ _ hr F1.1 hoL' hoo
              refine ⟨⟨F.1, Nat.le_trans hnn F.2.1, Nat.le_trans hzz F.2.2.1, F.2.2.2⟩, fun H locs ad ls P => ?_⟩
              have F2 : mm_n h1 ≤ mm_n h' := F.2.1
              have F3 : mm_z h1 ≤ mm_z h' := F.2.2.1
              have hn0 := P.2.2.2.2.2.2.2.1
              have hz0 := P.2.2.2.2.2.2.2.2.1
              have hor : ∀ x ∈ r, mm_okv (mm_n h) x := fun x hx => hok x (by rw [hst]; exact List.mem_append_right _ hx)
              have hcat : 2 * (F0 m pc ls (st.map (mm_cv ad))).monitorRoom + ((r.map (mm_cv ad)).map fun v => v.category).sum ≤ 8 := by
                refine lv_room ?_
                have e : ∀ (rr : List Value), (∀ x ∈ rr, mm_okv (mm_n h) x) → ((rr.map (mm_cv ad)).map fun v => v.category).sum = rr.length := by
                  intro rr
                  induction rr with
                  | nil => intro _; rfl
                  | cons x t ih =>
                    intro hx
                    rw [List.map_cons, List.map_cons, List.sum_cons, ih (mm_tl hx), mm_cv_cat ad (mm_hd hx), List.length_cons]
                    omega
                rw [e r hor]
                exact Nat.le_of_ble_eq_true hble
              have hFq := mm_free P.2.1 P.2.2.1 hA
              have hM := (hE2.2 ad H.size)
              have kk : ∀ ad' H1 locs1, (∀ k, k < mm_n h → ad' k = ad k) → va_P D cl (mm_ws cl ft cA ad' h1) H1 → va_D A (mm_ws cl ft cA ad' h1) → va_S A s.heap H1 locs1 → W p l e R s m args below meth c H1 locs1 (mm_n h - n0 + (mm_n h1 - mm_n h)) (mm_z h - z0 + (mm_z h1 - mm_z h)) Q (F0 m (pc + 3) ls ((v1.map (mm_cv ad')).toList ++ r.map (mm_cv ad))) := by
                intro ad' H1 locs1 ha g1 g2 g3
                have w1 := w H1 locs1 ad' ls ⟨g1, g2, g3, F1.1, hoL', hoo, P.2.2.2.2.2.2.1.ag ha hoL, Nat.le_trans hn0 hnn, Nat.le_trans hz0 hzz, fun k hk => by rw [ha k (Nat.lt_of_lt_of_le hk hn0)]; exact P.2.2.2.2.2.2.2.2.2 k hk⟩
                have e1 : (v1.toList ++ r).map (mm_cv ad') = (v1.map (mm_cv ad')).toList ++ r.map (mm_cv ad) := by
                  rw [List.map_append, mm_map_ag ha hor]
                  cases v1 <;> rfl
                rw [e1, show mm_n h1 - n0 = mm_n h - n0 + (mm_n h1 - mm_n h) by omega, show mm_z h1 - z0 = mm_z h - z0 + (mm_z h1 - mm_z h) by omega] at w1
                exact w1
              have hroom : (mm_rmd d (mm_n h1 - mm_n h) (mm_z h1 - mm_z h)).frames + 1 ≤ R.frames ∧ 8 + (q1.2.2.1 + 11) + (mm_rmd d (mm_n h1 - mm_n h) (mm_z h1 - mm_z h)).locals ≤ R.locals := by
                refine ⟨hRd.1, ?_⟩
                have g1 := hmo.2.2.1
                have g2 := hRd.2
                show 8 + (q1.2.2.1 + 11) + d * 40 ≤ R.locals
                omega
              have hPU : ∀ U : State, U.heap = H → s.WarmedH U.vm → mm_Pc Xs D cl ft cA TC ad H.size as h ((as.map (mm_cv ad)).toArray) U := fun U hU hW => ⟨rfl, by rw [hU], by rw [hU]; exact P.1, va_K.moved hW.alike hKk, P.2.1.weaken (fun _ _ _ _ => trivial), hXs.moved hXk hW⟩
              have hpar : (parseMethodDescriptor q1.1.desc).map (fun d => d.parameters.length) = some as.length := by
                have g := hmo.2.2.2.1
                rw [hkd, hna] at g
                cases hpd : parseMethodDescriptor q1.1.desc with
                | none => rw [hpd] at g; cases g
                | some sg =>
                  rw [hpd] at g
                  have g : sg.parameters.length = b := Option.some.inj g
                  exact congrArg some (show sg.parameters.length = as.length by omega)
              have hsc : (Cond.static q1.1).before args s = true := hts _ (hmo.2.2.2.2.1 hkd)
              have hgi : GoodIn Ts (va_wsS own k q1.1 (mm_wsm Ts q1)) := by
                unfold va_wsS
                refine mm_goodIn hG hmo.1 (fun w hw => ?_)
                simp only [List.mem_cons, List.not_mem_nil, or_false] at hw
                rcases hw with rfl | rfl | rfl
                · exact hUs _ hl
                · exact hmo.2.2.2.2.1 hkd
                · exact hmo.2.2.2.2.2.2.2.1
              exact mm_call (va_runS (As := as.map (mm_cv ad)) (rest := r.map (mm_cv ad)) (n := as.length) ⟨hx, hb, hml, hown, hts⟩ hM (va_cwS as.length hts hgi rfl rfl rfl ⟨hmo.2.1.1, hmo.2.1.2, hpar⟩ hroom) ⟨mm_Pc_blind hXk, hPU⟩ rfl (by simp) P.2.2.2.2.2.2.1.1 (by rw [hst]; simp) hcat hd ⟨by omega, by omega⟩) P.2.2.1 hFq kk
          · cases hr
        · cases hr
    · cases hck
set_option maxHeartbeats 4000000 in
theorem mm_step_arraycopy {p : Program} {l : Launch} {e : Env} {R : Room} {s : State} {m : MethodId} {args : Array Value} {below : List Frame} {meth : Method} {c : Code} {Q : State → Prop} {cc : ByteArray} {nL : Nat} {ini : Bool} {rt : Option FieldType} {own host TC : String} {Ts Us Xs : List Cond} {D : va_G} {cl : List vw_C} {ft : Nat → Nat → FieldType} {cA : Nat → ClassId} {A : Nat → Prop} {n0 z0 : Nat} {ad0 : Nat → Nat} {mt : Nat → Option mm_Mi} {E : mm_Ev} {K : mm_Cf → Option mm_Rs} {vv : Option Value} {h' : mm_Hp}
    (X : mm_Cx p s m args meth c cc nL ini rt own TC Ts Us Xs D cl ft cA A)
    (hK : ∀ pc L st h, K (pc, L, st, h) = some (vv, h') → mm_wf h → (∀ v ∈ L, mm_okv (mm_n h) v) → (∀ v ∈ st, mm_okv (mm_n h) v) → mm_Fin vv h h' ∧ ∀ H locs ad ls, mm_Pre s D cl ft cA A nL n0 z0 ad0 L st h H locs ad ls → W p l e R s m args below meth c H locs (mm_n h - n0) (mm_z h - z0) Q (F0 m pc ls (st.map (mm_cv ad))))
    {d : Nat} (hR : mm_n h' - n0 ≤ R.cells ∧ mm_z h' - z0 ≤ R.slots) (hRd : d + 1 ≤ R.frames ∧ (d + 1) * 40 ≤ R.locals) (hG : ∀ w ∈ Ts, goodWord w = true) (hMo : ∀ y q, mt y = some q → mm_Mo Ts y q) (hE : mm_Calls l D cl ft cA TC Ts Xs mt d E) (hXk : mm_Xk Xs) {c' : Nat} (hc1 : c' = 1) {pc : Nat} {L st : List Value} {h : mm_Hp} {k : Nat} {a b : Nat} {v : Int32} {q : List (Int32 × Nat)} (hck : mm_ck own host TC cc nL ini rt Us Xs cl ft mt pc (.invokestatic k) a b c' v q = true) (hr : mm_ex E K pc L st h (.invokestatic k) a b c' v q = some (vv, h')) (hwf : mm_wf h) (hoL : ∀ v ∈ L, mm_okv (mm_n h) v) (hok : ∀ v ∈ st, mm_okv (mm_n h) v) :
    mm_Fin vv h h' ∧ ∀ H locs ad ls, mm_Pre s D cl ft cA A nL n0 z0 ad0 L st h H locs ad ls → W p l e R s m args below meth c H locs (mm_n h - n0) (mm_z h - z0) Q (F0 m pc ls (st.map (mm_cv ad))) := by
  obtain ⟨hx, hb, hml, hown, hts, hKk, hA, hCl, hUs, hini, hrt, hlk, hXs⟩ := X
  subst hc1
  simp only [mm_ck, Bool.and_eq_true, decide_eq_true_eq] at hck
  obtain ⟨⟨⟨⟨hd, hl⟩, hnat⟩, hstt⟩, hsys⟩ := hck
  simp only [mm_ex] at hr
  split at hr
  · rename_i n dp q1 sp q0 r
    split at hr
    · rename_i hble
      unfold mm_cy at hr
      split at hr
      · rename_i hin
        obtain ⟨s0, s1, g1, g2, g3, g4, g5, g6⟩ := hin
        have hor : ∀ v ∈ r, mm_okv (mm_n h) v := mm_tl (mm_tl (mm_tl (mm_tl (mm_tl hok))))
        have hw' : mm_wf (mm_cp h q1 (va_cpy (mm_I h q0) (mm_I h q1) sp.toNatClampNeg dp.toNatClampNeg n.toNatClampNeg)) := mm_cp_wf hwf
        obtain ⟨F, w⟩ := hK _ _ _ _ hr hw' hoL hor
        refine ⟨F, fun H locs ad ls P => ?_⟩
        have he0 := mm_ws_get (cl := cl) (ft := ft) (cA := cA) (ad := ad) (hwf.lt s0)
        rw [mm_ce_a s0 (by decide)] at he0
        have he1 := mm_ws_get (cl := cl) (ft := ft) (cA := cA) (ad := ad) (hwf.lt s1)
        rw [mm_ce_a s1 (by decide)] at he1
        have e : ∀ (rr : List Value), (∀ x ∈ rr, mm_okv (mm_n h) x) → ((rr.map (mm_cv ad)).map fun v => v.category).sum = rr.length := by
          intro rr
          induction rr with
          | nil => intro _; rfl
          | cons x t ih =>
            intro hx
            rw [List.map_cons, List.map_cons, List.sum_cons, ih (mm_tl hx), mm_cv_cat ad (mm_hd hx), List.length_cons]
            omega
        have h8 : r.length ≤ 8 := Nat.le_of_ble_eq_true hble
        refine va_copyi (ty := .byte) hx hb (by rw [hml]; exact P.2.2.2.2.2.2.1.1.symm) hown (hts _ (hUs _ hl)) (hts _ (hUs _ hnat)) (hts _ (hUs _ hstt)) (hts _ (hUs _ hsys)) hKk P.1 P.2.1 P.2.2.1 q0 q1 1 1 he0 he1 rfl rfl rfl g1 g2 g3 g4 g5 g6 (by omega) ?_ hd (fun H1 locs1 f1 f2 f3 => ?_)
        · rw [e r hor]
          have hnf : nativeFrameWords "java/lang/System" "arraycopy" 5 ≤ 21 := by decide
          omega
        · rw [mm_put_arr s1 (by decide)] at f1 f2
          exact w _ _ _ _ ⟨f1, f2, f3, hw', hoL, hor, P.2.2.2.2.2.2⟩
      · cases hr
    · cases hr
  · cases hr
set_option maxHeartbeats 4000000 in
theorem mm_step_ireturn {p : Program} {l : Launch} {e : Env} {R : Room} {s : State} {m : MethodId} {args : Array Value} {below : List Frame} {meth : Method} {c : Code} {Q : State → Prop} {cc : ByteArray} {nL : Nat} {ini : Bool} {rt : Option FieldType} {own host TC : String} {Ts Us Xs : List Cond} {D : va_G} {cl : List vw_C} {ft : Nat → Nat → FieldType} {cA : Nat → ClassId} {A : Nat → Prop} {n0 z0 : Nat} {ad0 : Nat → Nat} {mt : Nat → Option mm_Mi} {E : mm_Ev} {K : mm_Cf → Option mm_Rs} {vv : Option Value} {h' : mm_Hp}
    (X : mm_Cx p s m args meth c cc nL ini rt own TC Ts Us Xs D cl ft cA A)
    (hK : ∀ pc L st h, K (pc, L, st, h) = some (vv, h') → mm_wf h → (∀ v ∈ L, mm_okv (mm_n h) v) → (∀ v ∈ st, mm_okv (mm_n h) v) → mm_Fin vv h h' ∧ ∀ H locs ad ls, mm_Pre s D cl ft cA A nL n0 z0 ad0 L st h H locs ad ls → W p l e R s m args below meth c H locs (mm_n h - n0) (mm_z h - z0) Q (F0 m pc ls (st.map (mm_cv ad))))
    (hfin : ∀ (pc : Nat) (H : Heap) (locs : List Loc) (ad : Nat → Nat) (ls : Array Slot), ((vv = none ∧ decode cc pc = .ok (.return_, 1) ∧ rt = none) ∨ (∃ x, vv = some (.int x) ∧ decode cc pc = .ok (.ireturn, 1) ∧ (rt = some .int ∨ (rt = some .boolean ∧ (x = 0 ∨ x = 1)))) ∨ (∃ x, vv = some (.ref x) ∧ decode cc pc = .ok (.areturn, 1) ∧ ∃ ty, rt = some ty ∧ mm_isr ty = true)) → va_P D cl (mm_ws cl ft cA ad h') H → va_D A (mm_ws cl ft cA ad h') → va_S A s.heap H locs → (∀ k, k < n0 → ad k = ad0 k) → W p l e R s m args below meth c H locs (mm_n h' - n0) (mm_z h' - z0) Q (F0 m pc ls (vv.toList.map (mm_cv ad)))) {pc : Nat} {L st : List Value} {h : mm_Hp} {a b c' : Nat} {v : Int32} {q : List (Int32 × Nat)} (hck : mm_ck own host TC cc nL ini rt Us Xs cl ft mt pc .ireturn a b c' v q = true) (hr : mm_ex E K pc L st h .ireturn a b c' v q = some (vv, h')) (hwf : mm_wf h) (hoL : ∀ v ∈ L, mm_okv (mm_n h) v) (hok : ∀ v ∈ st, mm_okv (mm_n h) v) :
    mm_Fin vv h h' ∧ ∀ H locs ad ls, mm_Pre s D cl ft cA A nL n0 z0 ad0 L st h H locs ad ls → W p l e R s m args below meth c H locs (mm_n h - n0) (mm_z h - z0) Q (F0 m pc ls (st.map (mm_cv ad))) := by
  obtain ⟨hx, hb, hml, hown, hts, hKk, hA, hCl, hUs, hini, hrt, hlk, hXs⟩ := X
  simp only [mm_ck, Bool.and_eq_true, decide_eq_true_eq] at hck
  obtain ⟨hd, hck⟩ := hck
  simp only [mm_ex] at hr
  split at hr
  · rename_i x
    split at hr
    · rw [if_pos rfl] at hck
      simp only [decide_eq_true_eq] at hck
      cases hr
      exact ⟨⟨hwf, Nat.le_refl _, Nat.le_refl _, fun y hy => by cases hy; exact trivial⟩, fun H locs ad ls P => hfin pc H locs ad ls (Or.inr (Or.inl ⟨x, rfl, hd, Or.inl hck⟩)) P.1 P.2.1 P.2.2.1 P.2.2.2.2.2.2.2.2.2⟩
    · rename_i ha
      rw [if_neg ha] at hck
      simp only [decide_eq_true_eq] at hck
      unfold mm_zr at hr
      split at hr
      · rename_i hx01
        cases hr
        exact ⟨⟨hwf, Nat.le_refl _, Nat.le_refl _, fun y hy => by cases hy; exact trivial⟩, fun H locs ad ls P => hfin pc H locs ad ls (Or.inr (Or.inl ⟨x, rfl, hd, Or.inr ⟨hck, hx01⟩⟩)) P.1 P.2.1 P.2.2.1 P.2.2.2.2.2.2.2.2.2⟩
      · cases hr
  · cases hr
set_option maxHeartbeats 4000000 in
theorem mm_step_areturn {p : Program} {l : Launch} {e : Env} {R : Room} {s : State} {m : MethodId} {args : Array Value} {below : List Frame} {meth : Method} {c : Code} {Q : State → Prop} {cc : ByteArray} {nL : Nat} {ini : Bool} {rt : Option FieldType} {own host TC : String} {Ts Us Xs : List Cond} {D : va_G} {cl : List vw_C} {ft : Nat → Nat → FieldType} {cA : Nat → ClassId} {A : Nat → Prop} {n0 z0 : Nat} {ad0 : Nat → Nat} {mt : Nat → Option mm_Mi} {E : mm_Ev} {K : mm_Cf → Option mm_Rs} {vv : Option Value} {h' : mm_Hp}
    (X : mm_Cx p s m args meth c cc nL ini rt own TC Ts Us Xs D cl ft cA A)
    (hK : ∀ pc L st h, K (pc, L, st, h) = some (vv, h') → mm_wf h → (∀ v ∈ L, mm_okv (mm_n h) v) → (∀ v ∈ st, mm_okv (mm_n h) v) → mm_Fin vv h h' ∧ ∀ H locs ad ls, mm_Pre s D cl ft cA A nL n0 z0 ad0 L st h H locs ad ls → W p l e R s m args below meth c H locs (mm_n h - n0) (mm_z h - z0) Q (F0 m pc ls (st.map (mm_cv ad))))
    (hfin : ∀ (pc : Nat) (H : Heap) (locs : List Loc) (ad : Nat → Nat) (ls : Array Slot), ((vv = none ∧ decode cc pc = .ok (.return_, 1) ∧ rt = none) ∨ (∃ x, vv = some (.int x) ∧ decode cc pc = .ok (.ireturn, 1) ∧ (rt = some .int ∨ (rt = some .boolean ∧ (x = 0 ∨ x = 1)))) ∨ (∃ x, vv = some (.ref x) ∧ decode cc pc = .ok (.areturn, 1) ∧ ∃ ty, rt = some ty ∧ mm_isr ty = true)) → va_P D cl (mm_ws cl ft cA ad h') H → va_D A (mm_ws cl ft cA ad h') → va_S A s.heap H locs → (∀ k, k < n0 → ad k = ad0 k) → W p l e R s m args below meth c H locs (mm_n h' - n0) (mm_z h' - z0) Q (F0 m pc ls (vv.toList.map (mm_cv ad)))) {pc : Nat} {L st : List Value} {h : mm_Hp} {a b c' : Nat} {v : Int32} {q : List (Int32 × Nat)} (hck : mm_ck own host TC cc nL ini rt Us Xs cl ft mt pc .areturn a b c' v q = true) (hr : mm_ex E K pc L st h .areturn a b c' v q = some (vv, h')) (hwf : mm_wf h) (hoL : ∀ v ∈ L, mm_okv (mm_n h) v) (hok : ∀ v ∈ st, mm_okv (mm_n h) v) :
    mm_Fin vv h h' ∧ ∀ H locs ad ls, mm_Pre s D cl ft cA A nL n0 z0 ad0 L st h H locs ad ls → W p l e R s m args below meth c H locs (mm_n h - n0) (mm_z h - z0) Q (F0 m pc ls (st.map (mm_cv ad))) := by
  obtain ⟨hx, hb, hml, hown, hts, hKk, hA, hCl, hUs, hini, hrt, hlk, hXs⟩ := X
  simp only [mm_ck, Bool.and_eq_true, decide_eq_true_eq] at hck
  obtain ⟨hd, hck⟩ := hck
  split at hck
  · rename_i ty
    simp only [mm_ex] at hr
    split at hr
    · rename_i x
      cases hr
      exact ⟨⟨hwf, Nat.le_refl _, Nat.le_refl _, fun y hy => by cases hy; exact mm_hd hok⟩, fun H locs ad ls P => hfin pc H locs ad ls (Or.inr (Or.inr ⟨x, rfl, hd, ty, rfl, hck⟩)) P.1 P.2.1 P.2.2.1 P.2.2.2.2.2.2.2.2.2⟩
    · cases hr
  · cases hck
set_option maxHeartbeats 4000000 in
theorem mm_step_return {p : Program} {l : Launch} {e : Env} {R : Room} {s : State} {m : MethodId} {args : Array Value} {below : List Frame} {meth : Method} {c : Code} {Q : State → Prop} {cc : ByteArray} {nL : Nat} {ini : Bool} {rt : Option FieldType} {own host TC : String} {Ts Us Xs : List Cond} {D : va_G} {cl : List vw_C} {ft : Nat → Nat → FieldType} {cA : Nat → ClassId} {A : Nat → Prop} {n0 z0 : Nat} {ad0 : Nat → Nat} {mt : Nat → Option mm_Mi} {E : mm_Ev} {K : mm_Cf → Option mm_Rs} {vv : Option Value} {h' : mm_Hp}
    (X : mm_Cx p s m args meth c cc nL ini rt own TC Ts Us Xs D cl ft cA A)
    (hK : ∀ pc L st h, K (pc, L, st, h) = some (vv, h') → mm_wf h → (∀ v ∈ L, mm_okv (mm_n h) v) → (∀ v ∈ st, mm_okv (mm_n h) v) → mm_Fin vv h h' ∧ ∀ H locs ad ls, mm_Pre s D cl ft cA A nL n0 z0 ad0 L st h H locs ad ls → W p l e R s m args below meth c H locs (mm_n h - n0) (mm_z h - z0) Q (F0 m pc ls (st.map (mm_cv ad))))
    (hfin : ∀ (pc : Nat) (H : Heap) (locs : List Loc) (ad : Nat → Nat) (ls : Array Slot), ((vv = none ∧ decode cc pc = .ok (.return_, 1) ∧ rt = none) ∨ (∃ x, vv = some (.int x) ∧ decode cc pc = .ok (.ireturn, 1) ∧ (rt = some .int ∨ (rt = some .boolean ∧ (x = 0 ∨ x = 1)))) ∨ (∃ x, vv = some (.ref x) ∧ decode cc pc = .ok (.areturn, 1) ∧ ∃ ty, rt = some ty ∧ mm_isr ty = true)) → va_P D cl (mm_ws cl ft cA ad h') H → va_D A (mm_ws cl ft cA ad h') → va_S A s.heap H locs → (∀ k, k < n0 → ad k = ad0 k) → W p l e R s m args below meth c H locs (mm_n h' - n0) (mm_z h' - z0) Q (F0 m pc ls (vv.toList.map (mm_cv ad)))) {pc : Nat} {L st : List Value} {h : mm_Hp} {a b c' : Nat} {v : Int32} {q : List (Int32 × Nat)} (hck : mm_ck own host TC cc nL ini rt Us Xs cl ft mt pc .return_ a b c' v q = true) (hr : mm_ex E K pc L st h .return_ a b c' v q = some (vv, h')) (hwf : mm_wf h) (hoL : ∀ v ∈ L, mm_okv (mm_n h) v) (hok : ∀ v ∈ st, mm_okv (mm_n h) v) :
    mm_Fin vv h h' ∧ ∀ H locs ad ls, mm_Pre s D cl ft cA A nL n0 z0 ad0 L st h H locs ad ls → W p l e R s m args below meth c H locs (mm_n h - n0) (mm_z h - z0) Q (F0 m pc ls (st.map (mm_cv ad))) := by
  obtain ⟨hx, hb, hml, hown, hts, hKk, hA, hCl, hUs, hini, hrt, hlk, hXs⟩ := X
  simp only [mm_ck, Bool.and_eq_true, decide_eq_true_eq] at hck
  simp only [mm_ex] at hr
  split at hr
  · cases hr
    exact ⟨⟨hwf, Nat.le_refl _, Nat.le_refl _, fun y hy => by cases hy⟩, fun H locs ad ls P => hfin pc H locs ad ls (Or.inl ⟨rfl, hck.1, hck.2⟩) P.1 P.2.1 P.2.2.1 P.2.2.2.2.2.2.2.2.2⟩
  · cases hr
