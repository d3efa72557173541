/-! ===== THE INSTRUCTIONS THAT REACH THE HEAP ===== -/
theorem mm_ce_o {cl : List vw_C} {ft : Nat → Nat → FieldType} {cA : Nat → ClassId} {ad : Nat → Nat} {h : mm_Hp} {k ci : Nat} (hs : mm_s h k = some (.inl ci)) : mm_ce cl ft cA ad h k = .inr (ci, (List.range (mm_nf cl ci)).map (mm_fv ft ad h k ci)) := by
  unfold mm_ce
  rw [hs]
theorem mm_ce_a {cl : List vw_C} {ft : Nat → Nat → FieldType} {cA : Nat → ClassId} {ad : Nat → Nat} {h : mm_Hp} {k t n : Nat} (hs : mm_s h k = some (.inr (t, n))) (ht : t ≠ 3) : mm_ce cl ft cA ad h k = .inl (cA t, n, .inl (mm_I h k)) := by
  unfold mm_ce
  rw [hs]
  simp only [ht, if_false]
theorem mm_ce_q {cl : List vw_C} {ft : Nat → Nat → FieldType} {cA : Nat → ClassId} {ad : Nat → Nat} {h : mm_Hp} {k n : Nat} (hs : mm_s h k = some (.inr (3, n))) : mm_ce cl ft cA ad h k = .inl (cA 3, n, .inr (.inr (.inr (.inr (fun j => (mm_Rf h k j).map ad))))) := by
  unfold mm_ce
  rw [hs]
  simp only [if_true]
theorem mm_nf_of {cl : List vw_C} {a : Nat} {r : vw_C} (h : cl[a]? = some r) : mm_nf cl a = r.2.2 := by
  unfold mm_nf
  rw [h]
theorem mm_cv_rf (ad : Nat → Nat) (x : Option Nat) : mm_cv ad (va_rf x) = va_rf (x.map ad) := by
  cases x <;> rfl
theorem mm_rf_ok {h : mm_Hp} (w : mm_wf h) {k j : Nat} : mm_okv (mm_n h) (va_rf (mm_Rf h k j)) := by
  cases e : mm_Rf h k j with
  | none => exact trivial
  | some r => exact w.2.1 _ _ _ e
theorem mm_len_in {h : mm_Hp} {t q : Nat} {i : Int32} (hi : ¬ (i < 0 ∨ mm_len h t q ≤ i.toNatClampNeg)) : ∃ n, mm_s h q = some (.inr (t, n)) ∧ vp_in i n := by
  unfold mm_len at hi
  split at hi
  · rename_i t' n hs
    by_cases ht : t' = t
    · subst ht
      rw [if_pos rfl] at hi
      exact ⟨n, hs, hi⟩
    · rw [if_neg ht] at hi
      exact absurd (Or.inr (Nat.zero_le _)) hi
  · exact absurd (Or.inr (Nat.zero_le _)) hi
theorem mm_len_pos {h : mm_Hp} {t q k : Nat} (hi : k ≤ mm_len h t q) (hk : 0 < k) : ∃ n, mm_s h q = some (.inr (t, n)) ∧ k ≤ n := by
  unfold mm_len at hi
  split at hi
  · rename_i t' n hs
    by_cases ht : t' = t
    · subst ht
      rw [if_pos rfl] at hi
      exact ⟨n, hs, hi⟩
    · rw [if_neg ht] at hi
      omega
  · omega
theorem mm_bool_ok {x : Int32} (h : x = 0 ∨ x = 1) : narrow .boolean (.int x) = .int x ∧ fits .boolean (.int x) = true := by
  rcases h with rfl | rfl <;> exact ⟨by decide, by decide⟩
set_option maxHeartbeats 4000000 in
theorem mm_step_getfield {p : Program} {l : Launch} {e : Env} {R : Room} {s : State} {m : MethodId} {args : Array Value} {below : List Frame} {meth : Method} {c : Code} {Q : State → Prop} {cc : ByteArray} {nL : Nat} {ini : Bool} {rt : Option FieldType} {own host TC : String} {Ts Us Xs : List Cond} {D : va_G} {cl : List vw_C} {ft : Nat → Nat → FieldType} {cA : Nat → ClassId} {A : Nat → Prop} {n0 z0 : Nat} {ad0 : Nat → Nat} {mt : Nat → Option mm_Mi} {E : mm_Ev} {K : mm_Cf → Option mm_Rs} {vv : Option Value} {h' : mm_Hp}
    (X : mm_Cx p s m args meth c cc nL ini rt own TC Ts Us Xs D cl ft cA A)
    (hK : ∀ pc L st h, K (pc, L, st, h) = some (vv, h') → mm_wf h → (∀ v ∈ L, mm_okv (mm_n h) v) → (∀ v ∈ st, mm_okv (mm_n h) v) → mm_Fin vv h h' ∧ ∀ H locs ad ls, mm_Pre s D cl ft cA A nL n0 z0 ad0 L st h H locs ad ls → W p l e R s m args below meth c H locs (mm_n h - n0) (mm_z h - z0) Q (F0 m pc ls (st.map (mm_cv ad))))
    {pc : Nat} {L st : List Value} {h : mm_Hp} {k : Nat} {a b c' : Nat} {v : Int32} {q : List (Int32 × Nat)} (hck : mm_ck own host TC cc nL ini rt Us Xs cl ft mt pc (.getfield k) a b c' v q = true) (hr : mm_ex E K pc L st h (.getfield k) a b c' v q = some (vv, h')) (hwf : mm_wf h) (hoL : ∀ v ∈ L, mm_okv (mm_n h) v) (hok : ∀ v ∈ st, mm_okv (mm_n h) v) :
    mm_Fin vv h h' ∧ ∀ H locs ad ls, mm_Pre s D cl ft cA A nL n0 z0 ad0 L st h H locs ad ls → W p l e R s m args below meth c H locs (mm_n h - n0) (mm_z h - z0) Q (F0 m pc ls (st.map (mm_cv ad))) := by
  obtain ⟨hx, hb, hml, hown, hts, hKk, hA, hCl, hUs, hini, hrt, hlk, hXs⟩ := X
  simp only [mm_ck] at hck
  split at hck
  · rename_i r0 hr0
    simp only [Bool.and_eq_true, decide_eq_true_eq] at hck
    obtain ⟨⟨⟨hd, hbN⟩, hl⟩, hty⟩ := hck
    have hC := hCl a r0 hr0
    have hfs : ∀ (ad : Nat → Nat) (q0 : Nat), ((List.range (mm_nf cl a)).map (mm_fv ft ad h q0 a))[b]? = some (mm_fv ft ad h q0 a b) := fun ad q0 => by
      rw [mm_nf_of hr0]
      simp [hbN]
    simp only [mm_ex] at hr
    split at hr
    · rename_i q0 r
      split at hr
      · unfold mm_fR at hr
        split at hr
        · rename_i hs
          rw [if_pos rfl] at hty
          obtain ⟨x, hx1, hr⟩ := Option.bind_eq_some_iff.mp hr
          have hoo : ∀ v ∈ (Value.ref x) :: r, mm_okv (mm_n h) v := mm_o1 (hwf.2.1 _ _ _ hx1) (mm_tl hok)
          obtain ⟨F, w⟩ := hK _ _ _ _ hr hwf hoL hoo
          refine ⟨F, fun H locs ad ls P => ?_⟩
          have he := mm_ws_get (cl := cl) (ft := ft) (cA := cA) (ad := ad) (hwf.lt hs)
          rw [mm_ce_o hs] at he
          have w1 := w _ _ _ _ (P.stk hoo)
          refine va_get (D := D) hx hb hts hC.1 hown hKk P.1 q0 he hr0 b hbN (hts _ (hUs _ hl)) (fun x hx => by rw [hC.2.2.2.1 b hbN] at hx; exact hx) (hfs ad q0) hd ?_
          have e : mm_fv ft ad h q0 a b = mm_cv ad (.ref x) := by
            unfold mm_fv
            rw [if_pos hty, hx1]
            rfl
          rw [e]
          exact w1
        · cases hr
      · rename_i hc1
        unfold mm_fI at hr
        split at hr
        · rename_i hs
          rw [if_neg hc1] at hty
          have hoo : ∀ v ∈ (Value.int (mm_I h q0 b)) :: r, mm_okv (mm_n h) v := mm_o1 trivial (mm_tl hok)
          obtain ⟨F, w⟩ := hK _ _ _ _ hr hwf hoL hoo
          refine ⟨F, fun H locs ad ls P => ?_⟩
          have he := mm_ws_get (cl := cl) (ft := ft) (cA := cA) (ad := ad) (hwf.lt hs)
          rw [mm_ce_o hs] at he
          have w1 := w _ _ _ _ (P.stk hoo)
          refine va_get (D := D) hx hb hts hC.1 hown hKk P.1 q0 he hr0 b hbN (hts _ (hUs _ hl)) (fun x hx => by rw [hC.2.2.2.1 b hbN] at hx; exact hx) (hfs ad q0) hd ?_
          have e : mm_fv ft ad h q0 a b = .int (mm_I h q0 b) := by
            unfold mm_fv
            rw [if_neg (fun q => by rw [q] at hty; cases hty)]
          rw [e]
          exact w1
        · cases hr
    · cases hr
  · cases hck
set_option maxHeartbeats 4000000 in
theorem mm_step_putfield {p : Program} {l : Launch} {e : Env} {R : Room} {s : State} {m : MethodId} {args : Array Value} {below : List Frame} {meth : Method} {c : Code} {Q : State → Prop} {cc : ByteArray} {nL : Nat} {ini : Bool} {rt : Option FieldType} {own host TC : String} {Ts Us Xs : List Cond} {D : va_G} {cl : List vw_C} {ft : Nat → Nat → FieldType} {cA : Nat → ClassId} {A : Nat → Prop} {n0 z0 : Nat} {ad0 : Nat → Nat} {mt : Nat → Option mm_Mi} {E : mm_Ev} {K : mm_Cf → Option mm_Rs} {vv : Option Value} {h' : mm_Hp}
    (X : mm_Cx p s m args meth c cc nL ini rt own TC Ts Us Xs D cl ft cA A)
    (hK : ∀ pc L st h, K (pc, L, st, h) = some (vv, h') → mm_wf h → (∀ v ∈ L, mm_okv (mm_n h) v) → (∀ v ∈ st, mm_okv (mm_n h) v) → mm_Fin vv h h' ∧ ∀ H locs ad ls, mm_Pre s D cl ft cA A nL n0 z0 ad0 L st h H locs ad ls → W p l e R s m args below meth c H locs (mm_n h - n0) (mm_z h - z0) Q (F0 m pc ls (st.map (mm_cv ad))))
    {pc : Nat} {L st : List Value} {h : mm_Hp} {k : Nat} {a b c' : Nat} {v : Int32} {q : List (Int32 × Nat)} (hck : mm_ck own host TC cc nL ini rt Us Xs cl ft mt pc (.putfield k) a b c' v q = true) (hr : mm_ex E K pc L st h (.putfield k) a b c' v q = some (vv, h')) (hwf : mm_wf h) (hoL : ∀ v ∈ L, mm_okv (mm_n h) v) (hok : ∀ v ∈ st, mm_okv (mm_n h) v) :
    mm_Fin vv h h' ∧ ∀ H locs ad ls, mm_Pre s D cl ft cA A nL n0 z0 ad0 L st h H locs ad ls → W p l e R s m args below meth c H locs (mm_n h - n0) (mm_z h - z0) Q (F0 m pc ls (st.map (mm_cv ad))) := by
  obtain ⟨hx, hb, hml, hown, hts, hKk, hA, hCl, hUs, hini, hrt, hlk, hXs⟩ := X
  simp only [mm_ck] at hck
  split at hck
  · rename_i r0 hr0
    simp only [Bool.and_eq_true, decide_eq_true_eq] at hck
    obtain ⟨⟨⟨⟨hd, hbN⟩, hl⟩, hty⟩, hfi⟩ := hck
    have hC := hCl a r0 hr0
    simp only [mm_ex] at hr
    split at hr
    · rename_i x q0 r
      split at hr
      · simp only [decide_eq_true_eq] at hty
        unfold mm_pI at hr
        split at hr
        · rename_i hs
          have hoL' : ∀ v ∈ L, mm_okv (mm_n (mm_sI h q0 b x)) v := hoL
          have hoo : ∀ v ∈ r, mm_okv (mm_n (mm_sI h q0 b x)) v := mm_tl (mm_tl hok)
          have hw' : mm_wf (mm_sI h q0 b x) := mm_cp_wf hwf
          obtain ⟨F, w⟩ := hK _ _ _ _ hr hw' hoL' hoo
          refine ⟨F, fun H locs ad ls P => ?_⟩
          have he := mm_ws_get (cl := cl) (ft := ft) (cA := cA) (ad := ad) (hwf.lt hs)
          rw [mm_ce_o hs] at he
          have kk : ∀ (H1 : Heap) (locs1 : List Loc), va_P D cl ((mm_ws cl ft cA ad h).set q0 (ad q0, .inr (a, ((List.range (mm_nf cl a)).map (mm_fv ft ad h q0 a)).set b (.int x)))) H1 → va_D A ((mm_ws cl ft cA ad h).set q0 (ad q0, .inr (a, ((List.range (mm_nf cl a)).map (mm_fv ft ad h q0 a)).set b (.int x)))) → va_S A s.heap H1 locs1 → W p l e R s m args below meth c H1 locs1 (mm_n h - n0) (mm_z h - z0) Q (F0 m (pc + 3) ls (r.map (mm_cv ad))) := by
            intro H1 locs1 g1 g2 g3
            rw [mm_put_int hs (by rw [mm_nf_of hr0]; exact hbN) (by rw [hty]; rfl)] at g1 g2
            exact w _ _ _ _ ⟨g1, g2, g3, hw', hoL', hoo, P.2.2.2.2.2.2⟩
          have hlen : b < ((List.range (mm_nf cl a)).map (mm_fv ft ad h q0 a)).length := by
            rw [mm_nf_of hr0]
            simp [hbN]
          by_cases hfin : (r0.2.1 b).2.2.2 = true
          · rw [if_pos hfin] at hfi
            simp only [Bool.and_eq_true, decide_eq_true_eq] at hfi
            exact va_putF (D := D) (ty := .int) hx hb hts hC.1 (ft a) hC.2.1 hC.2.2.1 hown hKk P.1 P.2.1 P.2.2.1 q0 he hr0 b hbN (hts _ (hUs _ hl)) (fun x hx => by rw [hC.2.2.2.1 b hbN] at hx; exact hx) hfin (hini hfi.1) ((hC.2.2.2.1 b hbN).trans hfi.2) (by rw [← hty]; exact hC.2.1 b hbN) rfl rfl hlen hd kk
          · exact va_put (D := D) (ty := .int) hx hb hts hC.1 (ft a) hC.2.1 hC.2.2.1 hown hKk P.1 P.2.1 P.2.2.1 q0 he hr0 b hbN (hts _ (hUs _ hl)) (fun x hx => by rw [hC.2.2.2.1 b hbN] at hx; exact hx) (by simpa using hfin) (by rw [← hty]; exact hC.2.1 b hbN) rfl rfl hlen hd kk
        · cases hr
      · simp only [decide_eq_true_eq] at hty
        unfold mm_pZ at hr
        split at hr
        · rename_i hs
          have hoL' : ∀ v ∈ L, mm_okv (mm_n (mm_sI h q0 b x)) v := hoL
          have hoo : ∀ v ∈ r, mm_okv (mm_n (mm_sI h q0 b x)) v := mm_tl (mm_tl hok)
          have hw' : mm_wf (mm_sI h q0 b x) := mm_cp_wf hwf
          obtain ⟨F, w⟩ := hK _ _ _ _ hr hw' hoL' hoo
          refine ⟨F, fun H locs ad ls P => ?_⟩
          have he := mm_ws_get (cl := cl) (ft := ft) (cA := cA) (ad := ad) (hwf.lt hs.1)
          rw [mm_ce_o hs.1] at he
          have kk : ∀ (H1 : Heap) (locs1 : List Loc), va_P D cl ((mm_ws cl ft cA ad h).set q0 (ad q0, .inr (a, ((List.range (mm_nf cl a)).map (mm_fv ft ad h q0 a)).set b (.int x)))) H1 → va_D A ((mm_ws cl ft cA ad h).set q0 (ad q0, .inr (a, ((List.range (mm_nf cl a)).map (mm_fv ft ad h q0 a)).set b (.int x)))) → va_S A s.heap H1 locs1 → W p l e R s m args below meth c H1 locs1 (mm_n h - n0) (mm_z h - z0) Q (F0 m (pc + 3) ls (r.map (mm_cv ad))) := by
            intro H1 locs1 g1 g2 g3
            rw [mm_put_int hs.1 (by rw [mm_nf_of hr0]; exact hbN) (by rw [hty]; rfl)] at g1 g2
            exact w _ _ _ _ ⟨g1, g2, g3, hw', hoL', hoo, P.2.2.2.2.2.2⟩
          have hlen : b < ((List.range (mm_nf cl a)).map (mm_fv ft ad h q0 a)).length := by
            rw [mm_nf_of hr0]
            simp [hbN]
          by_cases hfin : (r0.2.1 b).2.2.2 = true
          · rw [if_pos hfin] at hfi
            simp only [Bool.and_eq_true, decide_eq_true_eq] at hfi
            exact va_putF (D := D) (ty := .boolean) hx hb hts hC.1 (ft a) hC.2.1 hC.2.2.1 hown hKk P.1 P.2.1 P.2.2.1 q0 he hr0 b hbN (hts _ (hUs _ hl)) (fun x hx => by rw [hC.2.2.2.1 b hbN] at hx; exact hx) hfin (hini hfi.1) ((hC.2.2.2.1 b hbN).trans hfi.2) (by rw [← hty]; exact hC.2.1 b hbN) (mm_bool_ok hs.2).1 (mm_bool_ok hs.2).2 hlen hd kk
          · exact va_put (D := D) (ty := .boolean) hx hb hts hC.1 (ft a) hC.2.1 hC.2.2.1 hown hKk P.1 P.2.1 P.2.2.1 q0 he hr0 b hbN (hts _ (hUs _ hl)) (fun x hx => by rw [hC.2.2.2.1 b hbN] at hx; exact hx) (by simpa using hfin) (by rw [← hty]; exact hC.2.1 b hbN) (mm_bool_ok hs.2).1 (mm_bool_ok hs.2).2 hlen hd kk
        · cases hr
      · cases hr
    · rename_i x q0 r
      split at hr
      · simp only at hty
        unfold mm_pR at hr
        split at hr
        · rename_i hs
          have hoL' : ∀ v ∈ L, mm_okv (mm_n (mm_sR h q0 b (some x))) v := hoL
          have hoo : ∀ v ∈ r, mm_okv (mm_n (mm_sR h q0 b (some x))) v := mm_tl (mm_tl hok)
          have hw' : mm_wf (mm_sR h q0 b (some x)) := mm_sR_wf hwf (show x < mm_n h from mm_hd hok)
          obtain ⟨F, w⟩ := hK _ _ _ _ hr hw' hoL' hoo
          refine ⟨F, fun H locs ad ls P => ?_⟩
          have he := mm_ws_get (cl := cl) (ft := ft) (cA := cA) (ad := ad) (hwf.lt hs)
          rw [mm_ce_o hs] at he
          have hnr : narrow (ft a b) (.ref (ad x)) = .ref (ad x) := by
            cases hf : ft a b <;> rw [hf] at hty <;> first | rfl | cases hty
          have hfr : fits (ft a b) (.ref (ad x)) = true := by
            cases hf : ft a b <;> rw [hf] at hty <;> first | rfl | cases hty
          have kk : ∀ (H1 : Heap) (locs1 : List Loc), va_P D cl ((mm_ws cl ft cA ad h).set q0 (ad q0, .inr (a, ((List.range (mm_nf cl a)).map (mm_fv ft ad h q0 a)).set b (.ref (ad x))))) H1 → va_D A ((mm_ws cl ft cA ad h).set q0 (ad q0, .inr (a, ((List.range (mm_nf cl a)).map (mm_fv ft ad h q0 a)).set b (.ref (ad x))))) → va_S A s.heap H1 locs1 → W p l e R s m args below meth c H1 locs1 (mm_n h - n0) (mm_z h - z0) Q (F0 m (pc + 3) ls (r.map (mm_cv ad))) := by
            intro H1 locs1 g1 g2 g3
            rw [mm_put_ref hs (by rw [mm_nf_of hr0]; exact hbN) hty] at g1 g2
            exact w _ _ _ _ ⟨g1, g2, g3, hw', hoL', hoo, P.2.2.2.2.2.2⟩
          have hlen : b < ((List.range (mm_nf cl a)).map (mm_fv ft ad h q0 a)).length := by
            rw [mm_nf_of hr0]
            simp [hbN]
          by_cases hfin : (r0.2.1 b).2.2.2 = true
          · rw [if_pos hfin] at hfi
            simp only [Bool.and_eq_true, decide_eq_true_eq] at hfi
            exact va_putF (D := D) (ty := ft a b) hx hb hts hC.1 (ft a) hC.2.1 hC.2.2.1 hown hKk P.1 P.2.1 P.2.2.1 q0 he hr0 b hbN (hts _ (hUs _ hl)) (fun x hx => by rw [hC.2.2.2.1 b hbN] at hx; exact hx) hfin (hini hfi.1) ((hC.2.2.2.1 b hbN).trans hfi.2) (hC.2.1 b hbN) hnr hfr hlen hd kk
          · exact va_put (D := D) (ty := ft a b) hx hb hts hC.1 (ft a) hC.2.1 hC.2.2.1 hown hKk P.1 P.2.1 P.2.2.1 q0 he hr0 b hbN (hts _ (hUs _ hl)) (fun x hx => by rw [hC.2.2.2.1 b hbN] at hx; exact hx) (by simpa using hfin) (hC.2.1 b hbN) hnr hfr hlen hd kk
        · cases hr
      · cases hr
    · cases hr
  · cases hck
set_option maxHeartbeats 4000000 in
theorem mm_step_iaload {p : Program} {l : Launch} {e : Env} {R : Room} {s : State} {m : MethodId} {args : Array Value} {below : List Frame} {meth : Method} {c : Code} {Q : State → Prop} {cc : ByteArray} {nL : Nat} {ini : Bool} {rt : Option FieldType} {own host TC : String} {Ts Us Xs : List Cond} {D : va_G} {cl : List vw_C} {ft : Nat → Nat → FieldType} {cA : Nat → ClassId} {A : Nat → Prop} {n0 z0 : Nat} {ad0 : Nat → Nat} {mt : Nat → Option mm_Mi} {E : mm_Ev} {K : mm_Cf → Option mm_Rs} {vv : Option Value} {h' : mm_Hp}
    (X : mm_Cx p s m args meth c cc nL ini rt own TC Ts Us Xs D cl ft cA A)
    (hK : ∀ pc L st h, K (pc, L, st, h) = some (vv, h') → mm_wf h → (∀ v ∈ L, mm_okv (mm_n h) v) → (∀ v ∈ st, mm_okv (mm_n h) v) → mm_Fin vv h h' ∧ ∀ H locs ad ls, mm_Pre s D cl ft cA A nL n0 z0 ad0 L st h H locs ad ls → W p l e R s m args below meth c H locs (mm_n h - n0) (mm_z h - z0) Q (F0 m pc ls (st.map (mm_cv ad))))
    {pc : Nat} {L st : List Value} {h : mm_Hp} {a b c' : Nat} {v : Int32} {q : List (Int32 × Nat)} (hck : mm_ck own host TC cc nL ini rt Us Xs cl ft mt pc .iaload a b c' v q = true) (hr : mm_ex E K pc L st h .iaload a b c' v q = some (vv, h')) (hwf : mm_wf h) (hoL : ∀ v ∈ L, mm_okv (mm_n h) v) (hok : ∀ v ∈ st, mm_okv (mm_n h) v) :
    mm_Fin vv h h' ∧ ∀ H locs ad ls, mm_Pre s D cl ft cA A nL n0 z0 ad0 L st h H locs ad ls → W p l e R s m args below meth c H locs (mm_n h - n0) (mm_z h - z0) Q (F0 m pc ls (st.map (mm_cv ad))) := by
  obtain ⟨hx, hb, hml, hown, hts, hKk, hA, hCl, hUs, hini, hrt, hlk, hXs⟩ := X
  have hd : decode cc pc = .ok (.iaload, 1) := by simpa [mm_ck] using hck
  simp only [mm_ex] at hr
  split at hr
  · rename_i i q0 r
    unfold mm_ld at hr
    split at hr
    · rename_i hin
      obtain ⟨n, hs, hi⟩ := mm_len_in hin
      have hoo : ∀ v ∈ (Value.int (mm_I h q0 i.toNatClampNeg)) :: r, mm_okv (mm_n h) v := mm_o1 trivial (mm_tl (mm_tl hok))
      obtain ⟨F, w⟩ := hK _ _ _ _ hr hwf hoL hoo
      refine ⟨F, fun H locs ad ls P => ?_⟩
      have he := mm_ws_get (cl := cl) (ft := ft) (cA := cA) (ad := ad) (hwf.lt hs)
      rw [mm_ce_a hs (by decide)] at he
      exact va_iald hx hb hKk P.1 q0 0 he rfl hi hd (w _ _ _ _ (P.stk hoo))
    · cases hr
  · cases hr
set_option maxHeartbeats 4000000 in
theorem mm_step_baload {p : Program} {l : Launch} {e : Env} {R : Room} {s : State} {m : MethodId} {args : Array Value} {below : List Frame} {meth : Method} {c : Code} {Q : State → Prop} {cc : ByteArray} {nL : Nat} {ini : Bool} {rt : Option FieldType} {own host TC : String} {Ts Us Xs : List Cond} {D : va_G} {cl : List vw_C} {ft : Nat → Nat → FieldType} {cA : Nat → ClassId} {A : Nat → Prop} {n0 z0 : Nat} {ad0 : Nat → Nat} {mt : Nat → Option mm_Mi} {E : mm_Ev} {K : mm_Cf → Option mm_Rs} {vv : Option Value} {h' : mm_Hp}
    (X : mm_Cx p s m args meth c cc nL ini rt own TC Ts Us Xs D cl ft cA A)
    (hK : ∀ pc L st h, K (pc, L, st, h) = some (vv, h') → mm_wf h → (∀ v ∈ L, mm_okv (mm_n h) v) → (∀ v ∈ st, mm_okv (mm_n h) v) → mm_Fin vv h h' ∧ ∀ H locs ad ls, mm_Pre s D cl ft cA A nL n0 z0 ad0 L st h H locs ad ls → W p l e R s m args below meth c H locs (mm_n h - n0) (mm_z h - z0) Q (F0 m pc ls (st.map (mm_cv ad))))
    {pc : Nat} {L st : List Value} {h : mm_Hp} {a b c' : Nat} {v : Int32} {q : List (Int32 × Nat)} (hck : mm_ck own host TC cc nL ini rt Us Xs cl ft mt pc .baload a b c' v q = true) (hr : mm_ex E K pc L st h .baload a b c' v q = some (vv, h')) (hwf : mm_wf h) (hoL : ∀ v ∈ L, mm_okv (mm_n h) v) (hok : ∀ v ∈ st, mm_okv (mm_n h) v) :
    mm_Fin vv h h' ∧ ∀ H locs ad ls, mm_Pre s D cl ft cA A nL n0 z0 ad0 L st h H locs ad ls → W p l e R s m args below meth c H locs (mm_n h - n0) (mm_z h - z0) Q (F0 m pc ls (st.map (mm_cv ad))) := by
  obtain ⟨hx, hb, hml, hown, hts, hKk, hA, hCl, hUs, hini, hrt, hlk, hXs⟩ := X
  have hd : decode cc pc = .ok (.baload, 1) := by simpa [mm_ck] using hck
  simp only [mm_ex] at hr
  split at hr
  · rename_i i q0 r
    split at hr
    · unfold mm_ld at hr
      split at hr
      · rename_i hin
        obtain ⟨n, hs, hi⟩ := mm_len_in hin
        have hoo : ∀ v ∈ (Value.int (mm_I h q0 i.toNatClampNeg)) :: r, mm_okv (mm_n h) v := mm_o1 trivial (mm_tl (mm_tl hok))
        obtain ⟨F, w⟩ := hK _ _ _ _ hr hwf hoL hoo
        refine ⟨F, fun H locs ad ls P => ?_⟩
        have he := mm_ws_get (cl := cl) (ft := ft) (cA := cA) (ad := ad) (hwf.lt hs)
        rw [mm_ce_a hs (by decide)] at he
        exact va_bald hx hb hKk P.1 q0 1 he rfl hi hd (w _ _ _ _ (P.stk hoo))
      · cases hr
    · unfold mm_ld at hr
      split at hr
      · rename_i hin
        obtain ⟨n, hs, hi⟩ := mm_len_in hin
        have hoo : ∀ v ∈ (Value.int (mm_I h q0 i.toNatClampNeg)) :: r, mm_okv (mm_n h) v := mm_o1 trivial (mm_tl (mm_tl hok))
        obtain ⟨F, w⟩ := hK _ _ _ _ hr hwf hoL hoo
        refine ⟨F, fun H locs ad ls P => ?_⟩
        have he := mm_ws_get (cl := cl) (ft := ft) (cA := cA) (ad := ad) (hwf.lt hs)
        rw [mm_ce_a hs (by decide)] at he
        exact va_zald hx hb hKk P.1 q0 2 he rfl hi hd (w _ _ _ _ (P.stk hoo))
      · cases hr
    · cases hr
  · cases hr
set_option maxHeartbeats 4000000 in
theorem mm_step_iastore {p : Program} {l : Launch} {e : Env} {R : Room} {s : State} {m : MethodId} {args : Array Value} {below : List Frame} {meth : Method} {c : Code} {Q : State → Prop} {cc : ByteArray} {nL : Nat} {ini : Bool} {rt : Option FieldType} {own host TC : String} {Ts Us Xs : List Cond} {D : va_G} {cl : List vw_C} {ft : Nat → Nat → FieldType} {cA : Nat → ClassId} {A : Nat → Prop} {n0 z0 : Nat} {ad0 : Nat → Nat} {mt : Nat → Option mm_Mi} {E : mm_Ev} {K : mm_Cf → Option mm_Rs} {vv : Option Value} {h' : mm_Hp}
    (X : mm_Cx p s m args meth c cc nL ini rt own TC Ts Us Xs D cl ft cA A)
    (hK : ∀ pc L st h, K (pc, L, st, h) = some (vv, h') → mm_wf h → (∀ v ∈ L, mm_okv (mm_n h) v) → (∀ v ∈ st, mm_okv (mm_n h) v) → mm_Fin vv h h' ∧ ∀ H locs ad ls, mm_Pre s D cl ft cA A nL n0 z0 ad0 L st h H locs ad ls → W p l e R s m args below meth c H locs (mm_n h - n0) (mm_z h - z0) Q (F0 m pc ls (st.map (mm_cv ad))))
    {pc : Nat} {L st : List Value} {h : mm_Hp} {a b c' : Nat} {v : Int32} {q : List (Int32 × Nat)} (hck : mm_ck own host TC cc nL ini rt Us Xs cl ft mt pc .iastore a b c' v q = true) (hr : mm_ex E K pc L st h .iastore a b c' v q = some (vv, h')) (hwf : mm_wf h) (hoL : ∀ v ∈ L, mm_okv (mm_n h) v) (hok : ∀ v ∈ st, mm_okv (mm_n h) v) :
    mm_Fin vv h h' ∧ ∀ H locs ad ls, mm_Pre s D cl ft cA A nL n0 z0 ad0 L st h H locs ad ls → W p l e R s m args below meth c H locs (mm_n h - n0) (mm_z h - z0) Q (F0 m pc ls (st.map (mm_cv ad))) := by
  obtain ⟨hx, hb, hml, hown, hts, hKk, hA, hCl, hUs, hini, hrt, hlk, hXs⟩ := X
  have hd : decode cc pc = .ok (.iastore, 1) := by simpa [mm_ck] using hck
  simp only [mm_ex] at hr
  split at hr
  · rename_i x i q0 r
    unfold mm_st at hr
    split at hr
    · rename_i hin
      obtain ⟨n, hs, hi⟩ := mm_len_in hin
      have hoL' : ∀ v ∈ L, mm_okv (mm_n (mm_sI h q0 i.toNatClampNeg (x))) v := hoL
      have hoo : ∀ v ∈ r, mm_okv (mm_n (mm_sI h q0 i.toNatClampNeg (x))) v := mm_tl (mm_tl (mm_tl hok))
      have hw' : mm_wf (mm_sI h q0 i.toNatClampNeg (x)) := mm_cp_wf hwf
      obtain ⟨F, w⟩ := hK _ _ _ _ hr hw' hoL' hoo
      refine ⟨F, fun H locs ad ls P => ?_⟩
      have he := mm_ws_get (cl := cl) (ft := ft) (cA := cA) (ad := ad) (hwf.lt hs)
      rw [mm_ce_a hs (by decide)] at he
      refine va_iast hx hb hKk P.1 P.2.1 P.2.2.1 q0 0 he rfl hi hd fun H1 locs1 g1 g2 g3 => ?_
      rw [mm_put_arr hs (by decide)] at g1 g2
      exact w _ _ _ _ ⟨g1, g2, g3, hw', hoL', hoo, P.2.2.2.2.2.2⟩
    · cases hr
  · cases hr
set_option maxHeartbeats 4000000 in
theorem mm_step_bastore {p : Program} {l : Launch} {e : Env} {R : Room} {s : State} {m : MethodId} {args : Array Value} {below : List Frame} {meth : Method} {c : Code} {Q : State → Prop} {cc : ByteArray} {nL : Nat} {ini : Bool} {rt : Option FieldType} {own host TC : String} {Ts Us Xs : List Cond} {D : va_G} {cl : List vw_C} {ft : Nat → Nat → FieldType} {cA : Nat → ClassId} {A : Nat → Prop} {n0 z0 : Nat} {ad0 : Nat → Nat} {mt : Nat → Option mm_Mi} {E : mm_Ev} {K : mm_Cf → Option mm_Rs} {vv : Option Value} {h' : mm_Hp}
    (X : mm_Cx p s m args meth c cc nL ini rt own TC Ts Us Xs D cl ft cA A)
    (hK : ∀ pc L st h, K (pc, L, st, h) = some (vv, h') → mm_wf h → (∀ v ∈ L, mm_okv (mm_n h) v) → (∀ v ∈ st, mm_okv (mm_n h) v) → mm_Fin vv h h' ∧ ∀ H locs ad ls, mm_Pre s D cl ft cA A nL n0 z0 ad0 L st h H locs ad ls → W p l e R s m args below meth c H locs (mm_n h - n0) (mm_z h - z0) Q (F0 m pc ls (st.map (mm_cv ad))))
    {pc : Nat} {L st : List Value} {h : mm_Hp} {a b c' : Nat} {v : Int32} {q : List (Int32 × Nat)} (hck : mm_ck own host TC cc nL ini rt Us Xs cl ft mt pc .bastore a b c' v q = true) (hr : mm_ex E K pc L st h .bastore a b c' v q = some (vv, h')) (hwf : mm_wf h) (hoL : ∀ v ∈ L, mm_okv (mm_n h) v) (hok : ∀ v ∈ st, mm_okv (mm_n h) v) :
    mm_Fin vv h h' ∧ ∀ H locs ad ls, mm_Pre s D cl ft cA A nL n0 z0 ad0 L st h H locs ad ls → W p l e R s m args below meth c H locs (mm_n h - n0) (mm_z h - z0) Q (F0 m pc ls (st.map (mm_cv ad))) := by
  obtain ⟨hx, hb, hml, hown, hts, hKk, hA, hCl, hUs, hini, hrt, hlk, hXs⟩ := X
  have hd : decode cc pc = .ok (.bastore, 1) := by simpa [mm_ck] using hck
  simp only [mm_ex] at hr
  split at hr
  · rename_i x i q0 r
    split at hr
    · unfold mm_st at hr
      split at hr
      · rename_i hin
        obtain ⟨n, hs, hi⟩ := mm_len_in hin
        have hoL' : ∀ v ∈ L, mm_okv (mm_n (mm_sI h q0 i.toNatClampNeg (x.toInt8.toInt32))) v := hoL
        have hoo : ∀ v ∈ r, mm_okv (mm_n (mm_sI h q0 i.toNatClampNeg (x.toInt8.toInt32))) v := mm_tl (mm_tl (mm_tl hok))
        have hw' : mm_wf (mm_sI h q0 i.toNatClampNeg (x.toInt8.toInt32)) := mm_cp_wf hwf
        obtain ⟨F, w⟩ := hK _ _ _ _ hr hw' hoL' hoo
        refine ⟨F, fun H locs ad ls P => ?_⟩
        have he := mm_ws_get (cl := cl) (ft := ft) (cA := cA) (ad := ad) (hwf.lt hs)
        rw [mm_ce_a hs (by decide)] at he
        refine va_bast hx hb hKk P.1 P.2.1 P.2.2.1 q0 1 he rfl hi hd fun H1 locs1 g1 g2 g3 => ?_
        rw [vp_nar_byte, mm_put_arr hs (by decide)] at g1 g2
        exact w _ _ _ _ ⟨g1, g2, g3, hw', hoL', hoo, P.2.2.2.2.2.2⟩
      · cases hr
    · unfold mm_st at hr
      split at hr
      · rename_i hin
        obtain ⟨n, hs, hi⟩ := mm_len_in hin
        have hoL' : ∀ v ∈ L, mm_okv (mm_n (mm_sI h q0 i.toNatClampNeg (vp_nar .boolean x))) v := hoL
        have hoo : ∀ v ∈ r, mm_okv (mm_n (mm_sI h q0 i.toNatClampNeg (vp_nar .boolean x))) v := mm_tl (mm_tl (mm_tl hok))
        have hw' : mm_wf (mm_sI h q0 i.toNatClampNeg (vp_nar .boolean x)) := mm_cp_wf hwf
        obtain ⟨F, w⟩ := hK _ _ _ _ hr hw' hoL' hoo
        refine ⟨F, fun H locs ad ls P => ?_⟩
        have he := mm_ws_get (cl := cl) (ft := ft) (cA := cA) (ad := ad) (hwf.lt hs)
        rw [mm_ce_a hs (by decide)] at he
        refine va_zast hx hb hKk P.1 P.2.1 P.2.2.1 q0 2 he rfl hi hd fun H1 locs1 g1 g2 g3 => ?_
        rw [mm_put_arr hs (by decide)] at g1 g2
        exact w _ _ _ _ ⟨g1, g2, g3, hw', hoL', hoo, P.2.2.2.2.2.2⟩
      · cases hr
    · cases hr
  · cases hr
set_option maxHeartbeats 4000000 in
theorem mm_step_aaload {p : Program} {l : Launch} {e : Env} {R : Room} {s : State} {m : MethodId} {args : Array Value} {below : List Frame} {meth : Method} {c : Code} {Q : State → Prop} {cc : ByteArray} {nL : Nat} {ini : Bool} {rt : Option FieldType} {own host TC : String} {Ts Us Xs : List Cond} {D : va_G} {cl : List vw_C} {ft : Nat → Nat → FieldType} {cA : Nat → ClassId} {A : Nat → Prop} {n0 z0 : Nat} {ad0 : Nat → Nat} {mt : Nat → Option mm_Mi} {E : mm_Ev} {K : mm_Cf → Option mm_Rs} {vv : Option Value} {h' : mm_Hp}
    (X : mm_Cx p s m args meth c cc nL ini rt own TC Ts Us Xs D cl ft cA A)
    (hK : ∀ pc L st h, K (pc, L, st, h) = some (vv, h') → mm_wf h → (∀ v ∈ L, mm_okv (mm_n h) v) → (∀ v ∈ st, mm_okv (mm_n h) v) → mm_Fin vv h h' ∧ ∀ H locs ad ls, mm_Pre s D cl ft cA A nL n0 z0 ad0 L st h H locs ad ls → W p l e R s m args below meth c H locs (mm_n h - n0) (mm_z h - z0) Q (F0 m pc ls (st.map (mm_cv ad))))
    {pc : Nat} {L st : List Value} {h : mm_Hp} {a b c' : Nat} {v : Int32} {q : List (Int32 × Nat)} (hck : mm_ck own host TC cc nL ini rt Us Xs cl ft mt pc .aaload a b c' v q = true) (hr : mm_ex E K pc L st h .aaload a b c' v q = some (vv, h')) (hwf : mm_wf h) (hoL : ∀ v ∈ L, mm_okv (mm_n h) v) (hok : ∀ v ∈ st, mm_okv (mm_n h) v) :
    mm_Fin vv h h' ∧ ∀ H locs ad ls, mm_Pre s D cl ft cA A nL n0 z0 ad0 L st h H locs ad ls → W p l e R s m args below meth c H locs (mm_n h - n0) (mm_z h - z0) Q (F0 m pc ls (st.map (mm_cv ad))) := by
  obtain ⟨hx, hb, hml, hown, hts, hKk, hA, hCl, hUs, hini, hrt, hlk, hXs⟩ := X
  have hd : decode cc pc = .ok (.aaload, 1) := by simpa [mm_ck] using hck
  simp only [mm_ex] at hr
  split at hr
  · rename_i i q0 r
    unfold mm_lr at hr
    split at hr
    · rename_i hin
      obtain ⟨n, hs, hi⟩ := mm_len_in hin
      obtain ⟨x, hx1, hr⟩ := Option.bind_eq_some_iff.mp hr
      have hoo : ∀ v ∈ (Value.ref x) :: r, mm_okv (mm_n h) v := mm_o1 (hwf.2.1 _ _ _ hx1) (mm_tl (mm_tl hok))
      obtain ⟨F, w⟩ := hK _ _ _ _ hr hwf hoL hoo
      refine ⟨F, fun H locs ad ls P => ?_⟩
      have he := mm_ws_get (cl := cl) (ft := ft) (cA := cA) (ad := ad) (hwf.lt hs)
      rw [mm_ce_q hs] at he
      refine va_aldq (C := TC) hx hb hKk P.1 q0 3 he rfl hi hd ?_
      have w1 := w _ _ _ _ (P.stk hoo)
      rw [hx1]
      exact w1
    · cases hr
  · cases hr
set_option maxHeartbeats 4000000 in
theorem mm_step_aastore {p : Program} {l : Launch} {e : Env} {R : Room} {s : State} {m : MethodId} {args : Array Value} {below : List Frame} {meth : Method} {c : Code} {Q : State → Prop} {cc : ByteArray} {nL : Nat} {ini : Bool} {rt : Option FieldType} {own host TC : String} {Ts Us Xs : List Cond} {D : va_G} {cl : List vw_C} {ft : Nat → Nat → FieldType} {cA : Nat → ClassId} {A : Nat → Prop} {n0 z0 : Nat} {ad0 : Nat → Nat} {mt : Nat → Option mm_Mi} {E : mm_Ev} {K : mm_Cf → Option mm_Rs} {vv : Option Value} {h' : mm_Hp}
    (X : mm_Cx p s m args meth c cc nL ini rt own TC Ts Us Xs D cl ft cA A)
    (hK : ∀ pc L st h, K (pc, L, st, h) = some (vv, h') → mm_wf h → (∀ v ∈ L, mm_okv (mm_n h) v) → (∀ v ∈ st, mm_okv (mm_n h) v) → mm_Fin vv h h' ∧ ∀ H locs ad ls, mm_Pre s D cl ft cA A nL n0 z0 ad0 L st h H locs ad ls → W p l e R s m args below meth c H locs (mm_n h - n0) (mm_z h - z0) Q (F0 m pc ls (st.map (mm_cv ad))))
    {pc : Nat} {L st : List Value} {h : mm_Hp} {a b c' : Nat} {v : Int32} {q : List (Int32 × Nat)} (hck : mm_ck own host TC cc nL ini rt Us Xs cl ft mt pc .aastore a b c' v q = true) (hr : mm_ex E K pc L st h .aastore a b c' v q = some (vv, h')) (hwf : mm_wf h) (hoL : ∀ v ∈ L, mm_okv (mm_n h) v) (hok : ∀ v ∈ st, mm_okv (mm_n h) v) :
    mm_Fin vv h h' ∧ ∀ H locs ad ls, mm_Pre s D cl ft cA A nL n0 z0 ad0 L st h H locs ad ls → W p l e R s m args below meth c H locs (mm_n h - n0) (mm_z h - z0) Q (F0 m pc ls (st.map (mm_cv ad))) := by
  obtain ⟨hx, hb, hml, hown, hts, hKk, hA, hCl, hUs, hini, hrt, hlk, hXs⟩ := X
  simp only [mm_ck, Bool.and_eq_true, decide_eq_true_eq] at hck
  obtain ⟨hd, hck⟩ := hck
  split at hck
  · rename_i r0 hr0
    have hTC : r0.1 = TC := by simpa using hck
    simp only [mm_ex] at hr
    split at hr
    · rename_i x i q0 r
      unfold mm_sr at hr
      split at hr
      · rename_i hin
        obtain ⟨n, hs, hi⟩ := mm_len_in hin.1
        have hoL' : ∀ v ∈ L, mm_okv (mm_n (mm_sR h q0 i.toNatClampNeg (some x))) v := hoL
        have hoo : ∀ v ∈ r, mm_okv (mm_n (mm_sR h q0 i.toNatClampNeg (some x))) v := mm_tl (mm_tl (mm_tl hok))
        have hw' : mm_wf (mm_sR h q0 i.toNatClampNeg (some x)) := mm_sR_wf hwf (show x < mm_n h from mm_hd hok)
        obtain ⟨F, w⟩ := hK _ _ _ _ hr hw' hoL' hoo
        refine ⟨F, fun H locs ad ls P => ?_⟩
        have he := mm_ws_get (cl := cl) (ft := ft) (cA := cA) (ad := ad) (hwf.lt hs)
        rw [mm_ce_q hs] at he
        have hv := mm_ws_get (cl := cl) (ft := ft) (cA := cA) (ad := ad) (hwf.lt hin.2)
        rw [mm_ce_o hin.2] at hv
        refine va_astq (r := r0) hx hb hKk P.1 P.2.1 P.2.2.1 q0 3 x a he (by rw [hTC]; rfl) hv hr0 hi hd fun H1 locs1 g1 g2 g3 => ?_
        rw [mm_put_arq hs] at g1 g2
        exact w _ _ _ _ ⟨g1, g2, g3, hw', hoL', hoo, P.2.2.2.2.2.2⟩
      · cases hr
    · cases hr
  · cases hck
set_option maxHeartbeats 4000000 in
theorem mm_step_arraylength {p : Program} {l : Launch} {e : Env} {R : Room} {s : State} {m : MethodId} {args : Array Value} {below : List Frame} {meth : Method} {c : Code} {Q : State → Prop} {cc : ByteArray} {nL : Nat} {ini : Bool} {rt : Option FieldType} {own host TC : String} {Ts Us Xs : List Cond} {D : va_G} {cl : List vw_C} {ft : Nat → Nat → FieldType} {cA : Nat → ClassId} {A : Nat → Prop} {n0 z0 : Nat} {ad0 : Nat → Nat} {mt : Nat → Option mm_Mi} {E : mm_Ev} {K : mm_Cf → Option mm_Rs} {vv : Option Value} {h' : mm_Hp}
    (X : mm_Cx p s m args meth c cc nL ini rt own TC Ts Us Xs D cl ft cA A)
    (hK : ∀ pc L st h, K (pc, L, st, h) = some (vv, h') → mm_wf h → (∀ v ∈ L, mm_okv (mm_n h) v) → (∀ v ∈ st, mm_okv (mm_n h) v) → mm_Fin vv h h' ∧ ∀ H locs ad ls, mm_Pre s D cl ft cA A nL n0 z0 ad0 L st h H locs ad ls → W p l e R s m args below meth c H locs (mm_n h - n0) (mm_z h - z0) Q (F0 m pc ls (st.map (mm_cv ad))))
    {pc : Nat} {L st : List Value} {h : mm_Hp} {a b c' : Nat} {v : Int32} {q : List (Int32 × Nat)} (hck : mm_ck own host TC cc nL ini rt Us Xs cl ft mt pc .arraylength a b c' v q = true) (hr : mm_ex E K pc L st h .arraylength a b c' v q = some (vv, h')) (hwf : mm_wf h) (hoL : ∀ v ∈ L, mm_okv (mm_n h) v) (hok : ∀ v ∈ st, mm_okv (mm_n h) v) :
    mm_Fin vv h h' ∧ ∀ H locs ad ls, mm_Pre s D cl ft cA A nL n0 z0 ad0 L st h H locs ad ls → W p l e R s m args below meth c H locs (mm_n h - n0) (mm_z h - z0) Q (F0 m pc ls (st.map (mm_cv ad))) := by
  obtain ⟨hx, hb, hml, hown, hts, hKk, hA, hCl, hUs, hini, hrt, hlk, hXs⟩ := X
  have hd : decode cc pc = .ok (.arraylength, 1) := by simpa [mm_ck] using hck
  simp only [mm_ex] at hr
  split at hr
  · rename_i q0 r
    unfold mm_al at hr
    split at hr
    · rename_i t n hs
      have hoo : ∀ v ∈ (Value.int (Int32.ofNat n)) :: r, mm_okv (mm_n h) v := mm_o1 trivial (mm_tl hok)
      obtain ⟨F, w⟩ := hK _ _ _ _ hr hwf hoL hoo
      refine ⟨F, fun H locs ad ls P => ?_⟩
      have he := mm_ws_get (cl := cl) (ft := ft) (cA := cA) (ad := ad) (hwf.lt hs)
      have w1 := w _ _ _ _ (P.stk hoo)
      have ht4 : t < 4 := hwf.2.2 _ _ _ hs
      rcases (show t = 3 ∨ t = 0 ∨ t = 1 ∨ t = 2 by omega) with rfl | rfl | rfl | rfl
      · rw [mm_ce_q hs] at he
        exact va_alen hx hb hKk P.1 q0 3 he rfl rfl hd w1
      · rw [mm_ce_a hs (by decide)] at he
        exact va_alen hx hb hKk P.1 q0 0 he rfl rfl hd w1
      · rw [mm_ce_a hs (by decide)] at he
        exact va_alen hx hb hKk P.1 q0 1 he rfl rfl hd w1
      · rw [mm_ce_a hs (by decide)] at he
        exact va_alen hx hb hKk P.1 q0 2 he rfl rfl hd w1
    · cases hr
  · cases hr
