/-! ===== THE SMALL MACHINE'S METHODS ARE CONTRACTS ===== -/
def mm_CallsF (mt : Nat → Option mm_Mi) (E : mm_Ev) : Prop := ∀ (y : Nat) (as : List Value) (h : mm_Hp) (v : Option Value) (h1 : mm_Hp), E y as h = some (v, h1) → mm_wf h → (∀ x ∈ as, mm_okv (mm_n h) x) → mm_Fin v h h1
theorem mm_FinTr {v : Option Value} {h h1 h' : mm_Hp} (a : mm_n h ≤ mm_n h1) (b : mm_z h ≤ mm_z h1) (F : mm_Fin v h1 h') : mm_Fin v h h' := ⟨F.1, Nat.le_trans a F.2.1, Nat.le_trans b F.2.2.1, F.2.2.2⟩
theorem mm_FinS {v : Option Value} {h h1 h' : mm_Hp} (F : mm_Fin v h1 h') (a : mm_n h ≤ mm_n h1) (b : mm_z h ≤ mm_z h1) : mm_Fin v h h' := mm_FinTr a b F
theorem mm_br_or {α : Type} {cd : ClassFile.Cond} {x y : Int32} {T F : Option α} {r : α} (h : mm_br cd x y T F = some r) : T = some r ∨ F = some r := by
  cases cd <;> simp only [mm_br] at h <;> split at h <;> first | exact Or.inl h | exact Or.inr h
set_option maxHeartbeats 4000000 in
theorem mm_ex_fin {own host TC : String} {cc : ByteArray} {nL : Nat} {ini : Bool} {rt : Option FieldType} {Us Xs : List Cond} {cl : List vw_C} {ft : Nat → Nat → FieldType} {mt : Nat → Option mm_Mi} {E : mm_Ev} {K : mm_Cf → Option mm_Rs} {vv : Option Value} {h' : mm_Hp} (hE : mm_CallsF mt E)
    (hK : ∀ pc L st h, K (pc, L, st, h) = some (vv, h') → mm_wf h → (∀ v ∈ L, mm_okv (mm_n h) v) → (∀ v ∈ st, mm_okv (mm_n h) v) → mm_Fin vv h h')
    {pc : Nat} {L st : List Value} {h : mm_Hp} {i : Instr} {a b c : Nat} {v : Int32} {q : List (Int32 × Nat)} (hck : mm_ck own host TC cc nL ini rt Us Xs cl ft mt pc i a b c v q = true) (hr : mm_ex E K pc L st h i a b c v q = some (vv, h')) (hwf : mm_wf h) (hoL : ∀ v ∈ L, mm_okv (mm_n h) v) (hok : ∀ v ∈ st, mm_okv (mm_n h) v) : mm_Fin vv h h' := by
  have hcall : ∀ (as r : List Value) (y : Nat) (v1 : Option Value) (h1 : mm_Hp), st = as.reverse ++ r → E y as h = some (v1, h1) → K (pc + 3, L, v1.toList ++ r, h1) = some (vv, h') → mm_Fin vv h h' := by
    intro as r y v1 h1 hst hE1 hr1
    have F1 := hE y as h v1 h1 hE1 hwf (fun x hx => hok x (by rw [hst]; exact List.mem_append_left _ (List.mem_reverse.mpr hx)))
    refine mm_FinTr F1.2.1 F1.2.2.1 (hK _ _ _ _ hr1 F1.1 (fun x hx => (hoL x hx).up F1.2.1) fun x hx => ?_)
    rcases List.mem_append.mp hx with g | g
    · exact F1.2.2.2 x (by cases v1 <;> simp at g ⊢; exact g.symm)
    · exact (hok x (by rw [hst]; exact List.mem_append_right _ g)).up F1.2.1
  have hnew : ∀ (z : Nat) (sh : Nat ⊕ (Nat × Nat)) (pc' : Nat) (r : List Value), (∀ t n, sh = .inr (t, n) → t < 4) → (∀ v ∈ r, mm_okv (mm_n h) v) → K (pc', L, .ref (mm_n h) :: r, mm_nw h z sh) = some (vv, h') → mm_Fin vv h h' := by
    intro z sh pc' r hsh hor hr1
    exact mm_FinTr (Nat.le_succ _) (Nat.le_add_right _ _) (hK _ _ _ _ hr1 (mm_nw_wf hwf hsh) (fun x hx => (hoL x hx).up (Nat.le_succ _)) (mm_o1 (Nat.lt_succ_self _) fun x hx => (hor x hx).up (Nat.le_succ _)))
  cases i <;> simp only [mm_ex, mm_dv, mm_rm, mm_fI, mm_fR, mm_pI, mm_pZ, mm_pR, mm_ld, mm_st, mm_lr, mm_sr, mm_al, mm_na, mm_cy, mm_zr, mm_iv, mm_ip, mm_is] at hr <;> (try (cases hr; done)) <;> (repeat' split at hr) <;> (try (cases hr; done))
  all_goals first
    | exact hK _ _ _ _ hr hwf hoL (mm_o1 trivial hok)
    | exact hK _ _ _ _ hr hwf hoL (mm_o1 trivial (mm_tl hok))
    | exact hK _ _ _ _ hr hwf hoL (mm_o1 trivial (mm_tl (mm_tl hok)))
    | exact hK _ _ _ _ hr hwf hoL (mm_tl hok)
    | exact hK _ _ _ _ hr hwf hoL (mm_tl (mm_tl hok))
    | exact hK _ _ _ _ hr hwf hoL hok
    | exact hK _ _ _ _ hr hwf hoL (mm_o1 (mm_hd hok) hok)
    | exact hK _ _ _ _ hr hwf hoL (mm_o1 (mm_hd hok) (mm_o1 (mm_hd (mm_tl hok)) hok))
    | exact hK _ _ _ _ hr hwf hoL (mm_o1 (mm_rf_ok hwf) (mm_tl hok))
    | exact hK _ _ _ _ hr hwf hoL (mm_o1 (mm_rf_ok hwf) (mm_tl (mm_tl hok)))
    | exact hK _ _ _ _ hr hwf (mm_set_ok (mm_hd hok) hoL) (mm_tl hok)
    | exact hK _ _ _ _ hr hwf (mm_set_ok trivial hoL) hok
    | exact mm_FinS (hK _ _ _ _ hr (mm_cp_wf hwf) hoL (mm_tl (mm_tl hok))) (Nat.le_refl _) (Nat.le_refl _)
    | exact mm_FinS (hK _ _ _ _ hr (mm_cp_wf hwf) hoL (mm_tl (mm_tl (mm_tl hok)))) (Nat.le_refl _) (Nat.le_refl _)
    | exact mm_FinS (hK _ _ _ _ hr (mm_cp_wf hwf) hoL (mm_tl (mm_tl (mm_tl (mm_tl (mm_tl hok)))))) (Nat.le_refl _) (Nat.le_refl _)
    | exact mm_FinS (hK _ _ _ _ hr (mm_sR_wf hwf (mm_hd hok)) hoL (mm_tl (mm_tl hok))) (Nat.le_refl _) (Nat.le_refl _)
    | exact mm_FinS (hK _ _ _ _ hr (mm_sR_wf hwf (mm_hd hok)) hoL (mm_tl (mm_tl (mm_tl hok)))) (Nat.le_refl _) (Nat.le_refl _)
    | (cases hr; exact ⟨hwf, Nat.le_refl _, Nat.le_refl _, fun y hy => by cases hy; exact trivial⟩)
    | (cases hr; exact ⟨hwf, Nat.le_refl _, Nat.le_refl _, fun y hy => by cases hy; exact mm_hd hok⟩)
    | (cases hr; exact ⟨hwf, Nat.le_refl _, Nat.le_refl _, fun y hy => by cases hy⟩)
    | (obtain ⟨⟨v1, h1⟩, hE1, hr1⟩ := Option.bind_eq_some_iff.mp hr; exact hcall _ _ _ v1 h1 (mm_pop_0 (by assumption)).2 hE1 hr1)
    | exact hK _ _ _ _ hr hwf hoL (mm_o1 (hoL _ (List.mem_of_getElem? ((mm_nth_eq _ _).symm.trans (by assumption)))) hok)
    | (rcases mm_br_or hr with hr | hr <;> exact hK _ _ _ _ hr hwf hoL (mm_tl hok))
    | (rcases mm_br_or hr with hr | hr <;> exact hK _ _ _ _ hr hwf hoL (mm_tl (mm_tl hok)))
    | (rcases mm_sw_some hr with ⟨j, t, _, hr⟩ | ⟨_, hr⟩ <;> exact hK _ _ _ _ hr hwf hoL (mm_tl hok))
    | (obtain ⟨x, hx1, hr1⟩ := Option.bind_eq_some_iff.mp hr; exact hK _ _ _ _ hr1 hwf hoL (mm_o1 (hwf.2.1 _ _ _ hx1) (mm_tl hok)))
    | (obtain ⟨x, hx1, hr1⟩ := Option.bind_eq_some_iff.mp hr; exact hK _ _ _ _ hr1 hwf hoL (mm_o1 (hwf.2.1 _ _ _ hx1) (mm_tl (mm_tl hok))))
    | exact hnew _ (.inl _) _ _ (fun t n e => by cases e) hok hr
    | exact hnew _ (.inr (3, _)) _ _ (fun t n e => by cases e; decide) (mm_tl hok) hr
    | exact hnew _ (.inr (a, _)) _ _ (fun t n e => by
        cases e
        simp only [mm_ck, Bool.and_eq_true, decide_eq_true_eq] at hck
        rcases hck.1.2 with ⟨_, e⟩ | ⟨_, e⟩ | ⟨_, e⟩ <;> omega) (mm_tl hok) hr
/-- a method's entries are checked, over some of the words -/
def mm_Pe (host TC : String) (Ts Xs : List Cond) (cl : List vw_C) (ft : Nat → Nat → FieldType) (mt : Nat → Option mm_Mi) (q : mm_Mi) : Prop :=
  plainName q.1.cls = true ∧ q.2.2.2.2.1 ≤ q.2.2.1 ∧ ∃ Us : List Cond, (∀ w ∈ Us, w ∈ Ts) ∧ ∀ pc i a b c v l, mm_at q.2.2.2.2.2.2 pc = some (i, a, b, c, v, l) → mm_ck q.1.cls host TC q.2.1 q.2.2.1 (decide (q.2.2.2.2.2.1 = 2)) q.2.2.2.1 Us Xs cl ft mt pc i a b c v l = true
theorem mm_rn_fin {own host TC : String} {cc : ByteArray} {nL : Nat} {ini : Bool} {rt : Option FieldType} {Us Xs : List Cond} {cl : List vw_C} {ft : Nat → Nat → FieldType} {mt : Nat → Option mm_Mi} {E : mm_Ev} {cs : mm_Cs} {vv : Option Value} {h' : mm_Hp} (hE : mm_CallsF mt E)
    (hcs : ∀ pc i a b c v l, mm_at cs pc = some (i, a, b, c, v, l) → mm_ck own host TC cc nL ini rt Us Xs cl ft mt pc i a b c v l = true) :
    ∀ (n pc : Nat) (L st : List Value) (h : mm_Hp), mm_rn E cs n (pc, L, st, h) = some (vv, h') → mm_wf h → (∀ v ∈ L, mm_okv (mm_n h) v) → (∀ v ∈ st, mm_okv (mm_n h) v) → mm_Fin vv h h' := by
  intro n
  induction n with
  | zero => intro pc L st h hr; cases hr
  | succ n ih =>
    intro pc L st h hr hwf hoL hok
    have hr : mm_sk E cs (mm_rn E cs n) (pc, L, st, h) = some (vv, h') := hr
    unfold mm_sk at hr
    split at hr
    · rename_i i a b c v l hat
      exact mm_ex_fin hE ih (hcs _ _ _ _ _ _ _ hat) hr hwf hoL hok
    · cases hr
theorem mm_in_ok {n k : Nat} {as : List Value} (h : ∀ x ∈ as, mm_okv n x) : ∀ x ∈ as ++ List.replicate k (Value.retAddr 0), mm_okv n x := fun x hx => by
  rcases List.mem_append.mp hx with g | g
  · exact h x g
  · rw [List.eq_of_mem_replicate g]; exact trivial
theorem mm_ev_fin {host TC : String} {Ts Xs : List Cond} {cl : List vw_C} {ft : Nat → Nat → FieldType} {mt : Nat → Option mm_Mi} (hPe : ∀ y q, mt y = some q → mm_Pe host TC Ts Xs cl ft mt q) : ∀ d, mm_CallsF mt (mm_ev mt d)
  | 0 => fun y as h v h1 he => by cases he
  | d + 1 => fun y as h v h1 he hwf hok => by
    have he : (match mt y with
      | some (_, _, nL, _, _, _, cs) => mm_rx (mm_ev mt d) cs (0, as ++ List.replicate (nL - as.length) (.retAddr 0), [], h)
      | none => none) = some (v, h1) := he
    cases hq : mt y with
    | none => rw [hq] at he; cases he
    | some q =>
      rw [hq] at he
      obtain ⟨-, -, Us, -, hcs⟩ := hPe y q hq
      obtain ⟨n, hn⟩ := mm_rx_some he
      exact mm_rn_fin (mm_ev_fin hPe d) hcs n _ _ _ _ hn hwf (mm_in_ok hok) (fun x hx => by cases hx)
set_option maxHeartbeats 4000000 in
/-- the machine goes with the small machine -/
theorem mm_rn_sim {p : Program} {l : Launch} {e : Env} {R : Room} {s : State} {m : MethodId} {args : Array Value} {below : List Frame} {meth : Method} {c : Code} {Q : State → Prop} {cc : ByteArray} {nL : Nat} {ini : Bool} {rt : Option FieldType} {own host TC : String} {Ts Us Xs : List Cond} {D : va_G} {cl : List vw_C} {ft : Nat → Nat → FieldType} {cA : Nat → ClassId} {A : Nat → Prop} {n0 z0 : Nat} {ad0 : Nat → Nat} {mt : Nat → Option mm_Mi} {E : mm_Ev} {cs : mm_Cs} {vv : Option Value} {h' : mm_Hp}
    (X : mm_Cx p s m args meth c cc nL ini rt own TC Ts Us Xs D cl ft cA A) {d : Nat} (hR : mm_n h' - n0 ≤ R.cells ∧ mm_z h' - z0 ≤ R.slots) (hRd : d + 1 ≤ R.frames ∧ (d + 1) * 40 ≤ R.locals) (hG : ∀ w ∈ Ts, goodWord w = true) (hMo : ∀ y q, mt y = some q → mm_Mo Ts y q) (hE : mm_Calls l D cl ft cA TC Ts Xs mt d E) (hXk : mm_Xk Xs)
    (hOb : Cond.instanceMethod objectInit ∈ Ts ∧ Cond.code objectInit ⟨#[0xb1]⟩ 1 none ∈ Ts) (hMx : Cond.code Lib.Math.max.name Lib.Math.max.code 2 (some .int) ∈ Ts) (hMn : Cond.code Lib.Math.min.name Lib.Math.min.code 2 (some .int) ∈ Ts)
    (hcs : ∀ pc i a b c v l, mm_at cs pc = some (i, a, b, c, v, l) → mm_ck own host TC cc nL ini rt Us Xs cl ft mt pc i a b c v l = true)
    (hfin : ∀ (pc : Nat) (H : Heap) (locs : List Loc) (ad : Nat → Nat) (ls : Array Slot), ((vv = none ∧ decode cc pc = .ok (.return_, 1) ∧ rt = none) ∨ (∃ x, vv = some (.int x) ∧ decode cc pc = .ok (.ireturn, 1) ∧ (rt = some .int ∨ (rt = some .boolean ∧ (x = 0 ∨ x = 1)))) ∨ (∃ x, vv = some (.ref x) ∧ decode cc pc = .ok (.areturn, 1) ∧ ∃ ty, rt = some ty ∧ mm_isr ty = true)) → va_P D cl (mm_ws cl ft cA ad h') H → va_D A (mm_ws cl ft cA ad h') → va_S A s.heap H locs → (∀ k, k < n0 → ad k = ad0 k) → W p l e R s m args below meth c H locs (mm_n h' - n0) (mm_z h' - z0) Q (F0 m pc ls (vv.toList.map (mm_cv ad)))) :
    ∀ (n pc : Nat) (L st : List Value) (h : mm_Hp), mm_rn E cs n (pc, L, st, h) = some (vv, h') → mm_wf h → (∀ v ∈ L, mm_okv (mm_n h) v) → (∀ v ∈ st, mm_okv (mm_n h) v) → mm_Fin vv h h' ∧ ∀ H locs ad ls, mm_Pre s D cl ft cA A nL n0 z0 ad0 L st h H locs ad ls → W p l e R s m args below meth c H locs (mm_n h - n0) (mm_z h - z0) Q (F0 m pc ls (st.map (mm_cv ad))) := by
  intro n
  induction n with
  | zero => intro pc L st h hr; cases hr
  | succ n ih =>
    intro pc L st h hr hwf hoL hok
    have hr : mm_sk E cs (mm_rn E cs n) (pc, L, st, h) = some (vv, h') := hr
    unfold mm_sk at hr
    split at hr
    · rename_i i a b c' v q hat
      have hck := hcs _ _ _ _ _ _ _ hat
      cases i with
      | iconst k => exact mm_step_iconst X ih hck hr hwf hoL hok
      | bipush k => exact mm_step_bipush X ih hck hr hwf hoL hok
      | sipush k => exact mm_step_sipush X ih hck hr hwf hoL hok
      | ldc k => exact mm_step_ldc X ih hck hr hwf hoL hok
      | ldc_w k => exact mm_step_ldc_w X ih hck hr hwf hoL hok
      | iload_n k => exact mm_step_iload_n X ih hck hr hwf hoL hok
      | aload_n k => exact mm_step_aload_n X ih hck hr hwf hoL hok
      | iload k => exact mm_step_iload X ih hck hr hwf hoL hok
      | aload k => exact mm_step_aload X ih hck hr hwf hoL hok
      | istore_n k => exact mm_step_istore_n X ih hck hr hwf hoL hok
      | astore_n k => exact mm_step_astore_n X ih hck hr hwf hoL hok
      | istore k => exact mm_step_istore X ih hck hr hwf hoL hok
      | iinc k k2 => exact mm_step_iinc X ih hck hr hwf hoL hok
      | iadd => exact mm_step_iadd X ih hck hr hwf hoL hok
      | isub => exact mm_step_isub X ih hck hr hwf hoL hok
      | imul => exact mm_step_imul X ih hck hr hwf hoL hok
      | iand => exact mm_step_iand X ih hck hr hwf hoL hok
      | ior => exact mm_step_ior X ih hck hr hwf hoL hok
      | ishl => exact mm_step_ishl X ih hck hr hwf hoL hok
      | ishr => exact mm_step_ishr X ih hck hr hwf hoL hok
      | iushr => exact mm_step_iushr X ih hck hr hwf hoL hok
      | idiv => exact mm_step_idiv X ih hck hr hwf hoL hok
      | irem => exact mm_step_irem X ih hck hr hwf hoL hok
      | ineg => exact mm_step_ineg X ih hck hr hwf hoL hok
      | i2b => exact mm_step_i2b X ih hck hr hwf hoL hok
      | dup => exact mm_step_dup X ih hck hr hwf hoL hok
      | dup2 => exact mm_step_dup2 X ih hck hr hwf hoL hok
      | pop => exact mm_step_pop X ih hck hr hwf hoL hok
      | goto o => exact mm_step_goto X ih hck hr hwf hoL hok
      | ifCond cd o => cases cd with
        | eq => exact mm_step_ifCond_eq X ih hck hr hwf hoL hok
        | ne => exact mm_step_ifCond_ne X ih hck hr hwf hoL hok
        | lt => exact mm_step_ifCond_lt X ih hck hr hwf hoL hok
        | ge => exact mm_step_ifCond_ge X ih hck hr hwf hoL hok
        | gt => exact mm_step_ifCond_gt X ih hck hr hwf hoL hok
        | le => exact mm_step_ifCond_le X ih hck hr hwf hoL hok
      | if_icmp cd o => cases cd with
        | eq => exact mm_step_if_icmp_eq X ih hck hr hwf hoL hok
        | ne => exact mm_step_if_icmp_ne X ih hck hr hwf hoL hok
        | lt => exact mm_step_if_icmp_lt X ih hck hr hwf hoL hok
        | ge => exact mm_step_if_icmp_ge X ih hck hr hwf hoL hok
        | gt => exact mm_step_if_icmp_gt X ih hck hr hwf hoL hok
        | le => exact mm_step_if_icmp_le X ih hck hr hwf hoL hok
      | tableswitch d lo hi os => exact mm_step_tableswitch X ih hck hr hwf hoL hok
      | lookupswitch d ps => exact mm_step_lookupswitch X ih hck hr hwf hoL hok
      | getfield k => exact mm_step_getfield X ih hck hr hwf hoL hok
      | putfield k => exact mm_step_putfield X ih hck hr hwf hoL hok
      | iaload => exact mm_step_iaload X ih hck hr hwf hoL hok
      | baload => exact mm_step_baload X ih hck hr hwf hoL hok
      | iastore => exact mm_step_iastore X ih hck hr hwf hoL hok
      | bastore => exact mm_step_bastore X ih hck hr hwf hoL hok
      | aaload => exact mm_step_aaload X ih hck hr hwf hoL hok
      | aastore => exact mm_step_aastore X ih hck hr hwf hoL hok
      | arraylength => exact mm_step_arraylength X ih hck hr hwf hoL hok
      | newarray t => cases t with
        | int => exact mm_step_newarray_int X ih hR hck hr hwf hoL hok
        | byte => exact mm_step_newarray_byte X ih hR hck hr hwf hoL hok
        | boolean => exact mm_step_newarray_boolean X ih hR hck hr hwf hoL hok
        | _ =>
          exfalso
          simp only [mm_ck, Bool.and_eq_true, decide_eq_true_eq] at hck
          rcases hck.1.2 with ⟨e, _⟩ | ⟨e, _⟩ | ⟨e, _⟩ <;> cases e
      | anewarray k => exact mm_step_anewarray X ih hR hck hr hwf hoL hok
      | new k => exact mm_step_new X ih hR hck hr hwf hoL hok
      | invokevirtual k => exact mm_step_invokevirtual X ih hR hRd hG hMo hE hXk hck hr hwf hoL hok
      | invokespecial k =>
        by_cases h3 : c' = 3
        · exact mm_step_invokespecial_o X ih hR hRd hG hMo hE hXk h3 hOb hck hr hwf hoL hok
        · exact mm_step_invokespecial X ih hR hRd hG hMo hE hXk h3 hck hr hwf hoL hok
      | invokestatic k =>
        by_cases h1 : c' = 1
        · exact mm_step_arraycopy X ih hR hRd hG hMo hE hXk h1 hck hr hwf hoL hok
        · by_cases h4 : c' = 4
          · exact mm_step_math_max X ih hR hRd hG hMo hE hXk h4 hMx hck hr hwf hoL hok
          · by_cases h5 : c' = 5
            · exact mm_step_math_min X ih hR hRd hG hMo hE hXk h5 hMn hck hr hwf hoL hok
            · exact mm_step_invokestatic X ih hR hRd hG hMo hE hXk h1 h4 h5 hck hr hwf hoL hok
      | ireturn => exact mm_step_ireturn X ih hfin hck hr hwf hoL hok
      | areturn => exact mm_step_areturn X ih hfin hck hr hwf hoL hok
      | return_ => exact mm_step_return X ih hfin hck hr hwf hoL hok
      | _ => cases hr
    · cases hr
theorem mm_args_mem : ∀ (vs : List Value) (k : Nat), (∀ v ∈ vs, v.category = 1) → ∀ (i : Nat) (v : Value), vs[i]? = some v → (k + i, v) ∈ lv_args k vs
  | [], _, _, i, v, hi => by simp at hi
  | x :: vs, k, h, 0, v, hi => by
    cases hi
    exact List.mem_cons_self
  | x :: vs, k, h, i + 1, v, hi => by
    have hx : ¬ x.category = 2 := by rw [h x List.mem_cons_self]; decide
    refine List.mem_cons_of_mem _ ?_
    rw [if_neg hx, show k + (i + 1) = k + 1 + i by omega]
    exact mm_args_mem vs (k + 1) (fun v hv => h v (List.mem_cons_of_mem _ hv)) i v (by simpa using hi)
theorem mm_sl_len : ∀ (vs : List Value), (∀ v ∈ vs, v.category = 1) → (lg_sl vs).length = vs.length
  | [], _ => rfl
  | x :: vs, h => by
    have hx : ¬ x.category = 2 := by rw [h x List.mem_cons_self]; decide
    have e := mm_sl_len vs (fun v hv => h v (List.mem_cons_of_mem _ hv))
    have e2 : lg_sl (x :: vs) = [Slot.val x] ++ lg_sl vs := by simp [lg_sl, hx]
    rw [e2, List.length_append, e]
    simp
    omega
theorem mm_LR_entry {ad : Nat → Nat} {as : List Value} {nL n : Nat} (hok : ∀ v ∈ as, mm_okv n v) (hl : as.length ≤ nL) : mm_LR ad (as ++ List.replicate (nL - as.length) (.retAddr 0)) ((lg_sl (as.map (mm_cv ad)) ++ List.replicate (nL - (lg_sl (as.map (mm_cv ad))).length) Slot.unset).toArray) nL := by
  have hc : ∀ v ∈ as.map (mm_cv ad), v.category = 1 := fun v hv => by
    obtain ⟨w, hw, rfl⟩ := List.mem_map.mp hv
    exact mm_cv_cat ad (hok w hw)
  have hln := mm_sl_len _ hc
  have h := lv_entry (as.map (mm_cv ad)) (n := nL) (by rw [hln, List.length_map]; exact hl)
  refine ⟨h.1, h.2.1, by simp; omega, fun i v hi hv => ?_⟩
  by_cases hi2 : i < as.length
  · rw [List.getElem?_append_left hi2] at hi
    have g := h.2.2 (0 + i, mm_cv ad v) (mm_args_mem _ 0 hc i _ (by rw [List.getElem?_map, hi]; rfl))
    simpa using g
  · rw [List.getElem?_append_right (by omega)] at hi
    exact absurd (List.eq_of_mem_replicate (List.mem_of_getElem? hi)) (hv 0)
set_option maxHeartbeats 4000000 in
theorem mm_all {l : Launch} {D : va_G} {host TC : String} {Ts Xs : List Cond} {cl : List vw_C} {ft : Nat → Nat → FieldType} {cA : Nat → ClassId} {mt : Nat → Option mm_Mi} (hCl : mm_Cl Ts cl ft) (hG : ∀ w ∈ Ts, goodWord w = true) (hMo : ∀ y q, mt y = some q → mm_Mo Ts y q) (hPe : ∀ y q, mt y = some q → mm_Pe host TC Ts Xs cl ft mt q) (hXk : mm_Xk Xs)
    (hOb : Cond.instanceMethod objectInit ∈ Ts ∧ Cond.code objectInit ⟨#[0xb1]⟩ 1 none ∈ Ts) (hMx : Cond.code Lib.Math.max.name Lib.Math.max.code 2 (some .int) ∈ Ts) (hMn : Cond.code Lib.Math.min.name Lib.Math.min.code 2 (some .int) ∈ Ts) : ∀ d, mm_Calls l D cl ft cA TC Ts Xs mt d (mm_ev mt d)
  | 0 => fun y as h v h1 he => by cases he
  | d + 1 => fun y as h v h1 he hwf hok q hq hlen => by
    refine ⟨mm_ev_fin hPe (d + 1) y as h v h1 he hwf hok, fun ad sz => ?_⟩
    have he : (match mt y with
      | some (_, _, nL, _, _, _, cs) => mm_rx (mm_ev mt d) cs (0, as ++ List.replicate (nL - as.length) (.retAddr 0), [], h)
      | none => none) = some (v, h1) := he
    rw [hq] at he
    obtain ⟨n, hn⟩ := mm_rx_some he
    obtain ⟨hpl, hnl, Us, hUs, hcs⟩ := hPe y q hq
    have hmo := hMo y q hq
    refine Met.ofW (cc := q.2.1) (maxL := q.2.2.1) (ret := q.2.2.2.1) hpl rfl ?_
    intro p e s m args below meth c s₁ B hml hv
    obtain ⟨rfl, hsz, hP, hK, hD0, hXw⟩ := hv
    subst hsz
    have hts := atoms_spec (ws := mm_wsm Ts q) B.pre
    have hown : s.vm.findClass q.1.cls = some m.cls := findClass_of_methodNamed B.named
    have X : mm_Cx p s m (as.map (mm_cv ad)).toArray meth c q.2.1 q.2.2.1 (decide (q.2.2.2.2.2.1 = 2)) q.2.2.2.1 q.1.cls TC Ts Us Xs D cl ft cA (va_A (mm_ws cl ft cA ad h) s.heap.size) :=
      ⟨B.exec, B.bytes, hml, hown, fun w hw => hts w (List.mem_cons_of_mem _ hw), hK, fun q hq => Or.inr hq, hCl, hUs, fun hi => by
        rw [(name_of_methodNamed B.named B.method).1]
        exact (hmo.2.2.2.2.2.2.2.2 (of_decide_eq_true hi)).1, B.returns, B.notSynchronized, hXw⟩
    have hD := hD0.self (sz := s.heap.size)
    have S := mm_rn_sim (l := l) (e := e) (R := (headSpec (mm_wsm Ts q) (mm_rmd (d + 1) (mm_n h1 - mm_n h) (mm_z h1 - mm_z h))).room) (below := below) (Q := MQ below (mm_Qc D cl ft cA ad s.heap.size h v h1) (as.map (mm_cv ad)).toArray s (mm_n h1 - mm_n h) (mm_z h1 - mm_z h) (va_A (mm_ws cl ft cA ad h) s.heap.size)) (n0 := mm_n h) (z0 := mm_z h) (ad0 := ad) X ⟨Nat.le_refl _, Nat.le_refl _⟩ ⟨Nat.le_refl _, Nat.le_refl _⟩ hG hMo (mm_all hCl hG hMo hPe hXk hOb hMx hMn d) hXk hOb hMx hMn hcs (fun pc H locs ad' ls hcase g1 g2 g3 g4 => by
      have hlk := B.notSynchronized
      rcases hcase with ⟨rfl, hd, hrt⟩ | ⟨x, rfl, hd, hrt⟩ | ⟨x, rfl, hd, ty, hrt, hty⟩
      · exact W.vret B.exec B.bytes (B.returns.trans hrt) (fun t ht hW => ⟨⟨ad', g4, rfl, by rw [ht]; exact g1, g2⟩, g3.F ht⟩) g3.2.2 hd hlk
      · rcases hrt with hrt | ⟨hrt, hx⟩
        · exact W.iret B.exec B.bytes (B.returns.trans hrt) (fun t ht hW => ⟨⟨ad', g4, rfl, by rw [ht]; exact g1, g2⟩, g3.F ht⟩) g3.2.2 hd hlk
        · exact W.zret B.exec B.bytes (B.returns.trans hrt) (mm_bool_ok hx).1 (fun t ht hW => ⟨⟨ad', g4, rfl, by rw [ht]; exact g1, g2⟩, g3.F ht⟩) g3.2.2 hd hlk
      · exact W.aret B.exec B.bytes (B.returns.trans hrt) (by cases ty <;> first | exact Or.inl ⟨_, rfl⟩ | exact Or.inr ⟨_, rfl⟩ | cases hty) (Or.inr ⟨_, rfl⟩) (fun t ht hW => ⟨⟨ad', g4, rfl, by rw [ht]; exact g1, g2⟩, g3.F ht⟩) g3.2.2 hd hlk) n _ _ _ _ hn hwf (mm_in_ok hok) (fun x hx => by cases hx)
    have w1 := S.2 s.heap [] ad _ ⟨hP, hD, va_S.rf, hwf, mm_in_ok hok, fun x hx => (by cases hx), mm_LR_entry (ad := ad) (nL := q.2.2.1) hok (by omega), Nat.le_refl _, Nat.le_refl _, fun _ _ => rfl⟩
    rw [Nat.sub_self, Nat.sub_self] at w1
    rw [lg_entry_eq]
    exact w1
