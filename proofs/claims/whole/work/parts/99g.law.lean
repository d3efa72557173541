/-! THE CLAIM OUT OF ONE WALK OF THE LAW'S BODY. Your part is whole_start (and what it stands on); all else here is the same for every law, but numbers. -/
def R_law : String := "ScanDeskLaw"
def lw_P (b : Addr) (xs : List Int32) (args : Array Value) (s : State) : Prop := args = #[.ref b] ∧ s.IntsAt b xs ∧ xs.length ≤ 4096 ∧ (Jvm.Cond.and given_1 narrow_1).before args s = true
def lw_Q (_ : Array Value) (s : State) (o : Outcome) (t : State) : Prop := o = .returned (some (.int 1)) ∧ Framed s o t [] 600000 7302250
def lw_Z (below : List Frame) (a : Array Value) (s : State) : State → Prop := fun t => ∃ o, t.status = .running ∧ Ended t below o ∧ lw_Q a s o t
/-- the law's own end, with 1 on the stack, nothing written that was there before, its room as the claim has it -/
theorem lw_ret {p : Program} {l : Launch} {e : Env} {s : State} {m : MethodId} {below : List Frame} {meth : Method} {c : Code} {b : Nat} (hx : p.tables.exec = Jvm.exec) (hb : c.code = code) (hr : meth.sig.returnType = ret) (hlocks : meth.locks = false) {pc : Nat} {H : Heap} {ls : Array Slot} (hdg : decode code pc = .ok (.ireturn, 1)) : W p l e room_1 s m #[Value.ref b] below meth c H [] 600000 7302250 (lw_Z below #[Value.ref b] s) (F0 m pc ls [.int 1]) := by
  intro T hT X
  obtain ⟨fs, hret, hrun, hended, hW, hframe⟩ := X.leave (v := some (.int 1)) (hlocks := hlocks) (fun h => by rw [hr] at h; cases h)
  have hmeth' : T.vm.method? m = some meth := X.method'
  refine ⟨T.setFrames fs, ?_, .returned (some (.int 1)), hrun, hended, rfl, ⟨_, rfl⟩, hW, hframe⟩
  jvm_step X.here [X.here.top, hx, hb, hdg, hmeth', hr, ret, narrow_b1]
  (try refine ⟨rfl, ?_⟩); (try refine ⟨rfl, ?_⟩)
  first | (intro acts; rw [hret _ acts rfl rfl rfl]) | rw [hret _ _ rfl rfl rfl]
  exact Steps.refl _
/-- what holds at the law's entry: the machine, the code, the tables' words (any of lw_tbl by 'hts w (by decide +kernel)'), the script of L ints xs at the cell b, what the Statement gives of the start (any of its parts by flat_of_before) -/
def lw_At (p : Program) (s : State) (m : MethodId) (meth : Method) (c : Code) (b L : Nat) (xs : Nat → Int32) : Prop :=
  p.tables.exec = Jvm.exec ∧ c.code = code ∧ meth.sig.returnType = ret ∧ c.maxLocals = 4 ∧ s.vm.findClass R_law = some m.cls ∧ (∀ w ∈ lw_tbl, w.before #[Value.ref b] s = true) ∧ va_X b L xs s s.heap ∧ b < s.heap.size ∧ meth.locks = false ∧ (Jvm.Cond.and given_1 narrow_1).before #[Value.ref b] s = true
abbrev lw_tc : String := "ScanDesk$Table"
abbrev lw_A (s : State) : Nat → Prop := fun q : Nat => s.heap.size ≤ q
def lw_G (p : Program) (s : State) (m : MethodId) (meth : Method) (c : Code) (b L : Nat) (xs : Nat → Int32) (D : va_G) (cA : Nat → ClassId) : Prop := lw_At p s m meth c b L xs ∧ va_K D pg_cl (mm_ty cA lw_tc) s ∧ mm_Xw pg_xs s
def lw_W (s : State) (D : va_G) (cA : Nat → ClassId) (ad : Nat → Nat) (h : mm_Hp) (H : Heap) (locs : List Loc) : Prop := va_P D pg_cl (mm_ws pg_cl pg_ft cA ad h) H ∧ va_D (lw_A s) (mm_ws pg_cl pg_ft cA ad h) ∧ va_S (lw_A s) s.heap H locs ∧ mm_wf h
/-! what a method answers: a number, or nothing -/
def mm_ri : Instr → Bool
  | .ireturn => true
  | _ => false
def mm_rv : Instr → Bool
  | .return_ => true
  | _ => false
def mm_ra : Instr → Bool
  | .areturn => true
  | _ => false
set_option maxHeartbeats 4000000 in
theorem mm_ex_end {E : mm_Ev} {pc : Nat} {L st : List Value} {h : mm_Hp} {i : Instr} {a b c : Nat} {v : Int32} {q : List (Int32 × Nat)} {r : mm_Rs} (hr : mm_ex E (fun _ => none) pc L st h i a b c v q = some r) : (mm_ri i = true ∧ ∃ x, r.1 = some (.int x)) ∨ (mm_rv i = true ∧ r.1 = none) ∨ mm_ra i = true := by
  cases i <;> simp only [mm_ex, mm_dv, mm_rm, mm_fI, mm_fR, mm_pI, mm_pZ, mm_pR, mm_ld, mm_st, mm_lr, mm_sr, mm_al, mm_na, mm_cy, mm_zr, mm_iv, mm_ip, mm_is] at hr <;> (try (cases hr; done)) <;> (repeat' split at hr) <;> (try (cases hr; done))
  all_goals first
    | (cases hr; exact Or.inl ⟨rfl, _, rfl⟩)
    | (cases hr; exact Or.inr (Or.inl ⟨rfl, rfl⟩))
    | exact Or.inr (Or.inr rfl)
    | exact absurd (Option.bind_eq_some_iff.mp hr) (fun ⟨_, _, h⟩ => by cases h)
    | exact absurd (mm_br_or hr) (fun h => by rcases h with h | h <;> cases h)
    | exact absurd (mm_sw_some hr) (fun h => by rcases h with ⟨_, _, _, h⟩ | ⟨_, h⟩ <;> cases h)
theorem mm_rn_end {E : mm_Ev} {cs : mm_Cs} : ∀ (n : Nat) (x : mm_Cf) (r : mm_Rs), mm_rn E cs n x = some r → ∃ pc i a b c v l, mm_at cs pc = some (i, a, b, c, v, l) ∧ ((mm_ri i = true ∧ ∃ x, r.1 = some (.int x)) ∨ (mm_rv i = true ∧ r.1 = none) ∨ mm_ra i = true)
  | 0, x, r, h => by cases h
  | n + 1, x, r, h => by
    have h : mm_sk E cs (mm_rn E cs n) x = some r := h
    unfold mm_sk at h
    split at h
    · rename_i i a b c v l hat
      rcases mm_ex_form E x.1 x.2.1 x.2.2.1 x.2.2.2 i a b c v l with ⟨y, hy⟩ | ⟨r', hr'⟩ | hN
      · rw [show mm_ex E (mm_rn E cs n) x.1 x.2.1 x.2.2.1 x.2.2.2 i a b c v l = mm_rn E cs n y from hy _] at h
        exact mm_rn_end n y r h
      · have e : mm_ex E (mm_rn E cs n) x.1 x.2.1 x.2.2.1 x.2.2.2 i a b c v l = some r' := hr' _
        have e2 : mm_ex E (fun _ => none) x.1 x.2.1 x.2.2.1 x.2.2.2 i a b c v l = some r' := hr' _
        rw [e] at h
        cases h
        exact ⟨_, _, _, _, _, _, _, hat, mm_ex_end e2⟩
      · rw [show mm_ex E (mm_rn E cs n) x.1 x.2.1 x.2.2.1 x.2.2.2 i a b c v l = none from hN _] at h
        cases h
    · cases h
theorem mm_at_in : ∀ (cs : mm_Cs) (pc : Nat) (e : mm_En), mm_at cs pc = some e → ∃ k, (k, e) ∈ cs
  | [], pc, e, h => by cases h
  | (k, e') :: l, pc, e, h => by
    unfold mm_at at h
    split at h
    · cases h
      exact ⟨k, List.mem_cons_self⟩
    · obtain ⟨k', hk⟩ := mm_at_in l pc e h
      exact ⟨k', List.mem_cons_of_mem _ hk⟩
theorem mm_ev_end {d y : Nat} {as : List Value} {h h1 : mm_Hp} {v : Option Value} {q : mm_Mi} (hq : pg_mt y = some q) (he : mm_ev pg_mt d y as h = some (v, h1)) : ∃ e ∈ q.2.2.2.2.2.2, (mm_ri e.2.1 = true ∧ ∃ x, v = some (.int x)) ∨ (mm_rv e.2.1 = true ∧ v = none) ∨ mm_ra e.2.1 = true := by
  cases d with
  | zero => cases he
  | succ d =>
    have he : (match pg_mt y with
      | some (_, _, nL, _, _, _, cs) => mm_rx (mm_ev pg_mt d) cs (0, as ++ List.replicate (nL - as.length) (.retAddr 0), [], h)
      | none => none) = some (v, h1) := he
    rw [hq] at he
    obtain ⟨n, hn⟩ := mm_rx_some he
    obtain ⟨pc, i, a, b, c, v', l, hat, hc⟩ := mm_rn_end n _ _ hn
    obtain ⟨k, hk⟩ := mm_at_in _ _ _ hat
    exact ⟨_, hk, hc⟩
theorem mm_ev_i {d y : Nat} {as : List Value} {h h1 : mm_Hp} {v : Option Value} {q : mm_Mi} (hq : pg_mt y = some q) (hc : (q.2.2.2.2.2.2.all fun e => !(mm_rv e.2.1) && !(mm_ra e.2.1)) = true) (he : mm_ev pg_mt d y as h = some (v, h1)) : ∃ x, v = some (.int x) := by
  obtain ⟨e, hm, ⟨-, g⟩ | ⟨g, -⟩ | g⟩ := mm_ev_end hq he
  · exact g
  · have := List.all_eq_true.mp hc e hm
    rw [g] at this
    cases this
  · have := List.all_eq_true.mp hc e hm
    rw [g, Bool.and_comm] at this
    cases this
theorem mm_ev_v {d y : Nat} {as : List Value} {h h1 : mm_Hp} {v : Option Value} {q : mm_Mi} (hq : pg_mt y = some q) (hc : (q.2.2.2.2.2.2.all fun e => !(mm_ri e.2.1) && !(mm_ra e.2.1)) = true) (he : mm_ev pg_mt d y as h = some (v, h1)) : v = none := by
  obtain ⟨e, hm, ⟨g, -⟩ | ⟨-, g⟩ | g⟩ := mm_ev_end hq he
  · have := List.all_eq_true.mp hc e hm
    rw [g] at this
    cases this
  · exact g
  · have := List.all_eq_true.mp hc e hm
    rw [g, Bool.and_comm] at this
    cases this
section
variable {p : Program} {l : Launch} {e : Env} {s : State} {m : MethodId} {below : List Frame} {meth : Method} {c : Code} {b L : Nat} {xs : Nat → Int32} {H : Heap} {locs : List Loc} {cells slots : Nat} {Q : State → Prop} {pc : Nat} {ls : Array Slot} {D : va_G} {cA : Nat → ClassId} {ad : Nat → Nat}
theorem lw_hT (G : lw_G p s m meth c b L xs D cA) : ∀ w ∈ pg_T, w.before #[Value.ref b] s = true := fun w hw => G.1.2.2.2.2.2.1 w (List.mem_filter.mp hw).1
set_option maxHeartbeats 4000000 in
/-- a call out of the law: what the small machine answers -/
theorem lw_call (G : lw_G p s m meth c b L xs D cA) {h h1 : mm_Hp} {v : Option Value} (hw : lw_W s D cA ad h H locs) {k a c' : Nat} {q1 : mm_Mi} {r0 : vw_C} (hq : (pg_mt a = some q1 ∧ pg_cl[c']? = some r0) ∧ q1.1.cls = r0.1 ∧ q1.2.2.2.2.2.1 = 1) (hl : Cond.methodLink R_law k q1.1 ∈ pg_T) (hd : decode code pc = .ok (.invokevirtual k, 3))
    {q0 : Nat} {as : List Int32} (hna : q1.2.2.2.2.1 = as.length + 1) (hE : mm_ev pg_mt 14 a (.ref q0 :: as.map Value.int) h = some (v, h1)) (hs : mm_s h q0 = some (.inl c')) (hn : mm_n h1 = mm_n h ∧ mm_z h1 = mm_z h) {rest : List Value} (hrest : (rest.map fun v => v.category).sum ≤ 8) (hls : ls.size = 4) (hc : cells ≤ 600000 ∧ slots ≤ 7302250)
    (kk : ∀ ad' H1 locs1, (∀ k, k < mm_n h → ad' k = ad k) → lw_W s D cA ad' h1 H1 locs1 → W p l e room_1 s m #[Value.ref b] below meth c H1 locs1 cells slots Q (F0 m (pc + 3) ls ((v.map (mm_cv ad')).toList ++ rest))) :
    W p l e room_1 s m #[Value.ref b] below meth c H locs cells slots Q (F0 m pc ls ((as.map Value.int).reverse ++ .ref (ad q0) :: rest)) := by
  have hts := lw_hT G
  obtain ⟨⟨hx, hb, hr, hml, hown, -, hX, hbl, hlocks, hgv⟩, hKk, hXw⟩ := G
  obtain ⟨hP, hD, hS, hwf⟩ := hw
  obtain ⟨⟨hq1, hr0⟩, hcls, hkd⟩ := hq
  have hmo := pg_Mo a q1 hq1
  have hok : ∀ x ∈ Value.ref q0 :: as.map Value.int, mm_okv (mm_n h) x := mm_o1 (hwf.lt hs) (fun x hx => by
    obtain ⟨y, -, rfl⟩ := List.mem_map.mp hx
    exact trivial)
  have hE2 := pg_Calls l D cA 14 a _ h v h1 hE hwf hok q1 hq1 (by rw [hna]; simp)
  have hM := hE2.2 ad H.size
  rw [hn.1, hn.2, Nat.sub_self, Nat.sub_self] at hM
  have he := mm_ws_get (cl := pg_cl) (ft := pg_ft) (cA := cA) (ad := ad) (hwf.lt hs)
  rw [mm_ce_o hs] at he
  have hcv : (as.map Value.int).map (mm_cv ad) = as.map Value.int := by
    rw [List.map_map]
    rfl
  have hpar : (parseMethodDescriptor q1.1.desc).map (fun d => d.parameters.length) = some as.length := by
    have g := hmo.2.2.2.1
    rw [hkd, hna] at g
    cases hpd : parseMethodDescriptor q1.1.desc with
    | none => rw [hpd] at g; cases g
    | some sg =>
      rw [hpd] at g
      have g : sg.parameters.length + 1 = as.length + 1 := Option.some.inj g
      exact congrArg some (show sg.parameters.length = as.length by omega)
  have hgi : GoodIn pg_T (wsV R_law k r0.1 q1.1 (mm_wsm pg_T q1)) := by
    unfold wsV
    refine mm_goodIn pg_good hmo.1 (fun w hw => ?_)
    simp only [List.mem_cons, List.not_mem_nil, or_false] at hw
    rcases hw with rfl | rfl | rfl | rfl
    · exact hl
    · exact hmo.2.2.2.2.2.1 (by rw [hkd]; decide)
    · rw [← hcls]; exact hmo.2.2.2.2.2.2.1 hkd
    · exact (pg_Cl _ _ hr0).2.2.2.2.2.2
  have hroom : (mm_rmd 14 0 0).frames + 1 ≤ room_1.frames ∧ 8 + (q1.2.2.1 + 11) + (mm_rmd 14 0 0).locals ≤ room_1.locals := by
    have g1 := hmo.2.2.1
    refine ⟨by decide, ?_⟩
    show 8 + (q1.2.2.1 + 11) + 14 * 40 ≤ 634
    omega
  have hA : ∀ q, s.heap.size ≤ q → lw_A s q := fun _ h => h
  have hFq := mm_free hD hS hA
  have hPU : ∀ U : State, U.heap = H → s.WarmedH U.vm → mm_Pc pg_xs D pg_cl pg_ft cA lw_tc ad H.size (Value.ref q0 :: as.map Value.int) h (Value.ref (ad q0) :: as.map Value.int).toArray U := fun U hU hW => ⟨by rw [List.map_cons, hcv]; rfl, by rw [hU], by rw [hU]; exact hP, va_K.moved hW.alike hKk, hD.weaken (fun _ _ _ _ => trivial), hXw.moved pg_xk hW⟩
  exact mm_call (mc := 0) (ms := 0) (va_runV (As := as.map Value.int) (b := ad q0) (rest := rest) (n := as.length) ⟨hx, hb, hml, hown, hts⟩ hM (cwV as.length hts hgi rfl rfl rfl ⟨hcls, hmo.2.1.1, hmo.2.1.2, hpar⟩ hroom) ⟨mm_Pc_blind pg_xk, va_recv hKk hP hr0 he, hPU⟩ rfl (by simp) hls rfl (lv_room hrest) hd ⟨hc.1, hc.2⟩) hS hFq (fun ad' H1 locs1 ha g1 g2 g3 => kk ad' H1 locs1 ha ⟨g1, g2, g3, hE2.1.1⟩)
set_option maxHeartbeats 4000000 in
/-- a constructor called by the law -/
theorem lw_init (G : lw_G p s m meth c b L xs D cA) {h h1 : mm_Hp} (hw : lw_W s D cA ad h H locs) {k a : Nat} {q1 : mm_Mi} (hq : pg_mt a = some q1 ∧ q1.2.2.2.2.2.1 = 2) (hl : Cond.methodLink R_law k q1.1 ∈ pg_T) (hd : decode code pc = .ok (.invokespecial k, 3))
    {q0 : Nat} (hna : q1.2.2.2.2.1 = 1) (hE : mm_ev pg_mt 14 a [.ref q0] h = some (none, h1)) (hq0 : q0 < mm_n h) {rest : List Value} (hrest : (rest.map fun v => v.category).sum ≤ 8) (hls : ls.size = 4) (hc : cells + (mm_n h1 - mm_n h) ≤ 600000 ∧ slots + (mm_z h1 - mm_z h) ≤ 7302250)
    (kk : ∀ ad' H1 locs1, (∀ k, k < mm_n h → ad' k = ad k) → lw_W s D cA ad' h1 H1 locs1 → W p l e room_1 s m #[Value.ref b] below meth c H1 locs1 (cells + (mm_n h1 - mm_n h)) (slots + (mm_z h1 - mm_z h)) Q (F0 m (pc + 3) ls rest)) :
    W p l e room_1 s m #[Value.ref b] below meth c H locs cells slots Q (F0 m pc ls (.ref (ad q0) :: rest)) := by
  have hts := lw_hT G
  obtain ⟨⟨hx, hb, hr, hml, hown, -, hX, hbl, hlocks, hgv⟩, hKk, hXw⟩ := G
  obtain ⟨hP, hD, hS, hwf⟩ := hw
  obtain ⟨hq1, hkd⟩ := hq
  have hmo := pg_Mo a q1 hq1
  have hok : ∀ x ∈ [Value.ref q0], mm_okv (mm_n h) x := mm_o1 hq0 (fun x hx => by cases hx)
  have hE2 := pg_Calls l D cA 14 a _ h none h1 hE hwf hok q1 hq1 (by rw [hna]; rfl)
  have hM := hE2.2 ad H.size
  have hpar : (parseMethodDescriptor q1.1.desc).map (fun d => d.parameters.length) = some 0 := by
    have g := hmo.2.2.2.1
    rw [hkd, hna] at g
    cases hpd : parseMethodDescriptor q1.1.desc with
    | none => rw [hpd] at g; cases g
    | some sg =>
      rw [hpd] at g
      have g : sg.parameters.length + 1 = 1 := Option.some.inj g
      exact congrArg some (show sg.parameters.length = 0 by omega)
  have hnm := hmo.2.2.2.2.2.2.2.2 hkd
  have hin : (Cond.instanceMethod q1.1).before #[Value.ref b] s = true := hts _ (hmo.2.2.2.2.2.1 (by rw [hkd]; decide))
  have hiz : (Cond.initialized q1.1.cls).before #[Value.ref b] s = true := hts _ (hmo.2.2.2.2.2.2.2.1)
  have hgi : GoodIn pg_T (mm_wsm pg_T q1) := mm_goodIn (ws := []) pg_good hmo.1 (fun w hw => by cases hw)
  have hrn : mm_wsm pg_T q1 = Cond.code q1.1 q1.2.1 q1.2.2.1 none :: pg_T := by unfold mm_wsm; rw [hnm.2]
  have hroom : (mm_rmd 14 (mm_n h1 - mm_n h) (mm_z h1 - mm_z h)).frames + 1 ≤ room_1.frames ∧ 8 + (q1.2.2.1 + 11) + (mm_rmd 14 (mm_n h1 - mm_n h) (mm_z h1 - mm_z h)).locals ≤ room_1.locals := by
    have g1 := hmo.2.2.1
    refine ⟨show 14 + 1 ≤ 16 by decide, ?_⟩
    show 8 + (q1.2.2.1 + 11) + 14 * 40 ≤ 634
    omega
  have hA : ∀ q, s.heap.size ≤ q → lw_A s q := fun _ h => h
  have hFq := mm_free hD hS hA
  have hPU : ∀ U : State, U.heap = H → s.WarmedH U.vm → mm_Pc pg_xs D pg_cl pg_ft cA lw_tc ad H.size [Value.ref q0] h (Value.ref (ad q0) :: ([] : List Value)).toArray U := fun U hU hW => ⟨rfl, by rw [hU], by rw [hU]; exact hP, va_K.moved hW.alike hKk, hD.weaken (fun _ _ _ _ => trivial), hXw.moved pg_xk hW⟩
  exact mm_call (va_runI (As := []) (b := ad q0) (rest := rest) (n := 0) ⟨hx, hb, hml, hown, hts⟩ hM (cwI 0 hts hgi hrn rfl rfl hiz (hts _ hl) hin hnm.1 ⟨hmo.2.1.1, hmo.2.1.2, hpar⟩ hroom) ⟨mm_Pc_blind pg_xk, hPU⟩ rfl rfl hls rfl (lv_room hrest) hd ⟨hc.1, hc.2⟩) hS hFq (fun ad' H1 locs1 ha g1 g2 g3 => kk ad' H1 locs1 ha ⟨g1, g2, g3, hE2.1.1⟩)
set_option maxHeartbeats 4000000 in
/-- a new object of the law -/
theorem lw_new (G : lw_G p s m meth c b L xs D cA) {h : mm_Hp} (hw : lw_W s D cA ad h H locs) {k a : Nat} {r0 : vw_C} (hr0 : pg_cl[a]? = some r0) (hl : Cond.classLink R_law k r0.1 ∈ pg_T) (hd : decode code pc = .ok (.new k, 3)) {rest : List Value} (hc : cells + 1 ≤ 600000 ∧ slots + r0.2.2 ≤ 7302250)
    (kk : ∀ q H1, lw_W s D cA (va_up ad (mm_n h) q) (mm_nw h r0.2.2 (.inl a)) H1 locs → W p l e room_1 s m #[Value.ref b] below meth c H1 locs (cells + 1) (slots + r0.2.2) Q (F0 m (pc + 3) ls (.ref q :: rest))) :
    W p l e room_1 s m #[Value.ref b] below meth c H locs cells slots Q (F0 m pc ls rest) := by
  have hts := lw_hT G
  obtain ⟨⟨hx, hb, hr, hml, hown, -, hX, hbl, hlocks, hgv⟩, hKk, hXw⟩ := G
  obtain ⟨hP, hD, hS, hwf⟩ := hw
  have hC := pg_Cl a r0 hr0
  have hA : ∀ q, s.heap.size ≤ q → lw_A s q := fun _ h => h
  refine va_new (D := D) (ci := a) (fs := (List.range (mm_nf pg_cl a)).map (fun j => if mm_isr (pg_ft a j) = true then Value.null else Value.int 0)) hx hb hts hC.1 (pg_ft a) hC.2.1 hown (hts _ hl) (hts _ hC.2.2.2.2.2.1) (hts _ hC.2.2.2.2.2.2) hKk hP hD hS hA hr0 (fun j hj => ?_) hc.1 hc.2 hd (fun q H1 g1 g2 g3 => ?_)
  · rw [mm_nf_of hr0]
    have e : vp_V ((List.range r0.2.2).map (fun j => if mm_isr (pg_ft a j) = true then Value.null else Value.int 0)) j = if mm_isr (pg_ft a j) = true then Value.null else Value.int 0 := by
      simp [vp_V, hj]
    rw [e]
    rcases hC.2.2.2.2.1 j hj with g | g | g
    · rw [if_pos g]
      cases hf : pg_ft a j <;> rw [hf] at g <;> first | rfl | cases g
    · rw [g]; rfl
    · rw [g]; rfl
  · have e1 := mm_ws_new (cl := pg_cl) (ft := pg_ft) (cA := cA) (ad := ad) (x := q) (z := r0.2.2) (sh := .inl a) (y := .inr (a, (List.range (mm_nf pg_cl a)).map (fun j => if mm_isr (pg_ft a j) = true then Value.null else Value.int 0))) hwf (by
      rw [mm_ce_o (show mm_s (mm_nw h r0.2.2 (.inl a)) (mm_n h) = some (.inl a) from va_up_self _ _ _)]
      refine congrArg Sum.inr (congrArg (Prod.mk a) (List.map_congr_left fun j _ => ?_))
      exact mm_nw_fv.symm)
    rw [e1] at g1 g2
    exact kk q H1 ⟨g1, g2, g3, mm_nw_wf hwf (fun t n e => by cases e)⟩
/-- the script's element n behind the place x3 -/
theorem lw_ld (G : lw_G p s m meth c b L xs D cA) {h : mm_Hp} (hw : lw_W s D cA ad h H locs) {st : List Value} {x3 : Int32} {n : Int} {v1 v2 : Value} (hl : lv_has ls 4 [(0, .ref b), (1, v1), (2, v2), (3, .int x3)]) (hin : vp_in (x3 + Int32.ofInt n) L)
    (d : (decode code pc = .ok (.aload_n 0, 1) ∧ decode code (pc + 1) = .ok (.iload_n 3, 1)) ∧ decode code (pc + 2) = .ok (.iconst n, 1) ∧ decode code (pc + 3) = .ok (.iadd, 1) ∧ decode code (pc + 4) = .ok (.iaload, 1))
    (kk : W p l e room_1 s m #[Value.ref b] below meth c H locs cells slots Q (F0 m (pc + 5) ls (.int (xs (x3 + Int32.ofInt n).toNatClampNeg) :: st))) : W p l e room_1 s m #[Value.ref b] below meth c H locs cells slots Q (F0 m pc ls st) := by
  obtain ⟨⟨hx, hb, hr, hml, hown, -, hX, hbl, hlocks, hgv⟩, hKk, hXw⟩ := G
  obtain ⟨hP, hD, hS, hwf⟩ := hw
  have hbA : ¬ lw_A s b := Nat.not_le.mpr hbl
  refine lv_aload_n hx hb d.1.1 rfl (lv_at hl 0 rfl) ?_
  refine lv_iload_n hx hb d.1.2 rfl (lv_at hl 3 rfl) ?_
  refine lv_iconst hx hb d.2.1 rfl ?_
  refine lv_iadd hx hb d.2.2.1 ?_
  exact va_sld hx hb hX hbl hbA hS hin d.2.2.2 kk
theorem lw_ldb (G : lw_G p s m meth c b L xs D cA) {h : mm_Hp} (hw : lw_W s D cA ad h H locs) {st : List Value} {x3 : Int32} {n : Int} {v1 v2 : Value} (hl : lv_has ls 4 [(0, .ref b), (1, v1), (2, v2), (3, .int x3)]) (hin : vp_in (x3 + Int32.ofInt n) L) (hn : (Int8.ofInt n).toInt32 = Int32.ofInt n)
    (d : (decode code pc = .ok (.aload_n 0, 1) ∧ decode code (pc + 1) = .ok (.iload_n 3, 1)) ∧ decode code (pc + 2) = .ok (.bipush n, 2) ∧ decode code (pc + 4) = .ok (.iadd, 1) ∧ decode code (pc + 5) = .ok (.iaload, 1))
    (kk : W p l e room_1 s m #[Value.ref b] below meth c H locs cells slots Q (F0 m (pc + 6) ls (.int (xs (x3 + Int32.ofInt n).toNatClampNeg) :: st))) : W p l e room_1 s m #[Value.ref b] below meth c H locs cells slots Q (F0 m pc ls st) := by
  obtain ⟨⟨hx, hb, hr, hml, hown, -, hX, hbl, hlocks, hgv⟩, hKk, hXw⟩ := G
  obtain ⟨hP, hD, hS, hwf⟩ := hw
  have hbA : ¬ lw_A s b := Nat.not_le.mpr hbl
  refine lv_aload_n hx hb d.1.1 rfl (lv_at hl 0 rfl) ?_
  refine lv_iload_n hx hb d.1.2 rfl (lv_at hl 3 rfl) ?_
  refine lv_bipush hx hb d.2.1 hn ?_
  refine lv_iadd hx hb d.2.2.1 ?_
  exact va_sld hx hb hX hbl hbA hS hin d.2.2.2 kk
end
