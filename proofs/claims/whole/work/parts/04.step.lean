/-! ===== ONE INSTRUCTION: what the entries are checked for, and that the machine goes with the small machine ===== -/
def mm_Cl (Ts : List Cond) (cl : List vw_C) (ft : Nat → Nat → FieldType) : Prop := ∀ (ci : Nat) (r : vw_C), cl[ci]? = some r →
  (∀ w ∈ u_ws r.1 r.2.1 r.2.2, w ∈ Ts) ∧ (∀ k, k < r.2.2 → parseFieldDescriptor (r.2.1 k).2.2.1 = some (ft ci k)) ∧ (∀ a, a < r.2.2 → ∀ b, b < r.2.2 → a ≠ b → (r.2.1 a).2.1 ≠ (r.2.1 b).2.1) ∧ (∀ k, k < r.2.2 → (r.2.1 k).1 = r.1) ∧ (∀ k, k < r.2.2 → mm_isr (ft ci k) = true ∨ ft ci k = .int ∨ ft ci k = .boolean) ∧ Cond.instantiable r.1 r.2.2 ∈ Ts ∧ Cond.initialized r.1 ∈ Ts
/-- what an entry is checked for, by program -/
def mm_ck (own host TC : String) (cc : ByteArray) (nL : Nat) (ini : Bool) (rt : Option FieldType) (Us Xs : List Cond) (cl : List vw_C) (ft : Nat → Nat → FieldType) (mt : Nat → Option mm_Mi) (pc : Nat) (i : Instr) (a b c : Nat) (v : Int32) (l : List (Int32 × Nat)) : Bool := match i with
  | .iconst n => decide (decode cc pc = .ok (.iconst n, 1)) && decide (Int32.ofInt n = v)
  | .bipush n => decide (decode cc pc = .ok (.bipush n, 2)) && decide ((Int8.ofInt n).toInt32 = v)
  | .sipush n => decide (decode cc pc = .ok (.sipush n, 3)) && decide ((Int16.ofInt n).toInt32 = v)
  | .ldc k => decide (decode cc pc = .ok (.ldc k, 2)) && decide (Cond.constant own k v ∈ Us)
  | .ldc_w k => decide (decode cc pc = .ok (.ldc_w k, 3)) && decide (Cond.constant own k v ∈ Us)
  | .iload_n k => decide (decode cc pc = .ok (.iload_n k, 1)) && decide ((k : Nat) = a)
  | .aload_n k => decide (decode cc pc = .ok (.aload_n k, 1)) && decide ((k : Nat) = a)
  | .iload k => decide (decode cc pc = .ok (.iload k, 2)) && decide (k = a)
  | .aload k => decide (decode cc pc = .ok (.aload k, 2)) && decide (k = a)
  | .istore_n k => decide (decode cc pc = .ok (.istore_n k, 1)) && decide ((k : Nat) = a) && decide (a < nL)
  | .astore_n k => decide (decode cc pc = .ok (.astore_n k, 1)) && decide ((k : Nat) = a) && decide (a < nL)
  | .istore k => decide (decode cc pc = .ok (.istore k, 2)) && decide (k = a) && decide (a < nL)
  | .iinc k n => decide (decode cc pc = .ok (.iinc k n, 3)) && decide (k = a) && decide (Int32.ofInt n = v) && decide (a < nL)
  | .goto o => decide (decode cc pc = .ok (.goto o, 3)) && decide ((pc : Int) + o = (a : Int))
  | .ifCond cd o => decide (decode cc pc = .ok (.ifCond cd o, 3)) && decide ((pc : Int) + o = (a : Int))
  | .if_icmp cd o => decide (decode cc pc = .ok (.if_icmp cd o, 3)) && decide ((pc : Int) + o = (a : Int))
  | .tableswitch d lo hi os => decide (decode cc pc = .ok (.tableswitch d lo hi os, b)) && decide ((pc : Int) + d = (a : Int)) && decide (hi = lo + (os.size : Int) - 1) && decide (l.length = os.size) && (List.range l.length).all (fun j => match l[j]?, os[j]? with
    | some q, some o => decide (q.1.toInt = lo + (j : Int)) && decide ((pc : Int) + o = (q.2 : Int))
    | _, _ => false)
  | .lookupswitch d ps => decide (decode cc pc = .ok (.lookupswitch d ps, b)) && decide ((pc : Int) + d = (a : Int)) && decide (ps.toList = l.map (fun q => (q.1.toInt, (q.2 : Int) - (pc : Int)))) && (ps.toList.zip (ps.toList.drop 1)).all (fun (a, next) => a.1 < next.1)
  | .getfield k => match cl[a]? with
    | some r => decide (decode cc pc = .ok (.getfield k, 3)) && decide (b < r.2.2) && decide (Cond.fieldLink own k r.1 (r.2.1 b).2.1 (r.2.1 b).2.2.1 ∈ Us) && (if c = 1 then mm_isr (ft a b) else !mm_isr (ft a b))
    | none => false
  | .putfield k => match cl[a]? with
    | some r => decide (decode cc pc = .ok (.putfield k, 3)) && decide (b < r.2.2) && decide (Cond.fieldLink own k r.1 (r.2.1 b).2.1 (r.2.1 b).2.2.1 ∈ Us) && (match c with
      | 0 => decide (ft a b = .int)
      | 1 => mm_isr (ft a b)
      | 2 => decide (ft a b = .boolean)
      | _ => false) && (if (r.2.1 b).2.2.2 = true then ini && decide (r.1 = own) else true)
    | none => false
  | .newarray t => decide (decode cc pc = .ok (.newarray t, 2)) && decide ((t = .int ∧ a = 0) ∨ (t = .byte ∧ a = 1) ∨ (t = .boolean ∧ a = 2)) && decide (Cond.arrayClass (newarray.typeOf t) ∈ Us)
  | .anewarray k => decide (decode cc pc = .ok (.anewarray k, 3)) && decide (Cond.classLink own k TC ∈ Us) && decide (Cond.arrayOver (.object TC) ∈ Xs)
  | .new k => match cl[a]? with
    | some r => decide (decode cc pc = .ok (.new k, 3)) && decide (b = r.2.2) && decide (Cond.classLink own k r.1 ∈ Us)
    | none => false
  | .aastore => decide (decode cc pc = .ok (.aastore, 1)) && (match cl[a]? with
    | some r => decide (r.1 = TC)
    | none => false)
  | .invokevirtual k => match mt a, cl[c]? with
    | some q, some r => decide (decode cc pc = .ok (.invokevirtual k, 3)) && decide (q.1.cls = r.1) && decide (q.2.2.2.2.1 = b) && decide (q.2.2.2.2.2.1 = 1) && decide (Cond.methodLink own k q.1 ∈ Us)
    | _, _ => false
  | .invokespecial k => match c with
    | 3 => decide (decode cc pc = .ok (.invokespecial k, 3)) && decide (Cond.methodLink own k objectInit ∈ Us) && decide (Cond.instanceMethod objectInit ∈ Us)
    | _ => match mt a with
      | some q => decide (decode cc pc = .ok (.invokespecial k, 3)) && decide (q.2.2.2.2.1 = b) && decide (q.2.2.2.2.2.1 = 2) && (if c = 2 then decide (Cond.methodLinkNest own k q.1 host ∈ Xs) else decide (Cond.methodLink own k q.1 ∈ Us))
      | none => false
  | .invokestatic k => match c with
    | 1 => decide (decode cc pc = .ok (.invokestatic k, 3)) && decide (Cond.methodLink own k arraycopyName ∈ Us) && decide (Cond.native arraycopyName ∈ Us) && decide (Cond.static arraycopyName ∈ Us) && decide (Cond.initialized "java/lang/System" ∈ Us)
    | 4 => decide (decode cc pc = .ok (.invokestatic k, 3)) && decide (Cond.methodLink own k Lib.Math.max.name ∈ Us) && decide (Cond.static Lib.Math.max.name ∈ Us) && decide (Cond.initialized "java/lang/Math" ∈ Us)
    | 5 => decide (decode cc pc = .ok (.invokestatic k, 3)) && decide (Cond.methodLink own k Lib.Math.min.name ∈ Us) && decide (Cond.static Lib.Math.min.name ∈ Us) && decide (Cond.initialized "java/lang/Math" ∈ Us)
    | _ => match mt a with
      | some q => decide (decode cc pc = .ok (.invokestatic k, 3)) && decide (q.2.2.2.2.1 = b) && decide (q.2.2.2.2.2.1 = 0) && (if c = 2 then decide (Cond.methodLinkNest own k q.1 host ∈ Xs) else decide (Cond.methodLink own k q.1 ∈ Us))
      | none => false
  | .ireturn => decide (decode cc pc = .ok (.ireturn, 1)) && (if a = 0 then decide (rt = some .int) else decide (rt = some .boolean))
  | .areturn => decide (decode cc pc = .ok (.areturn, 1)) && (match rt with
    | some ty => mm_isr ty
    | none => false)
  | .return_ => decide (decode cc pc = .ok (.return_, 1)) && decide (rt = none)
  | i => decide (decode cc pc = .ok (i, 1))
/-- words that a call keeps by rows of their own -/
def mm_Xw (Xs : List Cond) (U : State) : Prop := ∀ w ∈ Xs, w.before #[] U = true
def mm_Xk (Xs : List Cond) : Prop := ∀ w ∈ Xs, (∃ (a : String) (i : Nat) (x : MethodName) (h : String), w = .methodLinkNest a i x h) ∨ ∃ C : String, w = .arrayOver (.object C)
theorem mm_Xw.moved {Xs : List Cond} (hk : mm_Xk Xs) {s U : State} (hW : s.WarmedH U.vm) (h : mm_Xw Xs s) : mm_Xw Xs U := fun w hw => by
  rcases hk w hw with ⟨a, i, x, g, rfl⟩ | ⟨C, rfl⟩
  · exact va_Nw.warmM hW (h _ hw)
  · exact va_AO.moved hW.alike (h _ hw)
theorem mm_Xw.calling {Xs : List Cond} (hk : mm_Xk Xs) {U : State} {g : JFrame} {mk : MethodId} {a : Array Value} (h : mm_Xw Xs U) : mm_Xw Xs (U.calling g mk a) := fun w hw => by
  rcases hk w hw with ⟨b, i, x, g, rfl⟩ | ⟨C, rfl⟩
  · exact va_tabs (A := #[]) (u := U) rfl rfl (h _ hw)
  · exact va_AO.moved (u := U) (Vm.Alike.refl U.vm) (h _ hw)
/-- what stands all through a method's body -/
def mm_Cx (p : Program) (s : State) (m : MethodId) (args : Array Value) (meth : Method) (c : Code) (cc : ByteArray) (nL : Nat) (ini : Bool) (rt : Option FieldType) (own TC : String) (Ts Us Xs : List Cond) (D : va_G) (cl : List vw_C) (ft : Nat → Nat → FieldType) (cA : Nat → ClassId) (A : Nat → Prop) : Prop :=
  p.tables.exec = Jvm.exec ∧ c.code = cc ∧ c.maxLocals = nL ∧ s.vm.findClass own = some m.cls ∧ (∀ w ∈ Ts, w.before args s = true) ∧ va_K D cl [(cA 0, .int), (cA 1, .byte), (cA 2, .boolean), (cA 3, .object TC)] s ∧ (∀ q, s.heap.size ≤ q → A q) ∧ mm_Cl Ts cl ft ∧ (∀ w ∈ Us, w ∈ Ts) ∧ (ini = true → meth.name = "<init>") ∧ meth.sig.returnType = rt ∧ meth.locks = false ∧ mm_Xw Xs s
def mm_Pre (s : State) (D : va_G) (cl : List vw_C) (ft : Nat → Nat → FieldType) (cA : Nat → ClassId) (A : Nat → Prop) (nL n0 z0 : Nat) (ad0 : Nat → Nat) (L st : List Value) (h : mm_Hp) (H : Heap) (locs : List Loc) (ad : Nat → Nat) (ls : Array Slot) : Prop :=
  va_P D cl (mm_ws cl ft cA ad h) H ∧ va_D A (mm_ws cl ft cA ad h) ∧ va_S A s.heap H locs ∧ mm_wf h ∧ (∀ v ∈ L, mm_okv (mm_n h) v) ∧ (∀ v ∈ st, mm_okv (mm_n h) v) ∧ mm_LR ad L ls nL ∧ n0 ≤ mm_n h ∧ z0 ≤ mm_z h ∧ ∀ k, k < n0 → ad k = ad0 k
def mm_Fin (v : Option Value) (h h' : mm_Hp) : Prop := mm_wf h' ∧ mm_n h ≤ mm_n h' ∧ mm_z h ≤ mm_z h' ∧ ∀ x, v = some x → mm_okv (mm_n h') x
theorem mm_Pre.stk {s : State} {D : va_G} {cl : List vw_C} {ft : Nat → Nat → FieldType} {cA : Nat → ClassId} {A : Nat → Prop} {nL n0 z0 : Nat} {ad0 : Nat → Nat} {L st st' : List Value} {h : mm_Hp} {H : Heap} {locs : List Loc} {ad : Nat → Nat} {ls : Array Slot} (P : mm_Pre s D cl ft cA A nL n0 z0 ad0 L st h H locs ad ls) (hs : ∀ v ∈ st', mm_okv (mm_n h) v) : mm_Pre s D cl ft cA A nL n0 z0 ad0 L st' h H locs ad ls :=
  ⟨P.1, P.2.1, P.2.2.1, P.2.2.2.1, P.2.2.2.2.1, hs, P.2.2.2.2.2.2⟩
theorem mm_o1 {n : Nat} {x : Value} {r : List Value} (hx : mm_okv n x) (h : ∀ v ∈ r, mm_okv n v) : ∀ v ∈ x :: r, mm_okv n v := fun v hv => (List.mem_cons.mp hv).elim (fun e => by rw [e]; exact hx) (h v)
theorem mm_tl {n : Nat} {x : Value} {r : List Value} (h : ∀ v ∈ x :: r, mm_okv n v) : ∀ v ∈ r, mm_okv n v := fun v hv => h v (List.mem_cons_of_mem _ hv)
theorem mm_hd {n : Nat} {x : Value} {r : List Value} (h : ∀ v ∈ x :: r, mm_okv n v) : mm_okv n x := h x List.mem_cons_self
theorem mm_set_ok {n : Nat} {x : Value} {L : List Value} {i : Nat} (hx : mm_okv n x) (h : ∀ v ∈ L, mm_okv n v) : ∀ v ∈ L.set i x, mm_okv n v := fun v hv => (List.mem_or_eq_of_mem_set hv).elim (h v) (fun e => by rw [e]; exact hx)
theorem mm_sw_some {α : Type} {x : Int32} {K : Nat → Option α} {d : Nat} {r : α} : ∀ {l : List (Int32 × Nat)}, mm_sw x K d l = some r → (∃ (j t : Nat), l[j]? = some (x, t) ∧ K t = some r) ∨ ((∀ (j : Nat) (q : Int32 × Nat), l[j]? = some q → x ≠ q.1) ∧ K d = some r)
  | [], h => Or.inr ⟨fun j q hq => by simp at hq, h⟩
  | (k, t) :: l, h => by
    have h : (if x = k then K t else mm_sw x K d l) = some r := h
    by_cases hk : x = k
    · rw [if_pos hk] at h
      exact Or.inl ⟨0, t, by rw [hk]; rfl, h⟩
    · rw [if_neg hk] at h
      rcases mm_sw_some h with ⟨j, t', h1, h2⟩ | ⟨h1, h2⟩
      · exact Or.inl ⟨j + 1, t', by simpa using h1, h2⟩
      · refine Or.inr ⟨fun j q hq => ?_, h2⟩
        cases j with
        | zero => cases hq; exact hk
        | succ j => exact h1 j q (by simpa using hq)
theorem mm_sw_look {α : Type} {x : Int32} {K : Nat → Option α} {d pc : Nat} {df : Int} {r : α} (hd : (pc : Int) + df = (d : Int)) : ∀ {l : List (Int32 × Nat)}, mm_sw x K d l = some r → ∃ t : Nat, K t = some r ∧ (pc : Int) + Op.lookupswitch.offset (l.map (fun q => (q.1.toInt, (q.2 : Int) - (pc : Int)))) df x.toInt = (t : Int)
  | [], h => ⟨d, h, hd⟩
  | (k, t) :: l, h => by
    have h : (if x = k then K t else mm_sw x K d l) = some r := h
    by_cases hk : x = k
    · rw [if_pos hk] at h
      refine ⟨t, h, ?_⟩
      rw [List.map_cons, Op.lookupswitch.offset_cons, if_pos (by rw [hk])]
      show (pc : Int) + ((t : Int) - (pc : Int)) = t
      omega
    · rw [if_neg hk] at h
      obtain ⟨t', h1, h2⟩ := mm_sw_look hd h
      exact ⟨t', h1, by rw [List.map_cons, lv_osw hk rfl]; exact h2⟩
set_option maxHeartbeats 4000000 in
theorem mm_step_iconst {p : Program} {l : Launch} {e : Env} {R : Room} {s : State} {m : MethodId} {args : Array Value} {below : List Frame} {meth : Method} {c : Code} {Q : State → Prop} {cc : ByteArray} {nL : Nat} {ini : Bool} {rt : Option FieldType} {own host TC : String} {Ts Us Xs : List Cond} {D : va_G} {cl : List vw_C} {ft : Nat → Nat → FieldType} {cA : Nat → ClassId} {A : Nat → Prop} {n0 z0 : Nat} {ad0 : Nat → Nat} {mt : Nat → Option mm_Mi} {E : mm_Ev} {K : mm_Cf → Option mm_Rs} {vv : Option Value} {h' : mm_Hp}
    (X : mm_Cx p s m args meth c cc nL ini rt own TC Ts Us Xs D cl ft cA A)
    (hK : ∀ pc L st h, K (pc, L, st, h) = some (vv, h') → mm_wf h → (∀ v ∈ L, mm_okv (mm_n h) v) → (∀ v ∈ st, mm_okv (mm_n h) v) → mm_Fin vv h h' ∧ ∀ H locs ad ls, mm_Pre s D cl ft cA A nL n0 z0 ad0 L st h H locs ad ls → W p l e R s m args below meth c H locs (mm_n h - n0) (mm_z h - z0) Q (F0 m pc ls (st.map (mm_cv ad))))
    {pc : Nat} {L st : List Value} {h : mm_Hp} {k : Int} {a b c' : Nat} {v : Int32} {q : List (Int32 × Nat)} (hck : mm_ck own host TC cc nL ini rt Us Xs cl ft mt pc (.iconst k) a b c' v q = true) (hr : mm_ex E K pc L st h (.iconst k) a b c' v q = some (vv, h')) (hwf : mm_wf h) (hoL : ∀ v ∈ L, mm_okv (mm_n h) v) (hok : ∀ v ∈ st, mm_okv (mm_n h) v) :
    mm_Fin vv h h' ∧ ∀ H locs ad ls, mm_Pre s D cl ft cA A nL n0 z0 ad0 L st h H locs ad ls → W p l e R s m args below meth c H locs (mm_n h - n0) (mm_z h - z0) Q (F0 m pc ls (st.map (mm_cv ad))) := by
  obtain ⟨hx, hb, hml, hown, hts, hKk, hA, hCl, hUs, hini, hrt, hlk, hXs⟩ := X
  simp only [mm_ck, Bool.and_eq_true, decide_eq_true_eq] at hck
  obtain ⟨F, w⟩ := hK _ _ _ _ hr hwf hoL (mm_o1 trivial hok)
  exact ⟨F, fun H locs ad ls P => lv_iconst hx hb hck.1 hck.2 (w _ _ _ _ (P.stk (mm_o1 trivial hok)))⟩
set_option maxHeartbeats 4000000 in
theorem mm_step_bipush {p : Program} {l : Launch} {e : Env} {R : Room} {s : State} {m : MethodId} {args : Array Value} {below : List Frame} {meth : Method} {c : Code} {Q : State → Prop} {cc : ByteArray} {nL : Nat} {ini : Bool} {rt : Option FieldType} {own host TC : String} {Ts Us Xs : List Cond} {D : va_G} {cl : List vw_C} {ft : Nat → Nat → FieldType} {cA : Nat → ClassId} {A : Nat → Prop} {n0 z0 : Nat} {ad0 : Nat → Nat} {mt : Nat → Option mm_Mi} {E : mm_Ev} {K : mm_Cf → Option mm_Rs} {vv : Option Value} {h' : mm_Hp}
    (X : mm_Cx p s m args meth c cc nL ini rt own TC Ts Us Xs D cl ft cA A)
    (hK : ∀ pc L st h, K (pc, L, st, h) = some (vv, h') → mm_wf h → (∀ v ∈ L, mm_okv (mm_n h) v) → (∀ v ∈ st, mm_okv (mm_n h) v) → mm_Fin vv h h' ∧ ∀ H locs ad ls, mm_Pre s D cl ft cA A nL n0 z0 ad0 L st h H locs ad ls → W p l e R s m args below meth c H locs (mm_n h - n0) (mm_z h - z0) Q (F0 m pc ls (st.map (mm_cv ad))))
    {pc : Nat} {L st : List Value} {h : mm_Hp} {k : Int} {a b c' : Nat} {v : Int32} {q : List (Int32 × Nat)} (hck : mm_ck own host TC cc nL ini rt Us Xs cl ft mt pc (.bipush k) a b c' v q = true) (hr : mm_ex E K pc L st h (.bipush k) a b c' v q = some (vv, h')) (hwf : mm_wf h) (hoL : ∀ v ∈ L, mm_okv (mm_n h) v) (hok : ∀ v ∈ st, mm_okv (mm_n h) v) :
    mm_Fin vv h h' ∧ ∀ H locs ad ls, mm_Pre s D cl ft cA A nL n0 z0 ad0 L st h H locs ad ls → W p l e R s m args below meth c H locs (mm_n h - n0) (mm_z h - z0) Q (F0 m pc ls (st.map (mm_cv ad))) := by
  obtain ⟨hx, hb, hml, hown, hts, hKk, hA, hCl, hUs, hini, hrt, hlk, hXs⟩ := X
  simp only [mm_ck, Bool.and_eq_true, decide_eq_true_eq] at hck
  obtain ⟨F, w⟩ := hK _ _ _ _ hr hwf hoL (mm_o1 trivial hok)
  exact ⟨F, fun H locs ad ls P => lv_bipush hx hb hck.1 hck.2 (w _ _ _ _ (P.stk (mm_o1 trivial hok)))⟩
set_option maxHeartbeats 4000000 in
theorem mm_step_sipush {p : Program} {l : Launch} {e : Env} {R : Room} {s : State} {m : MethodId} {args : Array Value} {below : List Frame} {meth : Method} {c : Code} {Q : State → Prop} {cc : ByteArray} {nL : Nat} {ini : Bool} {rt : Option FieldType} {own host TC : String} {Ts Us Xs : List Cond} {D : va_G} {cl : List vw_C} {ft : Nat → Nat → FieldType} {cA : Nat → ClassId} {A : Nat → Prop} {n0 z0 : Nat} {ad0 : Nat → Nat} {mt : Nat → Option mm_Mi} {E : mm_Ev} {K : mm_Cf → Option mm_Rs} {vv : Option Value} {h' : mm_Hp}
    (X : mm_Cx p s m args meth c cc nL ini rt own TC Ts Us Xs D cl ft cA A)
    (hK : ∀ pc L st h, K (pc, L, st, h) = some (vv, h') → mm_wf h → (∀ v ∈ L, mm_okv (mm_n h) v) → (∀ v ∈ st, mm_okv (mm_n h) v) → mm_Fin vv h h' ∧ ∀ H locs ad ls, mm_Pre s D cl ft cA A nL n0 z0 ad0 L st h H locs ad ls → W p l e R s m args below meth c H locs (mm_n h - n0) (mm_z h - z0) Q (F0 m pc ls (st.map (mm_cv ad))))
    {pc : Nat} {L st : List Value} {h : mm_Hp} {k : Int} {a b c' : Nat} {v : Int32} {q : List (Int32 × Nat)} (hck : mm_ck own host TC cc nL ini rt Us Xs cl ft mt pc (.sipush k) a b c' v q = true) (hr : mm_ex E K pc L st h (.sipush k) a b c' v q = some (vv, h')) (hwf : mm_wf h) (hoL : ∀ v ∈ L, mm_okv (mm_n h) v) (hok : ∀ v ∈ st, mm_okv (mm_n h) v) :
    mm_Fin vv h h' ∧ ∀ H locs ad ls, mm_Pre s D cl ft cA A nL n0 z0 ad0 L st h H locs ad ls → W p l e R s m args below meth c H locs (mm_n h - n0) (mm_z h - z0) Q (F0 m pc ls (st.map (mm_cv ad))) := by
  obtain ⟨hx, hb, hml, hown, hts, hKk, hA, hCl, hUs, hini, hrt, hlk, hXs⟩ := X
  simp only [mm_ck, Bool.and_eq_true, decide_eq_true_eq] at hck
  obtain ⟨F, w⟩ := hK _ _ _ _ hr hwf hoL (mm_o1 trivial hok)
  exact ⟨F, fun H locs ad ls P => lv_sipush hx hb hck.1 hck.2 (w _ _ _ _ (P.stk (mm_o1 trivial hok)))⟩
set_option maxHeartbeats 4000000 in
theorem mm_step_ldc {p : Program} {l : Launch} {e : Env} {R : Room} {s : State} {m : MethodId} {args : Array Value} {below : List Frame} {meth : Method} {c : Code} {Q : State → Prop} {cc : ByteArray} {nL : Nat} {ini : Bool} {rt : Option FieldType} {own host TC : String} {Ts Us Xs : List Cond} {D : va_G} {cl : List vw_C} {ft : Nat → Nat → FieldType} {cA : Nat → ClassId} {A : Nat → Prop} {n0 z0 : Nat} {ad0 : Nat → Nat} {mt : Nat → Option mm_Mi} {E : mm_Ev} {K : mm_Cf → Option mm_Rs} {vv : Option Value} {h' : mm_Hp}
    (X : mm_Cx p s m args meth c cc nL ini rt own TC Ts Us Xs D cl ft cA A)
    (hK : ∀ pc L st h, K (pc, L, st, h) = some (vv, h') → mm_wf h → (∀ v ∈ L, mm_okv (mm_n h) v) → (∀ v ∈ st, mm_okv (mm_n h) v) → mm_Fin vv h h' ∧ ∀ H locs ad ls, mm_Pre s D cl ft cA A nL n0 z0 ad0 L st h H locs ad ls → W p l e R s m args below meth c H locs (mm_n h - n0) (mm_z h - z0) Q (F0 m pc ls (st.map (mm_cv ad))))
    {pc : Nat} {L st : List Value} {h : mm_Hp} {k : Nat} {a b c' : Nat} {v : Int32} {q : List (Int32 × Nat)} (hck : mm_ck own host TC cc nL ini rt Us Xs cl ft mt pc (.ldc k) a b c' v q = true) (hr : mm_ex E K pc L st h (.ldc k) a b c' v q = some (vv, h')) (hwf : mm_wf h) (hoL : ∀ v ∈ L, mm_okv (mm_n h) v) (hok : ∀ v ∈ st, mm_okv (mm_n h) v) :
    mm_Fin vv h h' ∧ ∀ H locs ad ls, mm_Pre s D cl ft cA A nL n0 z0 ad0 L st h H locs ad ls → W p l e R s m args below meth c H locs (mm_n h - n0) (mm_z h - z0) Q (F0 m pc ls (st.map (mm_cv ad))) := by
  obtain ⟨hx, hb, hml, hown, hts, hKk, hA, hCl, hUs, hini, hrt, hlk, hXs⟩ := X
  simp only [mm_ck, Bool.and_eq_true, decide_eq_true_eq] at hck
  obtain ⟨F, w⟩ := hK _ _ _ _ hr hwf hoL (mm_o1 trivial hok)
  exact ⟨F, fun H locs ad ls P => lv_ldc hx hb hown (hts _ (hUs _ hck.2)) hck.1 (w _ _ _ _ (P.stk (mm_o1 trivial hok)))⟩
set_option maxHeartbeats 4000000 in
theorem mm_step_ldc_w {p : Program} {l : Launch} {e : Env} {R : Room} {s : State} {m : MethodId} {args : Array Value} {below : List Frame} {meth : Method} {c : Code} {Q : State → Prop} {cc : ByteArray} {nL : Nat} {ini : Bool} {rt : Option FieldType} {own host TC : String} {Ts Us Xs : List Cond} {D : va_G} {cl : List vw_C} {ft : Nat → Nat → FieldType} {cA : Nat → ClassId} {A : Nat → Prop} {n0 z0 : Nat} {ad0 : Nat → Nat} {mt : Nat → Option mm_Mi} {E : mm_Ev} {K : mm_Cf → Option mm_Rs} {vv : Option Value} {h' : mm_Hp}
    (X : mm_Cx p s m args meth c cc nL ini rt own TC Ts Us Xs D cl ft cA A)
    (hK : ∀ pc L st h, K (pc, L, st, h) = some (vv, h') → mm_wf h → (∀ v ∈ L, mm_okv (mm_n h) v) → (∀ v ∈ st, mm_okv (mm_n h) v) → mm_Fin vv h h' ∧ ∀ H locs ad ls, mm_Pre s D cl ft cA A nL n0 z0 ad0 L st h H locs ad ls → W p l e R s m args below meth c H locs (mm_n h - n0) (mm_z h - z0) Q (F0 m pc ls (st.map (mm_cv ad))))
    {pc : Nat} {L st : List Value} {h : mm_Hp} {k : Nat} {a b c' : Nat} {v : Int32} {q : List (Int32 × Nat)} (hck : mm_ck own host TC cc nL ini rt Us Xs cl ft mt pc (.ldc_w k) a b c' v q = true) (hr : mm_ex E K pc L st h (.ldc_w k) a b c' v q = some (vv, h')) (hwf : mm_wf h) (hoL : ∀ v ∈ L, mm_okv (mm_n h) v) (hok : ∀ v ∈ st, mm_okv (mm_n h) v) :
    mm_Fin vv h h' ∧ ∀ H locs ad ls, mm_Pre s D cl ft cA A nL n0 z0 ad0 L st h H locs ad ls → W p l e R s m args below meth c H locs (mm_n h - n0) (mm_z h - z0) Q (F0 m pc ls (st.map (mm_cv ad))) := by
  obtain ⟨hx, hb, hml, hown, hts, hKk, hA, hCl, hUs, hini, hrt, hlk, hXs⟩ := X
  simp only [mm_ck, Bool.and_eq_true, decide_eq_true_eq] at hck
  obtain ⟨F, w⟩ := hK _ _ _ _ hr hwf hoL (mm_o1 trivial hok)
  exact ⟨F, fun H locs ad ls P => lv_ldcw hx hb hown (hts _ (hUs _ hck.2)) hck.1 (w _ _ _ _ (P.stk (mm_o1 trivial hok)))⟩
set_option maxHeartbeats 4000000 in
theorem mm_step_iload_n {p : Program} {l : Launch} {e : Env} {R : Room} {s : State} {m : MethodId} {args : Array Value} {below : List Frame} {meth : Method} {c : Code} {Q : State → Prop} {cc : ByteArray} {nL : Nat} {ini : Bool} {rt : Option FieldType} {own host TC : String} {Ts Us Xs : List Cond} {D : va_G} {cl : List vw_C} {ft : Nat → Nat → FieldType} {cA : Nat → ClassId} {A : Nat → Prop} {n0 z0 : Nat} {ad0 : Nat → Nat} {mt : Nat → Option mm_Mi} {E : mm_Ev} {K : mm_Cf → Option mm_Rs} {vv : Option Value} {h' : mm_Hp}
    (X : mm_Cx p s m args meth c cc nL ini rt own TC Ts Us Xs D cl ft cA A)
    (hK : ∀ pc L st h, K (pc, L, st, h) = some (vv, h') → mm_wf h → (∀ v ∈ L, mm_okv (mm_n h) v) → (∀ v ∈ st, mm_okv (mm_n h) v) → mm_Fin vv h h' ∧ ∀ H locs ad ls, mm_Pre s D cl ft cA A nL n0 z0 ad0 L st h H locs ad ls → W p l e R s m args below meth c H locs (mm_n h - n0) (mm_z h - z0) Q (F0 m pc ls (st.map (mm_cv ad))))
    {pc : Nat} {L st : List Value} {h : mm_Hp} {k : Fin 4} {a b c' : Nat} {v : Int32} {q : List (Int32 × Nat)} (hck : mm_ck own host TC cc nL ini rt Us Xs cl ft mt pc (.iload_n k) a b c' v q = true) (hr : mm_ex E K pc L st h (.iload_n k) a b c' v q = some (vv, h')) (hwf : mm_wf h) (hoL : ∀ v ∈ L, mm_okv (mm_n h) v) (hok : ∀ v ∈ st, mm_okv (mm_n h) v) :
    mm_Fin vv h h' ∧ ∀ H locs ad ls, mm_Pre s D cl ft cA A nL n0 z0 ad0 L st h H locs ad ls → W p l e R s m args below meth c H locs (mm_n h - n0) (mm_z h - z0) Q (F0 m pc ls (st.map (mm_cv ad))) := by
  obtain ⟨hx, hb, hml, hown, hts, hKk, hA, hCl, hUs, hini, hrt, hlk, hXs⟩ := X
  simp only [mm_ck, Bool.and_eq_true, decide_eq_true_eq] at hck
  simp only [mm_ex] at hr
  split at hr
  · rename_i x hl
    rw [mm_nth_eq] at hl
    have hx1 := hoL _ (List.mem_of_getElem? hl)
    obtain ⟨F, w⟩ := hK _ _ _ _ hr hwf hoL (mm_o1 hx1 hok)
    refine ⟨F, fun H locs ad ls P => ?_⟩
    have hv := P.2.2.2.2.2.2.1.2.2.2 _ _ hl (fun r hr => by cases hr)
    exact lv_iload_n hx hb hck.1 hck.2 hv (w _ _ _ _ (P.stk (mm_o1 hx1 hok)))
  · cases hr
set_option maxHeartbeats 4000000 in
theorem mm_step_aload_n {p : Program} {l : Launch} {e : Env} {R : Room} {s : State} {m : MethodId} {args : Array Value} {below : List Frame} {meth : Method} {c : Code} {Q : State → Prop} {cc : ByteArray} {nL : Nat} {ini : Bool} {rt : Option FieldType} {own host TC : String} {Ts Us Xs : List Cond} {D : va_G} {cl : List vw_C} {ft : Nat → Nat → FieldType} {cA : Nat → ClassId} {A : Nat → Prop} {n0 z0 : Nat} {ad0 : Nat → Nat} {mt : Nat → Option mm_Mi} {E : mm_Ev} {K : mm_Cf → Option mm_Rs} {vv : Option Value} {h' : mm_Hp}
    (X : mm_Cx p s m args meth c cc nL ini rt own TC Ts Us Xs D cl ft cA A)
    (hK : ∀ pc L st h, K (pc, L, st, h) = some (vv, h') → mm_wf h → (∀ v ∈ L, mm_okv (mm_n h) v) → (∀ v ∈ st, mm_okv (mm_n h) v) → mm_Fin vv h h' ∧ ∀ H locs ad ls, mm_Pre s D cl ft cA A nL n0 z0 ad0 L st h H locs ad ls → W p l e R s m args below meth c H locs (mm_n h - n0) (mm_z h - z0) Q (F0 m pc ls (st.map (mm_cv ad))))
    {pc : Nat} {L st : List Value} {h : mm_Hp} {k : Fin 4} {a b c' : Nat} {v : Int32} {q : List (Int32 × Nat)} (hck : mm_ck own host TC cc nL ini rt Us Xs cl ft mt pc (.aload_n k) a b c' v q = true) (hr : mm_ex E K pc L st h (.aload_n k) a b c' v q = some (vv, h')) (hwf : mm_wf h) (hoL : ∀ v ∈ L, mm_okv (mm_n h) v) (hok : ∀ v ∈ st, mm_okv (mm_n h) v) :
    mm_Fin vv h h' ∧ ∀ H locs ad ls, mm_Pre s D cl ft cA A nL n0 z0 ad0 L st h H locs ad ls → W p l e R s m args below meth c H locs (mm_n h - n0) (mm_z h - z0) Q (F0 m pc ls (st.map (mm_cv ad))) := by
  obtain ⟨hx, hb, hml, hown, hts, hKk, hA, hCl, hUs, hini, hrt, hlk, hXs⟩ := X
  simp only [mm_ck, Bool.and_eq_true, decide_eq_true_eq] at hck
  simp only [mm_ex] at hr
  split at hr
  · rename_i x hl
    rw [mm_nth_eq] at hl
    have hx1 := hoL _ (List.mem_of_getElem? hl)
    obtain ⟨F, w⟩ := hK _ _ _ _ hr hwf hoL (mm_o1 hx1 hok)
    refine ⟨F, fun H locs ad ls P => ?_⟩
    have hv := P.2.2.2.2.2.2.1.2.2.2 _ _ hl (fun r hr => by cases hr)
    exact lv_aload_n hx hb hck.1 hck.2 hv (w _ _ _ _ (P.stk (mm_o1 hx1 hok)))
  · cases hr
set_option maxHeartbeats 4000000 in
theorem mm_step_iload {p : Program} {l : Launch} {e : Env} {R : Room} {s : State} {m : MethodId} {args : Array Value} {below : List Frame} {meth : Method} {c : Code} {Q : State → Prop} {cc : ByteArray} {nL : Nat} {ini : Bool} {rt : Option FieldType} {own host TC : String} {Ts Us Xs : List Cond} {D : va_G} {cl : List vw_C} {ft : Nat → Nat → FieldType} {cA : Nat → ClassId} {A : Nat → Prop} {n0 z0 : Nat} {ad0 : Nat → Nat} {mt : Nat → Option mm_Mi} {E : mm_Ev} {K : mm_Cf → Option mm_Rs} {vv : Option Value} {h' : mm_Hp}
    (X : mm_Cx p s m args meth c cc nL ini rt own TC Ts Us Xs D cl ft cA A)
    (hK : ∀ pc L st h, K (pc, L, st, h) = some (vv, h') → mm_wf h → (∀ v ∈ L, mm_okv (mm_n h) v) → (∀ v ∈ st, mm_okv (mm_n h) v) → mm_Fin vv h h' ∧ ∀ H locs ad ls, mm_Pre s D cl ft cA A nL n0 z0 ad0 L st h H locs ad ls → W p l e R s m args below meth c H locs (mm_n h - n0) (mm_z h - z0) Q (F0 m pc ls (st.map (mm_cv ad))))
    {pc : Nat} {L st : List Value} {h : mm_Hp} {k : Nat} {a b c' : Nat} {v : Int32} {q : List (Int32 × Nat)} (hck : mm_ck own host TC cc nL ini rt Us Xs cl ft mt pc (.iload k) a b c' v q = true) (hr : mm_ex E K pc L st h (.iload k) a b c' v q = some (vv, h')) (hwf : mm_wf h) (hoL : ∀ v ∈ L, mm_okv (mm_n h) v) (hok : ∀ v ∈ st, mm_okv (mm_n h) v) :
    mm_Fin vv h h' ∧ ∀ H locs ad ls, mm_Pre s D cl ft cA A nL n0 z0 ad0 L st h H locs ad ls → W p l e R s m args below meth c H locs (mm_n h - n0) (mm_z h - z0) Q (F0 m pc ls (st.map (mm_cv ad))) := by
  obtain ⟨hx, hb, hml, hown, hts, hKk, hA, hCl, hUs, hini, hrt, hlk, hXs⟩ := X
  simp only [mm_ck, Bool.and_eq_true, decide_eq_true_eq] at hck
  simp only [mm_ex] at hr
  split at hr
  · rename_i x hl
    rw [mm_nth_eq] at hl
    have hx1 := hoL _ (List.mem_of_getElem? hl)
    obtain ⟨F, w⟩ := hK _ _ _ _ hr hwf hoL (mm_o1 hx1 hok)
    refine ⟨F, fun H locs ad ls P => ?_⟩
    have hv := P.2.2.2.2.2.2.1.2.2.2 _ _ hl (fun r hr => by cases hr)
    exact lv_iload hx hb hck.1 (by rw [hck.2]; exact hv) (w _ _ _ _ (P.stk (mm_o1 hx1 hok)))
  · cases hr
set_option maxHeartbeats 4000000 in
theorem mm_step_aload {p : Program} {l : Launch} {e : Env} {R : Room} {s : State} {m : MethodId} {args : Array Value} {below : List Frame} {meth : Method} {c : Code} {Q : State → Prop} {cc : ByteArray} {nL : Nat} {ini : Bool} {rt : Option FieldType} {own host TC : String} {Ts Us Xs : List Cond} {D : va_G} {cl : List vw_C} {ft : Nat → Nat → FieldType} {cA : Nat → ClassId} {A : Nat → Prop} {n0 z0 : Nat} {ad0 : Nat → Nat} {mt : Nat → Option mm_Mi} {E : mm_Ev} {K : mm_Cf → Option mm_Rs} {vv : Option Value} {h' : mm_Hp}
    (X : mm_Cx p s m args meth c cc nL ini rt own TC Ts Us Xs D cl ft cA A)
    (hK : ∀ pc L st h, K (pc, L, st, h) = some (vv, h') → mm_wf h → (∀ v ∈ L, mm_okv (mm_n h) v) → (∀ v ∈ st, mm_okv (mm_n h) v) → mm_Fin vv h h' ∧ ∀ H locs ad ls, mm_Pre s D cl ft cA A nL n0 z0 ad0 L st h H locs ad ls → W p l e R s m args below meth c H locs (mm_n h - n0) (mm_z h - z0) Q (F0 m pc ls (st.map (mm_cv ad))))
    {pc : Nat} {L st : List Value} {h : mm_Hp} {k : Nat} {a b c' : Nat} {v : Int32} {q : List (Int32 × Nat)} (hck : mm_ck own host TC cc nL ini rt Us Xs cl ft mt pc (.aload k) a b c' v q = true) (hr : mm_ex E K pc L st h (.aload k) a b c' v q = some (vv, h')) (hwf : mm_wf h) (hoL : ∀ v ∈ L, mm_okv (mm_n h) v) (hok : ∀ v ∈ st, mm_okv (mm_n h) v) :
    mm_Fin vv h h' ∧ ∀ H locs ad ls, mm_Pre s D cl ft cA A nL n0 z0 ad0 L st h H locs ad ls → W p l e R s m args below meth c H locs (mm_n h - n0) (mm_z h - z0) Q (F0 m pc ls (st.map (mm_cv ad))) := by
  obtain ⟨hx, hb, hml, hown, hts, hKk, hA, hCl, hUs, hini, hrt, hlk, hXs⟩ := X
  simp only [mm_ck, Bool.and_eq_true, decide_eq_true_eq] at hck
  simp only [mm_ex] at hr
  split at hr
  · rename_i x hl
    rw [mm_nth_eq] at hl
    have hx1 := hoL _ (List.mem_of_getElem? hl)
    obtain ⟨F, w⟩ := hK _ _ _ _ hr hwf hoL (mm_o1 hx1 hok)
    refine ⟨F, fun H locs ad ls P => ?_⟩
    have hv := P.2.2.2.2.2.2.1.2.2.2 _ _ hl (fun r hr => by cases hr)
    exact lv_aload hx hb hck.1 (by rw [hck.2]; exact hv) (w _ _ _ _ (P.stk (mm_o1 hx1 hok)))
  · cases hr
set_option maxHeartbeats 4000000 in
theorem mm_step_istore_n {p : Program} {l : Launch} {e : Env} {R : Room} {s : State} {m : MethodId} {args : Array Value} {below : List Frame} {meth : Method} {c : Code} {Q : State → Prop} {cc : ByteArray} {nL : Nat} {ini : Bool} {rt : Option FieldType} {own host TC : String} {Ts Us Xs : List Cond} {D : va_G} {cl : List vw_C} {ft : Nat → Nat → FieldType} {cA : Nat → ClassId} {A : Nat → Prop} {n0 z0 : Nat} {ad0 : Nat → Nat} {mt : Nat → Option mm_Mi} {E : mm_Ev} {K : mm_Cf → Option mm_Rs} {vv : Option Value} {h' : mm_Hp}
    (X : mm_Cx p s m args meth c cc nL ini rt own TC Ts Us Xs D cl ft cA A)
    (hK : ∀ pc L st h, K (pc, L, st, h) = some (vv, h') → mm_wf h → (∀ v ∈ L, mm_okv (mm_n h) v) → (∀ v ∈ st, mm_okv (mm_n h) v) → mm_Fin vv h h' ∧ ∀ H locs ad ls, mm_Pre s D cl ft cA A nL n0 z0 ad0 L st h H locs ad ls → W p l e R s m args below meth c H locs (mm_n h - n0) (mm_z h - z0) Q (F0 m pc ls (st.map (mm_cv ad))))
    {pc : Nat} {L st : List Value} {h : mm_Hp} {k : Fin 4} {a b c' : Nat} {v : Int32} {q : List (Int32 × Nat)} (hck : mm_ck own host TC cc nL ini rt Us Xs cl ft mt pc (.istore_n k) a b c' v q = true) (hr : mm_ex E K pc L st h (.istore_n k) a b c' v q = some (vv, h')) (hwf : mm_wf h) (hoL : ∀ v ∈ L, mm_okv (mm_n h) v) (hok : ∀ v ∈ st, mm_okv (mm_n h) v) :
    mm_Fin vv h h' ∧ ∀ H locs ad ls, mm_Pre s D cl ft cA A nL n0 z0 ad0 L st h H locs ad ls → W p l e R s m args below meth c H locs (mm_n h - n0) (mm_z h - z0) Q (F0 m pc ls (st.map (mm_cv ad))) := by
  obtain ⟨hx, hb, hml, hown, hts, hKk, hA, hCl, hUs, hini, hrt, hlk, hXs⟩ := X
  simp only [mm_ck, Bool.and_eq_true, decide_eq_true_eq] at hck
  obtain ⟨⟨hd, rfl⟩, ha⟩ := hck
  simp only [mm_ex] at hr
  split at hr
  · rename_i x r
    obtain ⟨F, w⟩ := hK _ _ _ _ hr hwf (mm_set_ok (mm_hd hok) hoL) (mm_tl hok)
    exact ⟨F, fun H locs ad ls P => lv_istore_n hx hb hd rfl P.2.2.2.2.2.2.1.has ha rfl (fun ls' hl' => w _ _ _ _ ⟨P.1, P.2.1, P.2.2.1, P.2.2.2.1, mm_set_ok (mm_hd hok) hoL, mm_tl hok, P.2.2.2.2.2.2.1.set hoL hl', P.2.2.2.2.2.2.2⟩)⟩
  · cases hr
set_option maxHeartbeats 4000000 in
theorem mm_step_astore_n {p : Program} {l : Launch} {e : Env} {R : Room} {s : State} {m : MethodId} {args : Array Value} {below : List Frame} {meth : Method} {c : Code} {Q : State → Prop} {cc : ByteArray} {nL : Nat} {ini : Bool} {rt : Option FieldType} {own host TC : String} {Ts Us Xs : List Cond} {D : va_G} {cl : List vw_C} {ft : Nat → Nat → FieldType} {cA : Nat → ClassId} {A : Nat → Prop} {n0 z0 : Nat} {ad0 : Nat → Nat} {mt : Nat → Option mm_Mi} {E : mm_Ev} {K : mm_Cf → Option mm_Rs} {vv : Option Value} {h' : mm_Hp}
    (X : mm_Cx p s m args meth c cc nL ini rt own TC Ts Us Xs D cl ft cA A)
    (hK : ∀ pc L st h, K (pc, L, st, h) = some (vv, h') → mm_wf h → (∀ v ∈ L, mm_okv (mm_n h) v) → (∀ v ∈ st, mm_okv (mm_n h) v) → mm_Fin vv h h' ∧ ∀ H locs ad ls, mm_Pre s D cl ft cA A nL n0 z0 ad0 L st h H locs ad ls → W p l e R s m args below meth c H locs (mm_n h - n0) (mm_z h - z0) Q (F0 m pc ls (st.map (mm_cv ad))))
    {pc : Nat} {L st : List Value} {h : mm_Hp} {k : Fin 4} {a b c' : Nat} {v : Int32} {q : List (Int32 × Nat)} (hck : mm_ck own host TC cc nL ini rt Us Xs cl ft mt pc (.astore_n k) a b c' v q = true) (hr : mm_ex E K pc L st h (.astore_n k) a b c' v q = some (vv, h')) (hwf : mm_wf h) (hoL : ∀ v ∈ L, mm_okv (mm_n h) v) (hok : ∀ v ∈ st, mm_okv (mm_n h) v) :
    mm_Fin vv h h' ∧ ∀ H locs ad ls, mm_Pre s D cl ft cA A nL n0 z0 ad0 L st h H locs ad ls → W p l e R s m args below meth c H locs (mm_n h - n0) (mm_z h - z0) Q (F0 m pc ls (st.map (mm_cv ad))) := by
  obtain ⟨hx, hb, hml, hown, hts, hKk, hA, hCl, hUs, hini, hrt, hlk, hXs⟩ := X
  simp only [mm_ck, Bool.and_eq_true, decide_eq_true_eq] at hck
  obtain ⟨⟨hd, rfl⟩, ha⟩ := hck
  simp only [mm_ex] at hr
  split at hr
  · rename_i x r
    obtain ⟨F, w⟩ := hK _ _ _ _ hr hwf (mm_set_ok (mm_hd hok) hoL) (mm_tl hok)
    exact ⟨F, fun H locs ad ls P => lv_astore_n hx hb hd rfl P.2.2.2.2.2.2.1.has ha rfl (fun ls' hl' => w _ _ _ _ ⟨P.1, P.2.1, P.2.2.1, P.2.2.2.1, mm_set_ok (mm_hd hok) hoL, mm_tl hok, P.2.2.2.2.2.2.1.set hoL hl', P.2.2.2.2.2.2.2⟩)⟩
  · cases hr
set_option maxHeartbeats 4000000 in
theorem mm_step_istore {p : Program} {l : Launch} {e : Env} {R : Room} {s : State} {m : MethodId} {args : Array Value} {below : List Frame} {meth : Method} {c : Code} {Q : State → Prop} {cc : ByteArray} {nL : Nat} {ini : Bool} {rt : Option FieldType} {own host TC : String} {Ts Us Xs : List Cond} {D : va_G} {cl : List vw_C} {ft : Nat → Nat → FieldType} {cA : Nat → ClassId} {A : Nat → Prop} {n0 z0 : Nat} {ad0 : Nat → Nat} {mt : Nat → Option mm_Mi} {E : mm_Ev} {K : mm_Cf → Option mm_Rs} {vv : Option Value} {h' : mm_Hp}
    (X : mm_Cx p s m args meth c cc nL ini rt own TC Ts Us Xs D cl ft cA A)
    (hK : ∀ pc L st h, K (pc, L, st, h) = some (vv, h') → mm_wf h → (∀ v ∈ L, mm_okv (mm_n h) v) → (∀ v ∈ st, mm_okv (mm_n h) v) → mm_Fin vv h h' ∧ ∀ H locs ad ls, mm_Pre s D cl ft cA A nL n0 z0 ad0 L st h H locs ad ls → W p l e R s m args below meth c H locs (mm_n h - n0) (mm_z h - z0) Q (F0 m pc ls (st.map (mm_cv ad))))
    {pc : Nat} {L st : List Value} {h : mm_Hp} {k : Nat} {a b c' : Nat} {v : Int32} {q : List (Int32 × Nat)} (hck : mm_ck own host TC cc nL ini rt Us Xs cl ft mt pc (.istore k) a b c' v q = true) (hr : mm_ex E K pc L st h (.istore k) a b c' v q = some (vv, h')) (hwf : mm_wf h) (hoL : ∀ v ∈ L, mm_okv (mm_n h) v) (hok : ∀ v ∈ st, mm_okv (mm_n h) v) :
    mm_Fin vv h h' ∧ ∀ H locs ad ls, mm_Pre s D cl ft cA A nL n0 z0 ad0 L st h H locs ad ls → W p l e R s m args below meth c H locs (mm_n h - n0) (mm_z h - z0) Q (F0 m pc ls (st.map (mm_cv ad))) := by
  obtain ⟨hx, hb, hml, hown, hts, hKk, hA, hCl, hUs, hini, hrt, hlk, hXs⟩ := X
  simp only [mm_ck, Bool.and_eq_true, decide_eq_true_eq] at hck
  obtain ⟨⟨hd, rfl⟩, ha⟩ := hck
  simp only [mm_ex] at hr
  split at hr
  · rename_i x r
    obtain ⟨F, w⟩ := hK _ _ _ _ hr hwf (mm_set_ok (mm_hd hok) hoL) (mm_tl hok)
    exact ⟨F, fun H locs ad ls P => lv_istore hx hb hd P.2.2.2.2.2.2.1.has ha rfl (fun ls' hl' => w _ _ _ _ ⟨P.1, P.2.1, P.2.2.1, P.2.2.2.1, mm_set_ok (mm_hd hok) hoL, mm_tl hok, P.2.2.2.2.2.2.1.set hoL hl', P.2.2.2.2.2.2.2⟩)⟩
  · cases hr
set_option maxHeartbeats 4000000 in
theorem mm_step_iinc {p : Program} {l : Launch} {e : Env} {R : Room} {s : State} {m : MethodId} {args : Array Value} {below : List Frame} {meth : Method} {c : Code} {Q : State → Prop} {cc : ByteArray} {nL : Nat} {ini : Bool} {rt : Option FieldType} {own host TC : String} {Ts Us Xs : List Cond} {D : va_G} {cl : List vw_C} {ft : Nat → Nat → FieldType} {cA : Nat → ClassId} {A : Nat → Prop} {n0 z0 : Nat} {ad0 : Nat → Nat} {mt : Nat → Option mm_Mi} {E : mm_Ev} {K : mm_Cf → Option mm_Rs} {vv : Option Value} {h' : mm_Hp}
    (X : mm_Cx p s m args meth c cc nL ini rt own TC Ts Us Xs D cl ft cA A)
    (hK : ∀ pc L st h, K (pc, L, st, h) = some (vv, h') → mm_wf h → (∀ v ∈ L, mm_okv (mm_n h) v) → (∀ v ∈ st, mm_okv (mm_n h) v) → mm_Fin vv h h' ∧ ∀ H locs ad ls, mm_Pre s D cl ft cA A nL n0 z0 ad0 L st h H locs ad ls → W p l e R s m args below meth c H locs (mm_n h - n0) (mm_z h - z0) Q (F0 m pc ls (st.map (mm_cv ad))))
    {pc : Nat} {L st : List Value} {h : mm_Hp} {k : Nat} {n : Int} {a b c' : Nat} {v : Int32} {q : List (Int32 × Nat)} (hck : mm_ck own host TC cc nL ini rt Us Xs cl ft mt pc (.iinc k n) a b c' v q = true) (hr : mm_ex E K pc L st h (.iinc k n) a b c' v q = some (vv, h')) (hwf : mm_wf h) (hoL : ∀ v ∈ L, mm_okv (mm_n h) v) (hok : ∀ v ∈ st, mm_okv (mm_n h) v) :
    mm_Fin vv h h' ∧ ∀ H locs ad ls, mm_Pre s D cl ft cA A nL n0 z0 ad0 L st h H locs ad ls → W p l e R s m args below meth c H locs (mm_n h - n0) (mm_z h - z0) Q (F0 m pc ls (st.map (mm_cv ad))) := by
  obtain ⟨hx, hb, hml, hown, hts, hKk, hA, hCl, hUs, hini, hrt, hlk, hXs⟩ := X
  simp only [mm_ck, Bool.and_eq_true, decide_eq_true_eq] at hck
  obtain ⟨⟨⟨hd, rfl⟩, hv⟩, ha⟩ := hck
  simp only [mm_ex] at hr
  split at hr
  · rename_i x hl
    rw [mm_nth_eq] at hl
    obtain ⟨F, w⟩ := hK _ _ _ _ hr hwf (mm_set_ok trivial hoL) hok
    refine ⟨F, fun H locs ad ls P => ?_⟩
    have hm : (k, Value.int x) ∈ mm_lvl ad L := mm_lvl_mem.mpr ⟨.int x, hl, (fun r hr => by cases hr), rfl⟩
    obtain ⟨j, hj⟩ := List.getElem?_of_mem hm
    exact lv_iinc hx hb hd P.2.2.2.2.2.2.1.has hj (by rw [hv]) ha rfl (fun ls' hl' => w _ _ _ _ ⟨P.1, P.2.1, P.2.2.1, P.2.2.2.1, mm_set_ok trivial hoL, hok, P.2.2.2.2.2.2.1.set hoL hl', P.2.2.2.2.2.2.2⟩)
  · cases hr
set_option maxHeartbeats 4000000 in
theorem mm_step_iadd {p : Program} {l : Launch} {e : Env} {R : Room} {s : State} {m : MethodId} {args : Array Value} {below : List Frame} {meth : Method} {c : Code} {Q : State → Prop} {cc : ByteArray} {nL : Nat} {ini : Bool} {rt : Option FieldType} {own host TC : String} {Ts Us Xs : List Cond} {D : va_G} {cl : List vw_C} {ft : Nat → Nat → FieldType} {cA : Nat → ClassId} {A : Nat → Prop} {n0 z0 : Nat} {ad0 : Nat → Nat} {mt : Nat → Option mm_Mi} {E : mm_Ev} {K : mm_Cf → Option mm_Rs} {vv : Option Value} {h' : mm_Hp}
    (X : mm_Cx p s m args meth c cc nL ini rt own TC Ts Us Xs D cl ft cA A)
    (hK : ∀ pc L st h, K (pc, L, st, h) = some (vv, h') → mm_wf h → (∀ v ∈ L, mm_okv (mm_n h) v) → (∀ v ∈ st, mm_okv (mm_n h) v) → mm_Fin vv h h' ∧ ∀ H locs ad ls, mm_Pre s D cl ft cA A nL n0 z0 ad0 L st h H locs ad ls → W p l e R s m args below meth c H locs (mm_n h - n0) (mm_z h - z0) Q (F0 m pc ls (st.map (mm_cv ad))))
    {pc : Nat} {L st : List Value} {h : mm_Hp} {a b c' : Nat} {v : Int32} {q : List (Int32 × Nat)} (hck : mm_ck own host TC cc nL ini rt Us Xs cl ft mt pc .iadd a b c' v q = true) (hr : mm_ex E K pc L st h .iadd a b c' v q = some (vv, h')) (hwf : mm_wf h) (hoL : ∀ v ∈ L, mm_okv (mm_n h) v) (hok : ∀ v ∈ st, mm_okv (mm_n h) v) :
    mm_Fin vv h h' ∧ ∀ H locs ad ls, mm_Pre s D cl ft cA A nL n0 z0 ad0 L st h H locs ad ls → W p l e R s m args below meth c H locs (mm_n h - n0) (mm_z h - z0) Q (F0 m pc ls (st.map (mm_cv ad))) := by
  obtain ⟨hx, hb, hml, hown, hts, hKk, hA, hCl, hUs, hini, hrt, hlk, hXs⟩ := X
  simp only [mm_ck, Bool.and_eq_true, decide_eq_true_eq] at hck
  simp only [mm_ex] at hr
  split at hr
  · rename_i y x r
    obtain ⟨F, w⟩ := hK _ _ _ _ hr hwf hoL (mm_o1 trivial (mm_tl (mm_tl hok)))
    exact ⟨F, fun H locs ad ls P => lv_iadd hx hb hck (w _ _ _ _ (P.stk (mm_o1 trivial (mm_tl (mm_tl hok)))))⟩
  · cases hr
set_option maxHeartbeats 4000000 in
theorem mm_step_isub {p : Program} {l : Launch} {e : Env} {R : Room} {s : State} {m : MethodId} {args : Array Value} {below : List Frame} {meth : Method} {c : Code} {Q : State → Prop} {cc : ByteArray} {nL : Nat} {ini : Bool} {rt : Option FieldType} {own host TC : String} {Ts Us Xs : List Cond} {D : va_G} {cl : List vw_C} {ft : Nat → Nat → FieldType} {cA : Nat → ClassId} {A : Nat → Prop} {n0 z0 : Nat} {ad0 : Nat → Nat} {mt : Nat → Option mm_Mi} {E : mm_Ev} {K : mm_Cf → Option mm_Rs} {vv : Option Value} {h' : mm_Hp}
    (X : mm_Cx p s m args meth c cc nL ini rt own TC Ts Us Xs D cl ft cA A)
    (hK : ∀ pc L st h, K (pc, L, st, h) = some (vv, h') → mm_wf h → (∀ v ∈ L, mm_okv (mm_n h) v) → (∀ v ∈ st, mm_okv (mm_n h) v) → mm_Fin vv h h' ∧ ∀ H locs ad ls, mm_Pre s D cl ft cA A nL n0 z0 ad0 L st h H locs ad ls → W p l e R s m args below meth c H locs (mm_n h - n0) (mm_z h - z0) Q (F0 m pc ls (st.map (mm_cv ad))))
    {pc : Nat} {L st : List Value} {h : mm_Hp} {a b c' : Nat} {v : Int32} {q : List (Int32 × Nat)} (hck : mm_ck own host TC cc nL ini rt Us Xs cl ft mt pc .isub a b c' v q = true) (hr : mm_ex E K pc L st h .isub a b c' v q = some (vv, h')) (hwf : mm_wf h) (hoL : ∀ v ∈ L, mm_okv (mm_n h) v) (hok : ∀ v ∈ st, mm_okv (mm_n h) v) :
    mm_Fin vv h h' ∧ ∀ H locs ad ls, mm_Pre s D cl ft cA A nL n0 z0 ad0 L st h H locs ad ls → W p l e R s m args below meth c H locs (mm_n h - n0) (mm_z h - z0) Q (F0 m pc ls (st.map (mm_cv ad))) := by
  obtain ⟨hx, hb, hml, hown, hts, hKk, hA, hCl, hUs, hini, hrt, hlk, hXs⟩ := X
  simp only [mm_ck, Bool.and_eq_true, decide_eq_true_eq] at hck
  simp only [mm_ex] at hr
  split at hr
  · rename_i y x r
    obtain ⟨F, w⟩ := hK _ _ _ _ hr hwf hoL (mm_o1 trivial (mm_tl (mm_tl hok)))
    exact ⟨F, fun H locs ad ls P => lv_isub hx hb hck (w _ _ _ _ (P.stk (mm_o1 trivial (mm_tl (mm_tl hok)))))⟩
  · cases hr
set_option maxHeartbeats 4000000 in
theorem mm_step_imul {p : Program} {l : Launch} {e : Env} {R : Room} {s : State} {m : MethodId} {args : Array Value} {below : List Frame} {meth : Method} {c : Code} {Q : State → Prop} {cc : ByteArray} {nL : Nat} {ini : Bool} {rt : Option FieldType} {own host TC : String} {Ts Us Xs : List Cond} {D : va_G} {cl : List vw_C} {ft : Nat → Nat → FieldType} {cA : Nat → ClassId} {A : Nat → Prop} {n0 z0 : Nat} {ad0 : Nat → Nat} {mt : Nat → Option mm_Mi} {E : mm_Ev} {K : mm_Cf → Option mm_Rs} {vv : Option Value} {h' : mm_Hp}
    (X : mm_Cx p s m args meth c cc nL ini rt own TC Ts Us Xs D cl ft cA A)
    (hK : ∀ pc L st h, K (pc, L, st, h) = some (vv, h') → mm_wf h → (∀ v ∈ L, mm_okv (mm_n h) v) → (∀ v ∈ st, mm_okv (mm_n h) v) → mm_Fin vv h h' ∧ ∀ H locs ad ls, mm_Pre s D cl ft cA A nL n0 z0 ad0 L st h H locs ad ls → W p l e R s m args below meth c H locs (mm_n h - n0) (mm_z h - z0) Q (F0 m pc ls (st.map (mm_cv ad))))
    {pc : Nat} {L st : List Value} {h : mm_Hp} {a b c' : Nat} {v : Int32} {q : List (Int32 × Nat)} (hck : mm_ck own host TC cc nL ini rt Us Xs cl ft mt pc .imul a b c' v q = true) (hr : mm_ex E K pc L st h .imul a b c' v q = some (vv, h')) (hwf : mm_wf h) (hoL : ∀ v ∈ L, mm_okv (mm_n h) v) (hok : ∀ v ∈ st, mm_okv (mm_n h) v) :
    mm_Fin vv h h' ∧ ∀ H locs ad ls, mm_Pre s D cl ft cA A nL n0 z0 ad0 L st h H locs ad ls → W p l e R s m args below meth c H locs (mm_n h - n0) (mm_z h - z0) Q (F0 m pc ls (st.map (mm_cv ad))) := by
  obtain ⟨hx, hb, hml, hown, hts, hKk, hA, hCl, hUs, hini, hrt, hlk, hXs⟩ := X
  simp only [mm_ck, Bool.and_eq_true, decide_eq_true_eq] at hck
  simp only [mm_ex] at hr
  split at hr
  · rename_i y x r
    obtain ⟨F, w⟩ := hK _ _ _ _ hr hwf hoL (mm_o1 trivial (mm_tl (mm_tl hok)))
    exact ⟨F, fun H locs ad ls P => lv_imul hx hb hck (w _ _ _ _ (P.stk (mm_o1 trivial (mm_tl (mm_tl hok)))))⟩
  · cases hr
set_option maxHeartbeats 4000000 in
theorem mm_step_iand {p : Program} {l : Launch} {e : Env} {R : Room} {s : State} {m : MethodId} {args : Array Value} {below : List Frame} {meth : Method} {c : Code} {Q : State → Prop} {cc : ByteArray} {nL : Nat} {ini : Bool} {rt : Option FieldType} {own host TC : String} {Ts Us Xs : List Cond} {D : va_G} {cl : List vw_C} {ft : Nat → Nat → FieldType} {cA : Nat → ClassId} {A : Nat → Prop} {n0 z0 : Nat} {ad0 : Nat → Nat} {mt : Nat → Option mm_Mi} {E : mm_Ev} {K : mm_Cf → Option mm_Rs} {vv : Option Value} {h' : mm_Hp}
    (X : mm_Cx p s m args meth c cc nL ini rt own TC Ts Us Xs D cl ft cA A)
    (hK : ∀ pc L st h, K (pc, L, st, h) = some (vv, h') → mm_wf h → (∀ v ∈ L, mm_okv (mm_n h) v) → (∀ v ∈ st, mm_okv (mm_n h) v) → mm_Fin vv h h' ∧ ∀ H locs ad ls, mm_Pre s D cl ft cA A nL n0 z0 ad0 L st h H locs ad ls → W p l e R s m args below meth c H locs (mm_n h - n0) (mm_z h - z0) Q (F0 m pc ls (st.map (mm_cv ad))))
    {pc : Nat} {L st : List Value} {h : mm_Hp} {a b c' : Nat} {v : Int32} {q : List (Int32 × Nat)} (hck : mm_ck own host TC cc nL ini rt Us Xs cl ft mt pc .iand a b c' v q = true) (hr : mm_ex E K pc L st h .iand a b c' v q = some (vv, h')) (hwf : mm_wf h) (hoL : ∀ v ∈ L, mm_okv (mm_n h) v) (hok : ∀ v ∈ st, mm_okv (mm_n h) v) :
    mm_Fin vv h h' ∧ ∀ H locs ad ls, mm_Pre s D cl ft cA A nL n0 z0 ad0 L st h H locs ad ls → W p l e R s m args below meth c H locs (mm_n h - n0) (mm_z h - z0) Q (F0 m pc ls (st.map (mm_cv ad))) := by
  obtain ⟨hx, hb, hml, hown, hts, hKk, hA, hCl, hUs, hini, hrt, hlk, hXs⟩ := X
  simp only [mm_ck, Bool.and_eq_true, decide_eq_true_eq] at hck
  simp only [mm_ex] at hr
  split at hr
  · rename_i y x r
    obtain ⟨F, w⟩ := hK _ _ _ _ hr hwf hoL (mm_o1 trivial (mm_tl (mm_tl hok)))
    exact ⟨F, fun H locs ad ls P => lv_iand hx hb hck (w _ _ _ _ (P.stk (mm_o1 trivial (mm_tl (mm_tl hok)))))⟩
  · cases hr
set_option maxHeartbeats 4000000 in
theorem mm_step_ior {p : Program} {l : Launch} {e : Env} {R : Room} {s : State} {m : MethodId} {args : Array Value} {below : List Frame} {meth : Method} {c : Code} {Q : State → Prop} {cc : ByteArray} {nL : Nat} {ini : Bool} {rt : Option FieldType} {own host TC : String} {Ts Us Xs : List Cond} {D : va_G} {cl : List vw_C} {ft : Nat → Nat → FieldType} {cA : Nat → ClassId} {A : Nat → Prop} {n0 z0 : Nat} {ad0 : Nat → Nat} {mt : Nat → Option mm_Mi} {E : mm_Ev} {K : mm_Cf → Option mm_Rs} {vv : Option Value} {h' : mm_Hp}
    (X : mm_Cx p s m args meth c cc nL ini rt own TC Ts Us Xs D cl ft cA A)
    (hK : ∀ pc L st h, K (pc, L, st, h) = some (vv, h') → mm_wf h → (∀ v ∈ L, mm_okv (mm_n h) v) → (∀ v ∈ st, mm_okv (mm_n h) v) → mm_Fin vv h h' ∧ ∀ H locs ad ls, mm_Pre s D cl ft cA A nL n0 z0 ad0 L st h H locs ad ls → W p l e R s m args below meth c H locs (mm_n h - n0) (mm_z h - z0) Q (F0 m pc ls (st.map (mm_cv ad))))
    {pc : Nat} {L st : List Value} {h : mm_Hp} {a b c' : Nat} {v : Int32} {q : List (Int32 × Nat)} (hck : mm_ck own host TC cc nL ini rt Us Xs cl ft mt pc .ior a b c' v q = true) (hr : mm_ex E K pc L st h .ior a b c' v q = some (vv, h')) (hwf : mm_wf h) (hoL : ∀ v ∈ L, mm_okv (mm_n h) v) (hok : ∀ v ∈ st, mm_okv (mm_n h) v) :
    mm_Fin vv h h' ∧ ∀ H locs ad ls, mm_Pre s D cl ft cA A nL n0 z0 ad0 L st h H locs ad ls → W p l e R s m args below meth c H locs (mm_n h - n0) (mm_z h - z0) Q (F0 m pc ls (st.map (mm_cv ad))) := by
  obtain ⟨hx, hb, hml, hown, hts, hKk, hA, hCl, hUs, hini, hrt, hlk, hXs⟩ := X
  simp only [mm_ck, Bool.and_eq_true, decide_eq_true_eq] at hck
  simp only [mm_ex] at hr
  split at hr
  · rename_i y x r
    obtain ⟨F, w⟩ := hK _ _ _ _ hr hwf hoL (mm_o1 trivial (mm_tl (mm_tl hok)))
    exact ⟨F, fun H locs ad ls P => lv_ior hx hb hck (w _ _ _ _ (P.stk (mm_o1 trivial (mm_tl (mm_tl hok)))))⟩
  · cases hr
set_option maxHeartbeats 4000000 in
theorem mm_step_ishl {p : Program} {l : Launch} {e : Env} {R : Room} {s : State} {m : MethodId} {args : Array Value} {below : List Frame} {meth : Method} {c : Code} {Q : State → Prop} {cc : ByteArray} {nL : Nat} {ini : Bool} {rt : Option FieldType} {own host TC : String} {Ts Us Xs : List Cond} {D : va_G} {cl : List vw_C} {ft : Nat → Nat → FieldType} {cA : Nat → ClassId} {A : Nat → Prop} {n0 z0 : Nat} {ad0 : Nat → Nat} {mt : Nat → Option mm_Mi} {E : mm_Ev} {K : mm_Cf → Option mm_Rs} {vv : Option Value} {h' : mm_Hp}
    (X : mm_Cx p s m args meth c cc nL ini rt own TC Ts Us Xs D cl ft cA A)
    (hK : ∀ pc L st h, K (pc, L, st, h) = some (vv, h') → mm_wf h → (∀ v ∈ L, mm_okv (mm_n h) v) → (∀ v ∈ st, mm_okv (mm_n h) v) → mm_Fin vv h h' ∧ ∀ H locs ad ls, mm_Pre s D cl ft cA A nL n0 z0 ad0 L st h H locs ad ls → W p l e R s m args below meth c H locs (mm_n h - n0) (mm_z h - z0) Q (F0 m pc ls (st.map (mm_cv ad))))
    {pc : Nat} {L st : List Value} {h : mm_Hp} {a b c' : Nat} {v : Int32} {q : List (Int32 × Nat)} (hck : mm_ck own host TC cc nL ini rt Us Xs cl ft mt pc .ishl a b c' v q = true) (hr : mm_ex E K pc L st h .ishl a b c' v q = some (vv, h')) (hwf : mm_wf h) (hoL : ∀ v ∈ L, mm_okv (mm_n h) v) (hok : ∀ v ∈ st, mm_okv (mm_n h) v) :
    mm_Fin vv h h' ∧ ∀ H locs ad ls, mm_Pre s D cl ft cA A nL n0 z0 ad0 L st h H locs ad ls → W p l e R s m args below meth c H locs (mm_n h - n0) (mm_z h - z0) Q (F0 m pc ls (st.map (mm_cv ad))) := by
  obtain ⟨hx, hb, hml, hown, hts, hKk, hA, hCl, hUs, hini, hrt, hlk, hXs⟩ := X
  simp only [mm_ck, Bool.and_eq_true, decide_eq_true_eq] at hck
  simp only [mm_ex] at hr
  split at hr
  · rename_i y x r
    obtain ⟨F, w⟩ := hK _ _ _ _ hr hwf hoL (mm_o1 trivial (mm_tl (mm_tl hok)))
    exact ⟨F, fun H locs ad ls P => lv_ishl hx hb hck (w _ _ _ _ (P.stk (mm_o1 trivial (mm_tl (mm_tl hok)))))⟩
  · cases hr
set_option maxHeartbeats 4000000 in
theorem mm_step_ishr {p : Program} {l : Launch} {e : Env} {R : Room} {s : State} {m : MethodId} {args : Array Value} {below : List Frame} {meth : Method} {c : Code} {Q : State → Prop} {cc : ByteArray} {nL : Nat} {ini : Bool} {rt : Option FieldType} {own host TC : String} {Ts Us Xs : List Cond} {D : va_G} {cl : List vw_C} {ft : Nat → Nat → FieldType} {cA : Nat → ClassId} {A : Nat → Prop} {n0 z0 : Nat} {ad0 : Nat → Nat} {mt : Nat → Option mm_Mi} {E : mm_Ev} {K : mm_Cf → Option mm_Rs} {vv : Option Value} {h' : mm_Hp}
    (X : mm_Cx p s m args meth c cc nL ini rt own TC Ts Us Xs D cl ft cA A)
    (hK : ∀ pc L st h, K (pc, L, st, h) = some (vv, h') → mm_wf h → (∀ v ∈ L, mm_okv (mm_n h) v) → (∀ v ∈ st, mm_okv (mm_n h) v) → mm_Fin vv h h' ∧ ∀ H locs ad ls, mm_Pre s D cl ft cA A nL n0 z0 ad0 L st h H locs ad ls → W p l e R s m args below meth c H locs (mm_n h - n0) (mm_z h - z0) Q (F0 m pc ls (st.map (mm_cv ad))))
    {pc : Nat} {L st : List Value} {h : mm_Hp} {a b c' : Nat} {v : Int32} {q : List (Int32 × Nat)} (hck : mm_ck own host TC cc nL ini rt Us Xs cl ft mt pc .ishr a b c' v q = true) (hr : mm_ex E K pc L st h .ishr a b c' v q = some (vv, h')) (hwf : mm_wf h) (hoL : ∀ v ∈ L, mm_okv (mm_n h) v) (hok : ∀ v ∈ st, mm_okv (mm_n h) v) :
    mm_Fin vv h h' ∧ ∀ H locs ad ls, mm_Pre s D cl ft cA A nL n0 z0 ad0 L st h H locs ad ls → W p l e R s m args below meth c H locs (mm_n h - n0) (mm_z h - z0) Q (F0 m pc ls (st.map (mm_cv ad))) := by
  obtain ⟨hx, hb, hml, hown, hts, hKk, hA, hCl, hUs, hini, hrt, hlk, hXs⟩ := X
  simp only [mm_ck, Bool.and_eq_true, decide_eq_true_eq] at hck
  simp only [mm_ex] at hr
  split at hr
  · rename_i y x r
    obtain ⟨F, w⟩ := hK _ _ _ _ hr hwf hoL (mm_o1 trivial (mm_tl (mm_tl hok)))
    exact ⟨F, fun H locs ad ls P => lv_ishr hx hb hck (w _ _ _ _ (P.stk (mm_o1 trivial (mm_tl (mm_tl hok)))))⟩
  · cases hr
set_option maxHeartbeats 4000000 in
theorem mm_step_iushr {p : Program} {l : Launch} {e : Env} {R : Room} {s : State} {m : MethodId} {args : Array Value} {below : List Frame} {meth : Method} {c : Code} {Q : State → Prop} {cc : ByteArray} {nL : Nat} {ini : Bool} {rt : Option FieldType} {own host TC : String} {Ts Us Xs : List Cond} {D : va_G} {cl : List vw_C} {ft : Nat → Nat → FieldType} {cA : Nat → ClassId} {A : Nat → Prop} {n0 z0 : Nat} {ad0 : Nat → Nat} {mt : Nat → Option mm_Mi} {E : mm_Ev} {K : mm_Cf → Option mm_Rs} {vv : Option Value} {h' : mm_Hp}
    (X : mm_Cx p s m args meth c cc nL ini rt own TC Ts Us Xs D cl ft cA A)
    (hK : ∀ pc L st h, K (pc, L, st, h) = some (vv, h') → mm_wf h → (∀ v ∈ L, mm_okv (mm_n h) v) → (∀ v ∈ st, mm_okv (mm_n h) v) → mm_Fin vv h h' ∧ ∀ H locs ad ls, mm_Pre s D cl ft cA A nL n0 z0 ad0 L st h H locs ad ls → W p l e R s m args below meth c H locs (mm_n h - n0) (mm_z h - z0) Q (F0 m pc ls (st.map (mm_cv ad))))
    {pc : Nat} {L st : List Value} {h : mm_Hp} {a b c' : Nat} {v : Int32} {q : List (Int32 × Nat)} (hck : mm_ck own host TC cc nL ini rt Us Xs cl ft mt pc .iushr a b c' v q = true) (hr : mm_ex E K pc L st h .iushr a b c' v q = some (vv, h')) (hwf : mm_wf h) (hoL : ∀ v ∈ L, mm_okv (mm_n h) v) (hok : ∀ v ∈ st, mm_okv (mm_n h) v) :
    mm_Fin vv h h' ∧ ∀ H locs ad ls, mm_Pre s D cl ft cA A nL n0 z0 ad0 L st h H locs ad ls → W p l e R s m args below meth c H locs (mm_n h - n0) (mm_z h - z0) Q (F0 m pc ls (st.map (mm_cv ad))) := by
  obtain ⟨hx, hb, hml, hown, hts, hKk, hA, hCl, hUs, hini, hrt, hlk, hXs⟩ := X
  simp only [mm_ck, Bool.and_eq_true, decide_eq_true_eq] at hck
  simp only [mm_ex] at hr
  split at hr
  · rename_i y x r
    obtain ⟨F, w⟩ := hK _ _ _ _ hr hwf hoL (mm_o1 trivial (mm_tl (mm_tl hok)))
    exact ⟨F, fun H locs ad ls P => lv_iushr hx hb hck rfl (w _ _ _ _ (P.stk (mm_o1 trivial (mm_tl (mm_tl hok)))))⟩
  · cases hr
set_option maxHeartbeats 4000000 in
theorem mm_step_idiv {p : Program} {l : Launch} {e : Env} {R : Room} {s : State} {m : MethodId} {args : Array Value} {below : List Frame} {meth : Method} {c : Code} {Q : State → Prop} {cc : ByteArray} {nL : Nat} {ini : Bool} {rt : Option FieldType} {own host TC : String} {Ts Us Xs : List Cond} {D : va_G} {cl : List vw_C} {ft : Nat → Nat → FieldType} {cA : Nat → ClassId} {A : Nat → Prop} {n0 z0 : Nat} {ad0 : Nat → Nat} {mt : Nat → Option mm_Mi} {E : mm_Ev} {K : mm_Cf → Option mm_Rs} {vv : Option Value} {h' : mm_Hp}
    (X : mm_Cx p s m args meth c cc nL ini rt own TC Ts Us Xs D cl ft cA A)
    (hK : ∀ pc L st h, K (pc, L, st, h) = some (vv, h') → mm_wf h → (∀ v ∈ L, mm_okv (mm_n h) v) → (∀ v ∈ st, mm_okv (mm_n h) v) → mm_Fin vv h h' ∧ ∀ H locs ad ls, mm_Pre s D cl ft cA A nL n0 z0 ad0 L st h H locs ad ls → W p l e R s m args below meth c H locs (mm_n h - n0) (mm_z h - z0) Q (F0 m pc ls (st.map (mm_cv ad))))
    {pc : Nat} {L st : List Value} {h : mm_Hp} {a b c' : Nat} {v : Int32} {q : List (Int32 × Nat)} (hck : mm_ck own host TC cc nL ini rt Us Xs cl ft mt pc .idiv a b c' v q = true) (hr : mm_ex E K pc L st h .idiv a b c' v q = some (vv, h')) (hwf : mm_wf h) (hoL : ∀ v ∈ L, mm_okv (mm_n h) v) (hok : ∀ v ∈ st, mm_okv (mm_n h) v) :
    mm_Fin vv h h' ∧ ∀ H locs ad ls, mm_Pre s D cl ft cA A nL n0 z0 ad0 L st h H locs ad ls → W p l e R s m args below meth c H locs (mm_n h - n0) (mm_z h - z0) Q (F0 m pc ls (st.map (mm_cv ad))) := by
  obtain ⟨hx, hb, hml, hown, hts, hKk, hA, hCl, hUs, hini, hrt, hlk, hXs⟩ := X
  simp only [mm_ck, Bool.and_eq_true, decide_eq_true_eq] at hck
  simp only [mm_ex] at hr
  split at hr
  · rename_i y x r
    unfold mm_dv at hr
    split at hr
    · cases hr
    · rename_i hy
      obtain ⟨F, w⟩ := hK _ _ _ _ hr hwf hoL (mm_o1 trivial (mm_tl (mm_tl hok)))
      exact ⟨F, fun H locs ad ls P => lv_idiv hx hb hck hy (w _ _ _ _ (P.stk (mm_o1 trivial (mm_tl (mm_tl hok)))))⟩
  · cases hr
set_option maxHeartbeats 4000000 in
theorem mm_step_irem {p : Program} {l : Launch} {e : Env} {R : Room} {s : State} {m : MethodId} {args : Array Value} {below : List Frame} {meth : Method} {c : Code} {Q : State → Prop} {cc : ByteArray} {nL : Nat} {ini : Bool} {rt : Option FieldType} {own host TC : String} {Ts Us Xs : List Cond} {D : va_G} {cl : List vw_C} {ft : Nat → Nat → FieldType} {cA : Nat → ClassId} {A : Nat → Prop} {n0 z0 : Nat} {ad0 : Nat → Nat} {mt : Nat → Option mm_Mi} {E : mm_Ev} {K : mm_Cf → Option mm_Rs} {vv : Option Value} {h' : mm_Hp}
    (X : mm_Cx p s m args meth c cc nL ini rt own TC Ts Us Xs D cl ft cA A)
    (hK : ∀ pc L st h, K (pc, L, st, h) = some (vv, h') → mm_wf h → (∀ v ∈ L, mm_okv (mm_n h) v) → (∀ v ∈ st, mm_okv (mm_n h) v) → mm_Fin vv h h' ∧ ∀ H locs ad ls, mm_Pre s D cl ft cA A nL n0 z0 ad0 L st h H locs ad ls → W p l e R s m args below meth c H locs (mm_n h - n0) (mm_z h - z0) Q (F0 m pc ls (st.map (mm_cv ad))))
    {pc : Nat} {L st : List Value} {h : mm_Hp} {a b c' : Nat} {v : Int32} {q : List (Int32 × Nat)} (hck : mm_ck own host TC cc nL ini rt Us Xs cl ft mt pc .irem a b c' v q = true) (hr : mm_ex E K pc L st h .irem a b c' v q = some (vv, h')) (hwf : mm_wf h) (hoL : ∀ v ∈ L, mm_okv (mm_n h) v) (hok : ∀ v ∈ st, mm_okv (mm_n h) v) :
    mm_Fin vv h h' ∧ ∀ H locs ad ls, mm_Pre s D cl ft cA A nL n0 z0 ad0 L st h H locs ad ls → W p l e R s m args below meth c H locs (mm_n h - n0) (mm_z h - z0) Q (F0 m pc ls (st.map (mm_cv ad))) := by
  obtain ⟨hx, hb, hml, hown, hts, hKk, hA, hCl, hUs, hini, hrt, hlk, hXs⟩ := X
  simp only [mm_ck, Bool.and_eq_true, decide_eq_true_eq] at hck
  simp only [mm_ex] at hr
  split at hr
  · rename_i y x r
    unfold mm_rm at hr
    split at hr
    · cases hr
    · rename_i hy
      obtain ⟨F, w⟩ := hK _ _ _ _ hr hwf hoL (mm_o1 trivial (mm_tl (mm_tl hok)))
      exact ⟨F, fun H locs ad ls P => lv_irem hx hb hck hy (w _ _ _ _ (P.stk (mm_o1 trivial (mm_tl (mm_tl hok)))))⟩
  · cases hr
set_option maxHeartbeats 4000000 in
theorem mm_step_ineg {p : Program} {l : Launch} {e : Env} {R : Room} {s : State} {m : MethodId} {args : Array Value} {below : List Frame} {meth : Method} {c : Code} {Q : State → Prop} {cc : ByteArray} {nL : Nat} {ini : Bool} {rt : Option FieldType} {own host TC : String} {Ts Us Xs : List Cond} {D : va_G} {cl : List vw_C} {ft : Nat → Nat → FieldType} {cA : Nat → ClassId} {A : Nat → Prop} {n0 z0 : Nat} {ad0 : Nat → Nat} {mt : Nat → Option mm_Mi} {E : mm_Ev} {K : mm_Cf → Option mm_Rs} {vv : Option Value} {h' : mm_Hp}
    (X : mm_Cx p s m args meth c cc nL ini rt own TC Ts Us Xs D cl ft cA A)
    (hK : ∀ pc L st h, K (pc, L, st, h) = some (vv, h') → mm_wf h → (∀ v ∈ L, mm_okv (mm_n h) v) → (∀ v ∈ st, mm_okv (mm_n h) v) → mm_Fin vv h h' ∧ ∀ H locs ad ls, mm_Pre s D cl ft cA A nL n0 z0 ad0 L st h H locs ad ls → W p l e R s m args below meth c H locs (mm_n h - n0) (mm_z h - z0) Q (F0 m pc ls (st.map (mm_cv ad))))
    {pc : Nat} {L st : List Value} {h : mm_Hp} {a b c' : Nat} {v : Int32} {q : List (Int32 × Nat)} (hck : mm_ck own host TC cc nL ini rt Us Xs cl ft mt pc .ineg a b c' v q = true) (hr : mm_ex E K pc L st h .ineg a b c' v q = some (vv, h')) (hwf : mm_wf h) (hoL : ∀ v ∈ L, mm_okv (mm_n h) v) (hok : ∀ v ∈ st, mm_okv (mm_n h) v) :
    mm_Fin vv h h' ∧ ∀ H locs ad ls, mm_Pre s D cl ft cA A nL n0 z0 ad0 L st h H locs ad ls → W p l e R s m args below meth c H locs (mm_n h - n0) (mm_z h - z0) Q (F0 m pc ls (st.map (mm_cv ad))) := by
  obtain ⟨hx, hb, hml, hown, hts, hKk, hA, hCl, hUs, hini, hrt, hlk, hXs⟩ := X
  simp only [mm_ck, Bool.and_eq_true, decide_eq_true_eq] at hck
  simp only [mm_ex] at hr
  split at hr
  · rename_i x r
    obtain ⟨F, w⟩ := hK _ _ _ _ hr hwf hoL (mm_o1 trivial (mm_tl hok))
    exact ⟨F, fun H locs ad ls P => lv_ineg hx hb hck (w _ _ _ _ (P.stk (mm_o1 trivial (mm_tl hok))))⟩
  · cases hr
set_option maxHeartbeats 4000000 in
theorem mm_step_i2b {p : Program} {l : Launch} {e : Env} {R : Room} {s : State} {m : MethodId} {args : Array Value} {below : List Frame} {meth : Method} {c : Code} {Q : State → Prop} {cc : ByteArray} {nL : Nat} {ini : Bool} {rt : Option FieldType} {own host TC : String} {Ts Us Xs : List Cond} {D : va_G} {cl : List vw_C} {ft : Nat → Nat → FieldType} {cA : Nat → ClassId} {A : Nat → Prop} {n0 z0 : Nat} {ad0 : Nat → Nat} {mt : Nat → Option mm_Mi} {E : mm_Ev} {K : mm_Cf → Option mm_Rs} {vv : Option Value} {h' : mm_Hp}
    (X : mm_Cx p s m args meth c cc nL ini rt own TC Ts Us Xs D cl ft cA A)
    (hK : ∀ pc L st h, K (pc, L, st, h) = some (vv, h') → mm_wf h → (∀ v ∈ L, mm_okv (mm_n h) v) → (∀ v ∈ st, mm_okv (mm_n h) v) → mm_Fin vv h h' ∧ ∀ H locs ad ls, mm_Pre s D cl ft cA A nL n0 z0 ad0 L st h H locs ad ls → W p l e R s m args below meth c H locs (mm_n h - n0) (mm_z h - z0) Q (F0 m pc ls (st.map (mm_cv ad))))
    {pc : Nat} {L st : List Value} {h : mm_Hp} {a b c' : Nat} {v : Int32} {q : List (Int32 × Nat)} (hck : mm_ck own host TC cc nL ini rt Us Xs cl ft mt pc .i2b a b c' v q = true) (hr : mm_ex E K pc L st h .i2b a b c' v q = some (vv, h')) (hwf : mm_wf h) (hoL : ∀ v ∈ L, mm_okv (mm_n h) v) (hok : ∀ v ∈ st, mm_okv (mm_n h) v) :
    mm_Fin vv h h' ∧ ∀ H locs ad ls, mm_Pre s D cl ft cA A nL n0 z0 ad0 L st h H locs ad ls → W p l e R s m args below meth c H locs (mm_n h - n0) (mm_z h - z0) Q (F0 m pc ls (st.map (mm_cv ad))) := by
  obtain ⟨hx, hb, hml, hown, hts, hKk, hA, hCl, hUs, hini, hrt, hlk, hXs⟩ := X
  simp only [mm_ck, Bool.and_eq_true, decide_eq_true_eq] at hck
  simp only [mm_ex] at hr
  split at hr
  · rename_i x r
    obtain ⟨F, w⟩ := hK _ _ _ _ hr hwf hoL (mm_o1 trivial (mm_tl hok))
    exact ⟨F, fun H locs ad ls P => lv_i2b hx hb hck rfl (w _ _ _ _ (P.stk (mm_o1 trivial (mm_tl hok))))⟩
  · cases hr
set_option maxHeartbeats 4000000 in
theorem mm_step_dup {p : Program} {l : Launch} {e : Env} {R : Room} {s : State} {m : MethodId} {args : Array Value} {below : List Frame} {meth : Method} {c : Code} {Q : State → Prop} {cc : ByteArray} {nL : Nat} {ini : Bool} {rt : Option FieldType} {own host TC : String} {Ts Us Xs : List Cond} {D : va_G} {cl : List vw_C} {ft : Nat → Nat → FieldType} {cA : Nat → ClassId} {A : Nat → Prop} {n0 z0 : Nat} {ad0 : Nat → Nat} {mt : Nat → Option mm_Mi} {E : mm_Ev} {K : mm_Cf → Option mm_Rs} {vv : Option Value} {h' : mm_Hp}
    (X : mm_Cx p s m args meth c cc nL ini rt own TC Ts Us Xs D cl ft cA A)
    (hK : ∀ pc L st h, K (pc, L, st, h) = some (vv, h') → mm_wf h → (∀ v ∈ L, mm_okv (mm_n h) v) → (∀ v ∈ st, mm_okv (mm_n h) v) → mm_Fin vv h h' ∧ ∀ H locs ad ls, mm_Pre s D cl ft cA A nL n0 z0 ad0 L st h H locs ad ls → W p l e R s m args below meth c H locs (mm_n h - n0) (mm_z h - z0) Q (F0 m pc ls (st.map (mm_cv ad))))
    {pc : Nat} {L st : List Value} {h : mm_Hp} {a b c' : Nat} {v : Int32} {q : List (Int32 × Nat)} (hck : mm_ck own host TC cc nL ini rt Us Xs cl ft mt pc .dup a b c' v q = true) (hr : mm_ex E K pc L st h .dup a b c' v q = some (vv, h')) (hwf : mm_wf h) (hoL : ∀ v ∈ L, mm_okv (mm_n h) v) (hok : ∀ v ∈ st, mm_okv (mm_n h) v) :
    mm_Fin vv h h' ∧ ∀ H locs ad ls, mm_Pre s D cl ft cA A nL n0 z0 ad0 L st h H locs ad ls → W p l e R s m args below meth c H locs (mm_n h - n0) (mm_z h - z0) Q (F0 m pc ls (st.map (mm_cv ad))) := by
  obtain ⟨hx, hb, hml, hown, hts, hKk, hA, hCl, hUs, hini, hrt, hlk, hXs⟩ := X
  simp only [mm_ck, Bool.and_eq_true, decide_eq_true_eq] at hck
  simp only [mm_ex] at hr
  split at hr
  · rename_i x r
    obtain ⟨F, w⟩ := hK _ _ _ _ hr hwf hoL (mm_o1 (mm_hd hok) hok)
    exact ⟨F, fun H locs ad ls P => lv_dup hx hb hck (mm_cv_cat ad (mm_hd hok)) (w _ _ _ _ (P.stk (mm_o1 (mm_hd hok) hok)))⟩
  · cases hr
set_option maxHeartbeats 4000000 in
theorem mm_step_dup2 {p : Program} {l : Launch} {e : Env} {R : Room} {s : State} {m : MethodId} {args : Array Value} {below : List Frame} {meth : Method} {c : Code} {Q : State → Prop} {cc : ByteArray} {nL : Nat} {ini : Bool} {rt : Option FieldType} {own host TC : String} {Ts Us Xs : List Cond} {D : va_G} {cl : List vw_C} {ft : Nat → Nat → FieldType} {cA : Nat → ClassId} {A : Nat → Prop} {n0 z0 : Nat} {ad0 : Nat → Nat} {mt : Nat → Option mm_Mi} {E : mm_Ev} {K : mm_Cf → Option mm_Rs} {vv : Option Value} {h' : mm_Hp}
    (X : mm_Cx p s m args meth c cc nL ini rt own TC Ts Us Xs D cl ft cA A)
    (hK : ∀ pc L st h, K (pc, L, st, h) = some (vv, h') → mm_wf h → (∀ v ∈ L, mm_okv (mm_n h) v) → (∀ v ∈ st, mm_okv (mm_n h) v) → mm_Fin vv h h' ∧ ∀ H locs ad ls, mm_Pre s D cl ft cA A nL n0 z0 ad0 L st h H locs ad ls → W p l e R s m args below meth c H locs (mm_n h - n0) (mm_z h - z0) Q (F0 m pc ls (st.map (mm_cv ad))))
    {pc : Nat} {L st : List Value} {h : mm_Hp} {a b c' : Nat} {v : Int32} {q : List (Int32 × Nat)} (hck : mm_ck own host TC cc nL ini rt Us Xs cl ft mt pc .dup2 a b c' v q = true) (hr : mm_ex E K pc L st h .dup2 a b c' v q = some (vv, h')) (hwf : mm_wf h) (hoL : ∀ v ∈ L, mm_okv (mm_n h) v) (hok : ∀ v ∈ st, mm_okv (mm_n h) v) :
    mm_Fin vv h h' ∧ ∀ H locs ad ls, mm_Pre s D cl ft cA A nL n0 z0 ad0 L st h H locs ad ls → W p l e R s m args below meth c H locs (mm_n h - n0) (mm_z h - z0) Q (F0 m pc ls (st.map (mm_cv ad))) := by
  obtain ⟨hx, hb, hml, hown, hts, hKk, hA, hCl, hUs, hini, hrt, hlk, hXs⟩ := X
  simp only [mm_ck, Bool.and_eq_true, decide_eq_true_eq] at hck
  simp only [mm_ex] at hr
  split at hr
  · rename_i x y r
    obtain ⟨F, w⟩ := hK _ _ _ _ hr hwf hoL (mm_o1 (mm_hd hok) (mm_o1 (mm_hd (mm_tl hok)) hok))
    exact ⟨F, fun H locs ad ls P => lv_dup2_11 hx hb hck (mm_cv_cat ad (mm_hd hok)) (mm_cv_cat ad (mm_hd (mm_tl hok))) (w _ _ _ _ (P.stk (mm_o1 (mm_hd hok) (mm_o1 (mm_hd (mm_tl hok)) hok))))⟩
  · cases hr
set_option maxHeartbeats 4000000 in
theorem mm_step_pop {p : Program} {l : Launch} {e : Env} {R : Room} {s : State} {m : MethodId} {args : Array Value} {below : List Frame} {meth : Method} {c : Code} {Q : State → Prop} {cc : ByteArray} {nL : Nat} {ini : Bool} {rt : Option FieldType} {own host TC : String} {Ts Us Xs : List Cond} {D : va_G} {cl : List vw_C} {ft : Nat → Nat → FieldType} {cA : Nat → ClassId} {A : Nat → Prop} {n0 z0 : Nat} {ad0 : Nat → Nat} {mt : Nat → Option mm_Mi} {E : mm_Ev} {K : mm_Cf → Option mm_Rs} {vv : Option Value} {h' : mm_Hp}
    (X : mm_Cx p s m args meth c cc nL ini rt own TC Ts Us Xs D cl ft cA A)
    (hK : ∀ pc L st h, K (pc, L, st, h) = some (vv, h') → mm_wf h → (∀ v ∈ L, mm_okv (mm_n h) v) → (∀ v ∈ st, mm_okv (mm_n h) v) → mm_Fin vv h h' ∧ ∀ H locs ad ls, mm_Pre s D cl ft cA A nL n0 z0 ad0 L st h H locs ad ls → W p l e R s m args below meth c H locs (mm_n h - n0) (mm_z h - z0) Q (F0 m pc ls (st.map (mm_cv ad))))
    {pc : Nat} {L st : List Value} {h : mm_Hp} {a b c' : Nat} {v : Int32} {q : List (Int32 × Nat)} (hck : mm_ck own host TC cc nL ini rt Us Xs cl ft mt pc .pop a b c' v q = true) (hr : mm_ex E K pc L st h .pop a b c' v q = some (vv, h')) (hwf : mm_wf h) (hoL : ∀ v ∈ L, mm_okv (mm_n h) v) (hok : ∀ v ∈ st, mm_okv (mm_n h) v) :
    mm_Fin vv h h' ∧ ∀ H locs ad ls, mm_Pre s D cl ft cA A nL n0 z0 ad0 L st h H locs ad ls → W p l e R s m args below meth c H locs (mm_n h - n0) (mm_z h - z0) Q (F0 m pc ls (st.map (mm_cv ad))) := by
  obtain ⟨hx, hb, hml, hown, hts, hKk, hA, hCl, hUs, hini, hrt, hlk, hXs⟩ := X
  simp only [mm_ck, Bool.and_eq_true, decide_eq_true_eq] at hck
  simp only [mm_ex] at hr
  split at hr
  · rename_i x r
    obtain ⟨F, w⟩ := hK _ _ _ _ hr hwf hoL (mm_tl hok)
    exact ⟨F, fun H locs ad ls P => lv_pop hx hb hck (mm_cv_cat ad (mm_hd hok)) (w _ _ _ _ (P.stk (mm_tl hok)))⟩
  · cases hr
set_option maxHeartbeats 4000000 in
theorem mm_step_goto {p : Program} {l : Launch} {e : Env} {R : Room} {s : State} {m : MethodId} {args : Array Value} {below : List Frame} {meth : Method} {c : Code} {Q : State → Prop} {cc : ByteArray} {nL : Nat} {ini : Bool} {rt : Option FieldType} {own host TC : String} {Ts Us Xs : List Cond} {D : va_G} {cl : List vw_C} {ft : Nat → Nat → FieldType} {cA : Nat → ClassId} {A : Nat → Prop} {n0 z0 : Nat} {ad0 : Nat → Nat} {mt : Nat → Option mm_Mi} {E : mm_Ev} {K : mm_Cf → Option mm_Rs} {vv : Option Value} {h' : mm_Hp}
    (X : mm_Cx p s m args meth c cc nL ini rt own TC Ts Us Xs D cl ft cA A)
    (hK : ∀ pc L st h, K (pc, L, st, h) = some (vv, h') → mm_wf h → (∀ v ∈ L, mm_okv (mm_n h) v) → (∀ v ∈ st, mm_okv (mm_n h) v) → mm_Fin vv h h' ∧ ∀ H locs ad ls, mm_Pre s D cl ft cA A nL n0 z0 ad0 L st h H locs ad ls → W p l e R s m args below meth c H locs (mm_n h - n0) (mm_z h - z0) Q (F0 m pc ls (st.map (mm_cv ad))))
    {pc : Nat} {L st : List Value} {h : mm_Hp} {o : Int} {a b c' : Nat} {v : Int32} {q : List (Int32 × Nat)} (hck : mm_ck own host TC cc nL ini rt Us Xs cl ft mt pc (.goto o) a b c' v q = true) (hr : mm_ex E K pc L st h (.goto o) a b c' v q = some (vv, h')) (hwf : mm_wf h) (hoL : ∀ v ∈ L, mm_okv (mm_n h) v) (hok : ∀ v ∈ st, mm_okv (mm_n h) v) :
    mm_Fin vv h h' ∧ ∀ H locs ad ls, mm_Pre s D cl ft cA A nL n0 z0 ad0 L st h H locs ad ls → W p l e R s m args below meth c H locs (mm_n h - n0) (mm_z h - z0) Q (F0 m pc ls (st.map (mm_cv ad))) := by
  obtain ⟨hx, hb, hml, hown, hts, hKk, hA, hCl, hUs, hini, hrt, hlk, hXs⟩ := X
  simp only [mm_ck, Bool.and_eq_true, decide_eq_true_eq] at hck
  obtain ⟨F, w⟩ := hK _ _ _ _ hr hwf hoL hok
  exact ⟨F, fun H locs ad ls P => lv_goto hx hb hck.1 hck.2 (w _ _ _ _ P)⟩
set_option maxHeartbeats 4000000 in
theorem mm_step_ifCond_eq {p : Program} {l : Launch} {e : Env} {R : Room} {s : State} {m : MethodId} {args : Array Value} {below : List Frame} {meth : Method} {c : Code} {Q : State → Prop} {cc : ByteArray} {nL : Nat} {ini : Bool} {rt : Option FieldType} {own host TC : String} {Ts Us Xs : List Cond} {D : va_G} {cl : List vw_C} {ft : Nat → Nat → FieldType} {cA : Nat → ClassId} {A : Nat → Prop} {n0 z0 : Nat} {ad0 : Nat → Nat} {mt : Nat → Option mm_Mi} {E : mm_Ev} {K : mm_Cf → Option mm_Rs} {vv : Option Value} {h' : mm_Hp}
    (X : mm_Cx p s m args meth c cc nL ini rt own TC Ts Us Xs D cl ft cA A)
    (hK : ∀ pc L st h, K (pc, L, st, h) = some (vv, h') → mm_wf h → (∀ v ∈ L, mm_okv (mm_n h) v) → (∀ v ∈ st, mm_okv (mm_n h) v) → mm_Fin vv h h' ∧ ∀ H locs ad ls, mm_Pre s D cl ft cA A nL n0 z0 ad0 L st h H locs ad ls → W p l e R s m args below meth c H locs (mm_n h - n0) (mm_z h - z0) Q (F0 m pc ls (st.map (mm_cv ad))))
    {pc : Nat} {L st : List Value} {h : mm_Hp} {o : Int} {a b c' : Nat} {v : Int32} {q : List (Int32 × Nat)} (hck : mm_ck own host TC cc nL ini rt Us Xs cl ft mt pc (.ifCond .eq o) a b c' v q = true) (hr : mm_ex E K pc L st h (.ifCond .eq o) a b c' v q = some (vv, h')) (hwf : mm_wf h) (hoL : ∀ v ∈ L, mm_okv (mm_n h) v) (hok : ∀ v ∈ st, mm_okv (mm_n h) v) :
    mm_Fin vv h h' ∧ ∀ H locs ad ls, mm_Pre s D cl ft cA A nL n0 z0 ad0 L st h H locs ad ls → W p l e R s m args below meth c H locs (mm_n h - n0) (mm_z h - z0) Q (F0 m pc ls (st.map (mm_cv ad))) := by
  obtain ⟨hx, hb, hml, hown, hts, hKk, hA, hCl, hUs, hini, hrt, hlk, hXs⟩ := X
  simp only [mm_ck, Bool.and_eq_true, decide_eq_true_eq] at hck
  simp only [mm_ex, mm_br] at hr
  split at hr
  · rename_i x r
    split at hr
    · rename_i hc
      obtain ⟨F, w⟩ := hK _ _ _ _ hr hwf hoL (mm_tl hok)
      exact ⟨F, fun H locs ad ls P => lv_if_eq hx hb hck.1 hck.2 (fun _ => w _ _ _ _ (P.stk (mm_tl hok))) (fun q => absurd hc q)⟩
    · rename_i hc
      obtain ⟨F, w⟩ := hK _ _ _ _ hr hwf hoL (mm_tl hok)
      exact ⟨F, fun H locs ad ls P => lv_if_eq hx hb hck.1 hck.2 (fun q => absurd q hc) (fun _ => w _ _ _ _ (P.stk (mm_tl hok)))⟩
  · cases hr
set_option maxHeartbeats 4000000 in
theorem mm_step_ifCond_ne {p : Program} {l : Launch} {e : Env} {R : Room} {s : State} {m : MethodId} {args : Array Value} {below : List Frame} {meth : Method} {c : Code} {Q : State → Prop} {cc : ByteArray} {nL : Nat} {ini : Bool} {rt : Option FieldType} {own host TC : String} {Ts Us Xs : List Cond} {D : va_G} {cl : List vw_C} {ft : Nat → Nat → FieldType} {cA : Nat → ClassId} {A : Nat → Prop} {n0 z0 : Nat} {ad0 : Nat → Nat} {mt : Nat → Option mm_Mi} {E : mm_Ev} {K : mm_Cf → Option mm_Rs} {vv : Option Value} {h' : mm_Hp}
    (X : mm_Cx p s m args meth c cc nL ini rt own TC Ts Us Xs D cl ft cA A)
    (hK : ∀ pc L st h, K (pc, L, st, h) = some (vv, h') → mm_wf h → (∀ v ∈ L, mm_okv (mm_n h) v) → (∀ v ∈ st, mm_okv (mm_n h) v) → mm_Fin vv h h' ∧ ∀ H locs ad ls, mm_Pre s D cl ft cA A nL n0 z0 ad0 L st h H locs ad ls → W p l e R s m args below meth c H locs (mm_n h - n0) (mm_z h - z0) Q (F0 m pc ls (st.map (mm_cv ad))))
    {pc : Nat} {L st : List Value} {h : mm_Hp} {o : Int} {a b c' : Nat} {v : Int32} {q : List (Int32 × Nat)} (hck : mm_ck own host TC cc nL ini rt Us Xs cl ft mt pc (.ifCond .ne o) a b c' v q = true) (hr : mm_ex E K pc L st h (.ifCond .ne o) a b c' v q = some (vv, h')) (hwf : mm_wf h) (hoL : ∀ v ∈ L, mm_okv (mm_n h) v) (hok : ∀ v ∈ st, mm_okv (mm_n h) v) :
    mm_Fin vv h h' ∧ ∀ H locs ad ls, mm_Pre s D cl ft cA A nL n0 z0 ad0 L st h H locs ad ls → W p l e R s m args below meth c H locs (mm_n h - n0) (mm_z h - z0) Q (F0 m pc ls (st.map (mm_cv ad))) := by
  obtain ⟨hx, hb, hml, hown, hts, hKk, hA, hCl, hUs, hini, hrt, hlk, hXs⟩ := X
  simp only [mm_ck, Bool.and_eq_true, decide_eq_true_eq] at hck
  simp only [mm_ex, mm_br] at hr
  split at hr
  · rename_i x r
    split at hr
    · rename_i hc
      obtain ⟨F, w⟩ := hK _ _ _ _ hr hwf hoL (mm_tl hok)
      exact ⟨F, fun H locs ad ls P => lv_if_ne hx hb hck.1 hck.2 (fun q => absurd hc q) (fun _ => w _ _ _ _ (P.stk (mm_tl hok)))⟩
    · rename_i hc
      obtain ⟨F, w⟩ := hK _ _ _ _ hr hwf hoL (mm_tl hok)
      exact ⟨F, fun H locs ad ls P => lv_if_ne hx hb hck.1 hck.2 (fun _ => w _ _ _ _ (P.stk (mm_tl hok))) (fun q => absurd q hc)⟩
  · cases hr
set_option maxHeartbeats 4000000 in
theorem mm_step_ifCond_lt {p : Program} {l : Launch} {e : Env} {R : Room} {s : State} {m : MethodId} {args : Array Value} {below : List Frame} {meth : Method} {c : Code} {Q : State → Prop} {cc : ByteArray} {nL : Nat} {ini : Bool} {rt : Option FieldType} {own host TC : String} {Ts Us Xs : List Cond} {D : va_G} {cl : List vw_C} {ft : Nat → Nat → FieldType} {cA : Nat → ClassId} {A : Nat → Prop} {n0 z0 : Nat} {ad0 : Nat → Nat} {mt : Nat → Option mm_Mi} {E : mm_Ev} {K : mm_Cf → Option mm_Rs} {vv : Option Value} {h' : mm_Hp}
    (X : mm_Cx p s m args meth c cc nL ini rt own TC Ts Us Xs D cl ft cA A)
    (hK : ∀ pc L st h, K (pc, L, st, h) = some (vv, h') → mm_wf h → (∀ v ∈ L, mm_okv (mm_n h) v) → (∀ v ∈ st, mm_okv (mm_n h) v) → mm_Fin vv h h' ∧ ∀ H locs ad ls, mm_Pre s D cl ft cA A nL n0 z0 ad0 L st h H locs ad ls → W p l e R s m args below meth c H locs (mm_n h - n0) (mm_z h - z0) Q (F0 m pc ls (st.map (mm_cv ad))))
    {pc : Nat} {L st : List Value} {h : mm_Hp} {o : Int} {a b c' : Nat} {v : Int32} {q : List (Int32 × Nat)} (hck : mm_ck own host TC cc nL ini rt Us Xs cl ft mt pc (.ifCond .lt o) a b c' v q = true) (hr : mm_ex E K pc L st h (.ifCond .lt o) a b c' v q = some (vv, h')) (hwf : mm_wf h) (hoL : ∀ v ∈ L, mm_okv (mm_n h) v) (hok : ∀ v ∈ st, mm_okv (mm_n h) v) :
    mm_Fin vv h h' ∧ ∀ H locs ad ls, mm_Pre s D cl ft cA A nL n0 z0 ad0 L st h H locs ad ls → W p l e R s m args below meth c H locs (mm_n h - n0) (mm_z h - z0) Q (F0 m pc ls (st.map (mm_cv ad))) := by
  obtain ⟨hx, hb, hml, hown, hts, hKk, hA, hCl, hUs, hini, hrt, hlk, hXs⟩ := X
  simp only [mm_ck, Bool.and_eq_true, decide_eq_true_eq] at hck
  simp only [mm_ex, mm_br] at hr
  split at hr
  · rename_i x r
    split at hr
    · rename_i hc
      obtain ⟨F, w⟩ := hK _ _ _ _ hr hwf hoL (mm_tl hok)
      exact ⟨F, fun H locs ad ls P => lv_if_lt hx hb hck.1 hck.2 (fun _ => w _ _ _ _ (P.stk (mm_tl hok))) (fun q => absurd hc q)⟩
    · rename_i hc
      obtain ⟨F, w⟩ := hK _ _ _ _ hr hwf hoL (mm_tl hok)
      exact ⟨F, fun H locs ad ls P => lv_if_lt hx hb hck.1 hck.2 (fun q => absurd q hc) (fun _ => w _ _ _ _ (P.stk (mm_tl hok)))⟩
  · cases hr
set_option maxHeartbeats 4000000 in
theorem mm_step_ifCond_ge {p : Program} {l : Launch} {e : Env} {R : Room} {s : State} {m : MethodId} {args : Array Value} {below : List Frame} {meth : Method} {c : Code} {Q : State → Prop} {cc : ByteArray} {nL : Nat} {ini : Bool} {rt : Option FieldType} {own host TC : String} {Ts Us Xs : List Cond} {D : va_G} {cl : List vw_C} {ft : Nat → Nat → FieldType} {cA : Nat → ClassId} {A : Nat → Prop} {n0 z0 : Nat} {ad0 : Nat → Nat} {mt : Nat → Option mm_Mi} {E : mm_Ev} {K : mm_Cf → Option mm_Rs} {vv : Option Value} {h' : mm_Hp}
    (X : mm_Cx p s m args meth c cc nL ini rt own TC Ts Us Xs D cl ft cA A)
    (hK : ∀ pc L st h, K (pc, L, st, h) = some (vv, h') → mm_wf h → (∀ v ∈ L, mm_okv (mm_n h) v) → (∀ v ∈ st, mm_okv (mm_n h) v) → mm_Fin vv h h' ∧ ∀ H locs ad ls, mm_Pre s D cl ft cA A nL n0 z0 ad0 L st h H locs ad ls → W p l e R s m args below meth c H locs (mm_n h - n0) (mm_z h - z0) Q (F0 m pc ls (st.map (mm_cv ad))))
    {pc : Nat} {L st : List Value} {h : mm_Hp} {o : Int} {a b c' : Nat} {v : Int32} {q : List (Int32 × Nat)} (hck : mm_ck own host TC cc nL ini rt Us Xs cl ft mt pc (.ifCond .ge o) a b c' v q = true) (hr : mm_ex E K pc L st h (.ifCond .ge o) a b c' v q = some (vv, h')) (hwf : mm_wf h) (hoL : ∀ v ∈ L, mm_okv (mm_n h) v) (hok : ∀ v ∈ st, mm_okv (mm_n h) v) :
    mm_Fin vv h h' ∧ ∀ H locs ad ls, mm_Pre s D cl ft cA A nL n0 z0 ad0 L st h H locs ad ls → W p l e R s m args below meth c H locs (mm_n h - n0) (mm_z h - z0) Q (F0 m pc ls (st.map (mm_cv ad))) := by
  obtain ⟨hx, hb, hml, hown, hts, hKk, hA, hCl, hUs, hini, hrt, hlk, hXs⟩ := X
  simp only [mm_ck, Bool.and_eq_true, decide_eq_true_eq] at hck
  simp only [mm_ex, mm_br] at hr
  split at hr
  · rename_i x r
    split at hr
    · rename_i hc
      obtain ⟨F, w⟩ := hK _ _ _ _ hr hwf hoL (mm_tl hok)
      exact ⟨F, fun H locs ad ls P => lv_if_ge hx hb hck.1 hck.2 (fun _ => w _ _ _ _ (P.stk (mm_tl hok))) (fun q => absurd hc q)⟩
    · rename_i hc
      obtain ⟨F, w⟩ := hK _ _ _ _ hr hwf hoL (mm_tl hok)
      exact ⟨F, fun H locs ad ls P => lv_if_ge hx hb hck.1 hck.2 (fun q => absurd q hc) (fun _ => w _ _ _ _ (P.stk (mm_tl hok)))⟩
  · cases hr
set_option maxHeartbeats 4000000 in
theorem mm_step_ifCond_gt {p : Program} {l : Launch} {e : Env} {R : Room} {s : State} {m : MethodId} {args : Array Value} {below : List Frame} {meth : Method} {c : Code} {Q : State → Prop} {cc : ByteArray} {nL : Nat} {ini : Bool} {rt : Option FieldType} {own host TC : String} {Ts Us Xs : List Cond} {D : va_G} {cl : List vw_C} {ft : Nat → Nat → FieldType} {cA : Nat → ClassId} {A : Nat → Prop} {n0 z0 : Nat} {ad0 : Nat → Nat} {mt : Nat → Option mm_Mi} {E : mm_Ev} {K : mm_Cf → Option mm_Rs} {vv : Option Value} {h' : mm_Hp}
    (X : mm_Cx p s m args meth c cc nL ini rt own TC Ts Us Xs D cl ft cA A)
    (hK : ∀ pc L st h, K (pc, L, st, h) = some (vv, h') → mm_wf h → (∀ v ∈ L, mm_okv (mm_n h) v) → (∀ v ∈ st, mm_okv (mm_n h) v) → mm_Fin vv h h' ∧ ∀ H locs ad ls, mm_Pre s D cl ft cA A nL n0 z0 ad0 L st h H locs ad ls → W p l e R s m args below meth c H locs (mm_n h - n0) (mm_z h - z0) Q (F0 m pc ls (st.map (mm_cv ad))))
    {pc : Nat} {L st : List Value} {h : mm_Hp} {o : Int} {a b c' : Nat} {v : Int32} {q : List (Int32 × Nat)} (hck : mm_ck own host TC cc nL ini rt Us Xs cl ft mt pc (.ifCond .gt o) a b c' v q = true) (hr : mm_ex E K pc L st h (.ifCond .gt o) a b c' v q = some (vv, h')) (hwf : mm_wf h) (hoL : ∀ v ∈ L, mm_okv (mm_n h) v) (hok : ∀ v ∈ st, mm_okv (mm_n h) v) :
    mm_Fin vv h h' ∧ ∀ H locs ad ls, mm_Pre s D cl ft cA A nL n0 z0 ad0 L st h H locs ad ls → W p l e R s m args below meth c H locs (mm_n h - n0) (mm_z h - z0) Q (F0 m pc ls (st.map (mm_cv ad))) := by
  obtain ⟨hx, hb, hml, hown, hts, hKk, hA, hCl, hUs, hini, hrt, hlk, hXs⟩ := X
  simp only [mm_ck, Bool.and_eq_true, decide_eq_true_eq] at hck
  simp only [mm_ex, mm_br] at hr
  split at hr
  · rename_i x r
    split at hr
    · rename_i hc
      obtain ⟨F, w⟩ := hK _ _ _ _ hr hwf hoL (mm_tl hok)
      exact ⟨F, fun H locs ad ls P => lv_if_gt hx hb hck.1 hck.2 (fun _ => w _ _ _ _ (P.stk (mm_tl hok))) (fun q => absurd hc q)⟩
    · rename_i hc
      obtain ⟨F, w⟩ := hK _ _ _ _ hr hwf hoL (mm_tl hok)
      exact ⟨F, fun H locs ad ls P => lv_if_gt hx hb hck.1 hck.2 (fun q => absurd q hc) (fun _ => w _ _ _ _ (P.stk (mm_tl hok)))⟩
  · cases hr
set_option maxHeartbeats 4000000 in
theorem mm_step_ifCond_le {p : Program} {l : Launch} {e : Env} {R : Room} {s : State} {m : MethodId} {args : Array Value} {below : List Frame} {meth : Method} {c : Code} {Q : State → Prop} {cc : ByteArray} {nL : Nat} {ini : Bool} {rt : Option FieldType} {own host TC : String} {Ts Us Xs : List Cond} {D : va_G} {cl : List vw_C} {ft : Nat → Nat → FieldType} {cA : Nat → ClassId} {A : Nat → Prop} {n0 z0 : Nat} {ad0 : Nat → Nat} {mt : Nat → Option mm_Mi} {E : mm_Ev} {K : mm_Cf → Option mm_Rs} {vv : Option Value} {h' : mm_Hp}
    (X : mm_Cx p s m args meth c cc nL ini rt own TC Ts Us Xs D cl ft cA A)
    (hK : ∀ pc L st h, K (pc, L, st, h) = some (vv, h') → mm_wf h → (∀ v ∈ L, mm_okv (mm_n h) v) → (∀ v ∈ st, mm_okv (mm_n h) v) → mm_Fin vv h h' ∧ ∀ H locs ad ls, mm_Pre s D cl ft cA A nL n0 z0 ad0 L st h H locs ad ls → W p l e R s m args below meth c H locs (mm_n h - n0) (mm_z h - z0) Q (F0 m pc ls (st.map (mm_cv ad))))
    {pc : Nat} {L st : List Value} {h : mm_Hp} {o : Int} {a b c' : Nat} {v : Int32} {q : List (Int32 × Nat)} (hck : mm_ck own host TC cc nL ini rt Us Xs cl ft mt pc (.ifCond .le o) a b c' v q = true) (hr : mm_ex E K pc L st h (.ifCond .le o) a b c' v q = some (vv, h')) (hwf : mm_wf h) (hoL : ∀ v ∈ L, mm_okv (mm_n h) v) (hok : ∀ v ∈ st, mm_okv (mm_n h) v) :
    mm_Fin vv h h' ∧ ∀ H locs ad ls, mm_Pre s D cl ft cA A nL n0 z0 ad0 L st h H locs ad ls → W p l e R s m args below meth c H locs (mm_n h - n0) (mm_z h - z0) Q (F0 m pc ls (st.map (mm_cv ad))) := by
  obtain ⟨hx, hb, hml, hown, hts, hKk, hA, hCl, hUs, hini, hrt, hlk, hXs⟩ := X
  simp only [mm_ck, Bool.and_eq_true, decide_eq_true_eq] at hck
  simp only [mm_ex, mm_br] at hr
  split at hr
  · rename_i x r
    split at hr
    · rename_i hc
      obtain ⟨F, w⟩ := hK _ _ _ _ hr hwf hoL (mm_tl hok)
      exact ⟨F, fun H locs ad ls P => lv_if_le hx hb hck.1 hck.2 (fun _ => w _ _ _ _ (P.stk (mm_tl hok))) (fun q => absurd hc q)⟩
    · rename_i hc
      obtain ⟨F, w⟩ := hK _ _ _ _ hr hwf hoL (mm_tl hok)
      exact ⟨F, fun H locs ad ls P => lv_if_le hx hb hck.1 hck.2 (fun q => absurd q hc) (fun _ => w _ _ _ _ (P.stk (mm_tl hok)))⟩
  · cases hr
set_option maxHeartbeats 4000000 in
theorem mm_step_if_icmp_eq {p : Program} {l : Launch} {e : Env} {R : Room} {s : State} {m : MethodId} {args : Array Value} {below : List Frame} {meth : Method} {c : Code} {Q : State → Prop} {cc : ByteArray} {nL : Nat} {ini : Bool} {rt : Option FieldType} {own host TC : String} {Ts Us Xs : List Cond} {D : va_G} {cl : List vw_C} {ft : Nat → Nat → FieldType} {cA : Nat → ClassId} {A : Nat → Prop} {n0 z0 : Nat} {ad0 : Nat → Nat} {mt : Nat → Option mm_Mi} {E : mm_Ev} {K : mm_Cf → Option mm_Rs} {vv : Option Value} {h' : mm_Hp}
    (X : mm_Cx p s m args meth c cc nL ini rt own TC Ts Us Xs D cl ft cA A)
    (hK : ∀ pc L st h, K (pc, L, st, h) = some (vv, h') → mm_wf h → (∀ v ∈ L, mm_okv (mm_n h) v) → (∀ v ∈ st, mm_okv (mm_n h) v) → mm_Fin vv h h' ∧ ∀ H locs ad ls, mm_Pre s D cl ft cA A nL n0 z0 ad0 L st h H locs ad ls → W p l e R s m args below meth c H locs (mm_n h - n0) (mm_z h - z0) Q (F0 m pc ls (st.map (mm_cv ad))))
    {pc : Nat} {L st : List Value} {h : mm_Hp} {o : Int} {a b c' : Nat} {v : Int32} {q : List (Int32 × Nat)} (hck : mm_ck own host TC cc nL ini rt Us Xs cl ft mt pc (.if_icmp .eq o) a b c' v q = true) (hr : mm_ex E K pc L st h (.if_icmp .eq o) a b c' v q = some (vv, h')) (hwf : mm_wf h) (hoL : ∀ v ∈ L, mm_okv (mm_n h) v) (hok : ∀ v ∈ st, mm_okv (mm_n h) v) :
    mm_Fin vv h h' ∧ ∀ H locs ad ls, mm_Pre s D cl ft cA A nL n0 z0 ad0 L st h H locs ad ls → W p l e R s m args below meth c H locs (mm_n h - n0) (mm_z h - z0) Q (F0 m pc ls (st.map (mm_cv ad))) := by
  obtain ⟨hx, hb, hml, hown, hts, hKk, hA, hCl, hUs, hini, hrt, hlk, hXs⟩ := X
  simp only [mm_ck, Bool.and_eq_true, decide_eq_true_eq] at hck
  simp only [mm_ex, mm_br] at hr
  split at hr
  · rename_i y x r
    split at hr
    · rename_i hc
      obtain ⟨F, w⟩ := hK _ _ _ _ hr hwf hoL (mm_tl (mm_tl hok))
      exact ⟨F, fun H locs ad ls P => lv_icmp_eq hx hb hck.1 hck.2 (fun _ => w _ _ _ _ (P.stk (mm_tl (mm_tl hok)))) (fun q => absurd hc q)⟩
    · rename_i hc
      obtain ⟨F, w⟩ := hK _ _ _ _ hr hwf hoL (mm_tl (mm_tl hok))
      exact ⟨F, fun H locs ad ls P => lv_icmp_eq hx hb hck.1 hck.2 (fun q => absurd q hc) (fun _ => w _ _ _ _ (P.stk (mm_tl (mm_tl hok))))⟩
  · cases hr
set_option maxHeartbeats 4000000 in
theorem mm_step_if_icmp_ne {p : Program} {l : Launch} {e : Env} {R : Room} {s : State} {m : MethodId} {args : Array Value} {below : List Frame} {meth : Method} {c : Code} {Q : State → Prop} {cc : ByteArray} {nL : Nat} {ini : Bool} {rt : Option FieldType} {own host TC : String} {Ts Us Xs : List Cond} {D : va_G} {cl : List vw_C} {ft : Nat → Nat → FieldType} {cA : Nat → ClassId} {A : Nat → Prop} {n0 z0 : Nat} {ad0 : Nat → Nat} {mt : Nat → Option mm_Mi} {E : mm_Ev} {K : mm_Cf → Option mm_Rs} {vv : Option Value} {h' : mm_Hp}
    (X : mm_Cx p s m args meth c cc nL ini rt own TC Ts Us Xs D cl ft cA A)
    (hK : ∀ pc L st h, K (pc, L, st, h) = some (vv, h') → mm_wf h → (∀ v ∈ L, mm_okv (mm_n h) v) → (∀ v ∈ st, mm_okv (mm_n h) v) → mm_Fin vv h h' ∧ ∀ H locs ad ls, mm_Pre s D cl ft cA A nL n0 z0 ad0 L st h H locs ad ls → W p l e R s m args below meth c H locs (mm_n h - n0) (mm_z h - z0) Q (F0 m pc ls (st.map (mm_cv ad))))
    {pc : Nat} {L st : List Value} {h : mm_Hp} {o : Int} {a b c' : Nat} {v : Int32} {q : List (Int32 × Nat)} (hck : mm_ck own host TC cc nL ini rt Us Xs cl ft mt pc (.if_icmp .ne o) a b c' v q = true) (hr : mm_ex E K pc L st h (.if_icmp .ne o) a b c' v q = some (vv, h')) (hwf : mm_wf h) (hoL : ∀ v ∈ L, mm_okv (mm_n h) v) (hok : ∀ v ∈ st, mm_okv (mm_n h) v) :
    mm_Fin vv h h' ∧ ∀ H locs ad ls, mm_Pre s D cl ft cA A nL n0 z0 ad0 L st h H locs ad ls → W p l e R s m args below meth c H locs (mm_n h - n0) (mm_z h - z0) Q (F0 m pc ls (st.map (mm_cv ad))) := by
  obtain ⟨hx, hb, hml, hown, hts, hKk, hA, hCl, hUs, hini, hrt, hlk, hXs⟩ := X
  simp only [mm_ck, Bool.and_eq_true, decide_eq_true_eq] at hck
  simp only [mm_ex, mm_br] at hr
  split at hr
  · rename_i y x r
    split at hr
    · rename_i hc
      obtain ⟨F, w⟩ := hK _ _ _ _ hr hwf hoL (mm_tl (mm_tl hok))
      exact ⟨F, fun H locs ad ls P => lv_icmp_ne hx hb hck.1 hck.2 (fun q => absurd hc q) (fun _ => w _ _ _ _ (P.stk (mm_tl (mm_tl hok))))⟩
    · rename_i hc
      obtain ⟨F, w⟩ := hK _ _ _ _ hr hwf hoL (mm_tl (mm_tl hok))
      exact ⟨F, fun H locs ad ls P => lv_icmp_ne hx hb hck.1 hck.2 (fun _ => w _ _ _ _ (P.stk (mm_tl (mm_tl hok)))) (fun q => absurd q hc)⟩
  · cases hr
set_option maxHeartbeats 4000000 in
theorem mm_step_if_icmp_lt {p : Program} {l : Launch} {e : Env} {R : Room} {s : State} {m : MethodId} {args : Array Value} {below : List Frame} {meth : Method} {c : Code} {Q : State → Prop} {cc : ByteArray} {nL : Nat} {ini : Bool} {rt : Option FieldType} {own host TC : String} {Ts Us Xs : List Cond} {D : va_G} {cl : List vw_C} {ft : Nat → Nat → FieldType} {cA : Nat → ClassId} {A : Nat → Prop} {n0 z0 : Nat} {ad0 : Nat → Nat} {mt : Nat → Option mm_Mi} {E : mm_Ev} {K : mm_Cf → Option mm_Rs} {vv : Option Value} {h' : mm_Hp}
    (X : mm_Cx p s m args meth c cc nL ini rt own TC Ts Us Xs D cl ft cA A)
    (hK : ∀ pc L st h, K (pc, L, st, h) = some (vv, h') → mm_wf h → (∀ v ∈ L, mm_okv (mm_n h) v) → (∀ v ∈ st, mm_okv (mm_n h) v) → mm_Fin vv h h' ∧ ∀ H locs ad ls, mm_Pre s D cl ft cA A nL n0 z0 ad0 L st h H locs ad ls → W p l e R s m args below meth c H locs (mm_n h - n0) (mm_z h - z0) Q (F0 m pc ls (st.map (mm_cv ad))))
    {pc : Nat} {L st : List Value} {h : mm_Hp} {o : Int} {a b c' : Nat} {v : Int32} {q : List (Int32 × Nat)} (hck : mm_ck own host TC cc nL ini rt Us Xs cl ft mt pc (.if_icmp .lt o) a b c' v q = true) (hr : mm_ex E K pc L st h (.if_icmp .lt o) a b c' v q = some (vv, h')) (hwf : mm_wf h) (hoL : ∀ v ∈ L, mm_okv (mm_n h) v) (hok : ∀ v ∈ st, mm_okv (mm_n h) v) :
    mm_Fin vv h h' ∧ ∀ H locs ad ls, mm_Pre s D cl ft cA A nL n0 z0 ad0 L st h H locs ad ls → W p l e R s m args below meth c H locs (mm_n h - n0) (mm_z h - z0) Q (F0 m pc ls (st.map (mm_cv ad))) := by
  obtain ⟨hx, hb, hml, hown, hts, hKk, hA, hCl, hUs, hini, hrt, hlk, hXs⟩ := X
  simp only [mm_ck, Bool.and_eq_true, decide_eq_true_eq] at hck
  simp only [mm_ex, mm_br] at hr
  split at hr
  · rename_i y x r
    split at hr
    · rename_i hc
      obtain ⟨F, w⟩ := hK _ _ _ _ hr hwf hoL (mm_tl (mm_tl hok))
      exact ⟨F, fun H locs ad ls P => lv_icmp_lt hx hb hck.1 hck.2 (fun _ => w _ _ _ _ (P.stk (mm_tl (mm_tl hok)))) (fun q => absurd hc q)⟩
    · rename_i hc
      obtain ⟨F, w⟩ := hK _ _ _ _ hr hwf hoL (mm_tl (mm_tl hok))
      exact ⟨F, fun H locs ad ls P => lv_icmp_lt hx hb hck.1 hck.2 (fun q => absurd q hc) (fun _ => w _ _ _ _ (P.stk (mm_tl (mm_tl hok))))⟩
  · cases hr
set_option maxHeartbeats 4000000 in
theorem mm_step_if_icmp_ge {p : Program} {l : Launch} {e : Env} {R : Room} {s : State} {m : MethodId} {args : Array Value} {below : List Frame} {meth : Method} {c : Code} {Q : State → Prop} {cc : ByteArray} {nL : Nat} {ini : Bool} {rt : Option FieldType} {own host TC : String} {Ts Us Xs : List Cond} {D : va_G} {cl : List vw_C} {ft : Nat → Nat → FieldType} {cA : Nat → ClassId} {A : Nat → Prop} {n0 z0 : Nat} {ad0 : Nat → Nat} {mt : Nat → Option mm_Mi} {E : mm_Ev} {K : mm_Cf → Option mm_Rs} {vv : Option Value} {h' : mm_Hp}
    (X : mm_Cx p s m args meth c cc nL ini rt own TC Ts Us Xs D cl ft cA A)
    (hK : ∀ pc L st h, K (pc, L, st, h) = some (vv, h') → mm_wf h → (∀ v ∈ L, mm_okv (mm_n h) v) → (∀ v ∈ st, mm_okv (mm_n h) v) → mm_Fin vv h h' ∧ ∀ H locs ad ls, mm_Pre s D cl ft cA A nL n0 z0 ad0 L st h H locs ad ls → W p l e R s m args below meth c H locs (mm_n h - n0) (mm_z h - z0) Q (F0 m pc ls (st.map (mm_cv ad))))
    {pc : Nat} {L st : List Value} {h : mm_Hp} {o : Int} {a b c' : Nat} {v : Int32} {q : List (Int32 × Nat)} (hck : mm_ck own host TC cc nL ini rt Us Xs cl ft mt pc (.if_icmp .ge o) a b c' v q = true) (hr : mm_ex E K pc L st h (.if_icmp .ge o) a b c' v q = some (vv, h')) (hwf : mm_wf h) (hoL : ∀ v ∈ L, mm_okv (mm_n h) v) (hok : ∀ v ∈ st, mm_okv (mm_n h) v) :
    mm_Fin vv h h' ∧ ∀ H locs ad ls, mm_Pre s D cl ft cA A nL n0 z0 ad0 L st h H locs ad ls → W p l e R s m args below meth c H locs (mm_n h - n0) (mm_z h - z0) Q (F0 m pc ls (st.map (mm_cv ad))) := by
  obtain ⟨hx, hb, hml, hown, hts, hKk, hA, hCl, hUs, hini, hrt, hlk, hXs⟩ := X
  simp only [mm_ck, Bool.and_eq_true, decide_eq_true_eq] at hck
  simp only [mm_ex, mm_br] at hr
  split at hr
  · rename_i y x r
    split at hr
    · rename_i hc
      obtain ⟨F, w⟩ := hK _ _ _ _ hr hwf hoL (mm_tl (mm_tl hok))
      exact ⟨F, fun H locs ad ls P => lv_icmp_ge hx hb hck.1 hck.2 (fun _ => w _ _ _ _ (P.stk (mm_tl (mm_tl hok)))) (fun q => absurd hc q)⟩
    · rename_i hc
      obtain ⟨F, w⟩ := hK _ _ _ _ hr hwf hoL (mm_tl (mm_tl hok))
      exact ⟨F, fun H locs ad ls P => lv_icmp_ge hx hb hck.1 hck.2 (fun q => absurd q hc) (fun _ => w _ _ _ _ (P.stk (mm_tl (mm_tl hok))))⟩
  · cases hr
set_option maxHeartbeats 4000000 in
theorem mm_step_if_icmp_gt {p : Program} {l : Launch} {e : Env} {R : Room} {s : State} {m : MethodId} {args : Array Value} {below : List Frame} {meth : Method} {c : Code} {Q : State → Prop} {cc : ByteArray} {nL : Nat} {ini : Bool} {rt : Option FieldType} {own host TC : String} {Ts Us Xs : List Cond} {D : va_G} {cl : List vw_C} {ft : Nat → Nat → FieldType} {cA : Nat → ClassId} {A : Nat → Prop} {n0 z0 : Nat} {ad0 : Nat → Nat} {mt : Nat → Option mm_Mi} {E : mm_Ev} {K : mm_Cf → Option mm_Rs} {vv : Option Value} {h' : mm_Hp}
    (X : mm_Cx p s m args meth c cc nL ini rt own TC Ts Us Xs D cl ft cA A)
    (hK : ∀ pc L st h, K (pc, L, st, h) = some (vv, h') → mm_wf h → (∀ v ∈ L, mm_okv (mm_n h) v) → (∀ v ∈ st, mm_okv (mm_n h) v) → mm_Fin vv h h' ∧ ∀ H locs ad ls, mm_Pre s D cl ft cA A nL n0 z0 ad0 L st h H locs ad ls → W p l e R s m args below meth c H locs (mm_n h - n0) (mm_z h - z0) Q (F0 m pc ls (st.map (mm_cv ad))))
    {pc : Nat} {L st : List Value} {h : mm_Hp} {o : Int} {a b c' : Nat} {v : Int32} {q : List (Int32 × Nat)} (hck : mm_ck own host TC cc nL ini rt Us Xs cl ft mt pc (.if_icmp .gt o) a b c' v q = true) (hr : mm_ex E K pc L st h (.if_icmp .gt o) a b c' v q = some (vv, h')) (hwf : mm_wf h) (hoL : ∀ v ∈ L, mm_okv (mm_n h) v) (hok : ∀ v ∈ st, mm_okv (mm_n h) v) :
    mm_Fin vv h h' ∧ ∀ H locs ad ls, mm_Pre s D cl ft cA A nL n0 z0 ad0 L st h H locs ad ls → W p l e R s m args below meth c H locs (mm_n h - n0) (mm_z h - z0) Q (F0 m pc ls (st.map (mm_cv ad))) := by
  obtain ⟨hx, hb, hml, hown, hts, hKk, hA, hCl, hUs, hini, hrt, hlk, hXs⟩ := X
  simp only [mm_ck, Bool.and_eq_true, decide_eq_true_eq] at hck
  simp only [mm_ex, mm_br] at hr
  split at hr
  · rename_i y x r
    split at hr
    · rename_i hc
      obtain ⟨F, w⟩ := hK _ _ _ _ hr hwf hoL (mm_tl (mm_tl hok))
      exact ⟨F, fun H locs ad ls P => lv_icmp_gt hx hb hck.1 hck.2 (fun _ => w _ _ _ _ (P.stk (mm_tl (mm_tl hok)))) (fun q => absurd hc q)⟩
    · rename_i hc
      obtain ⟨F, w⟩ := hK _ _ _ _ hr hwf hoL (mm_tl (mm_tl hok))
      exact ⟨F, fun H locs ad ls P => lv_icmp_gt hx hb hck.1 hck.2 (fun q => absurd q hc) (fun _ => w _ _ _ _ (P.stk (mm_tl (mm_tl hok))))⟩
  · cases hr
set_option maxHeartbeats 4000000 in
theorem mm_step_if_icmp_le {p : Program} {l : Launch} {e : Env} {R : Room} {s : State} {m : MethodId} {args : Array Value} {below : List Frame} {meth : Method} {c : Code} {Q : State → Prop} {cc : ByteArray} {nL : Nat} {ini : Bool} {rt : Option FieldType} {own host TC : String} {Ts Us Xs : List Cond} {D : va_G} {cl : List vw_C} {ft : Nat → Nat → FieldType} {cA : Nat → ClassId} {A : Nat → Prop} {n0 z0 : Nat} {ad0 : Nat → Nat} {mt : Nat → Option mm_Mi} {E : mm_Ev} {K : mm_Cf → Option mm_Rs} {vv : Option Value} {h' : mm_Hp}
    (X : mm_Cx p s m args meth c cc nL ini rt own TC Ts Us Xs D cl ft cA A)
    (hK : ∀ pc L st h, K (pc, L, st, h) = some (vv, h') → mm_wf h → (∀ v ∈ L, mm_okv (mm_n h) v) → (∀ v ∈ st, mm_okv (mm_n h) v) → mm_Fin vv h h' ∧ ∀ H locs ad ls, mm_Pre s D cl ft cA A nL n0 z0 ad0 L st h H locs ad ls → W p l e R s m args below meth c H locs (mm_n h - n0) (mm_z h - z0) Q (F0 m pc ls (st.map (mm_cv ad))))
    {pc : Nat} {L st : List Value} {h : mm_Hp} {o : Int} {a b c' : Nat} {v : Int32} {q : List (Int32 × Nat)} (hck : mm_ck own host TC cc nL ini rt Us Xs cl ft mt pc (.if_icmp .le o) a b c' v q = true) (hr : mm_ex E K pc L st h (.if_icmp .le o) a b c' v q = some (vv, h')) (hwf : mm_wf h) (hoL : ∀ v ∈ L, mm_okv (mm_n h) v) (hok : ∀ v ∈ st, mm_okv (mm_n h) v) :
    mm_Fin vv h h' ∧ ∀ H locs ad ls, mm_Pre s D cl ft cA A nL n0 z0 ad0 L st h H locs ad ls → W p l e R s m args below meth c H locs (mm_n h - n0) (mm_z h - z0) Q (F0 m pc ls (st.map (mm_cv ad))) := by
  obtain ⟨hx, hb, hml, hown, hts, hKk, hA, hCl, hUs, hini, hrt, hlk, hXs⟩ := X
  simp only [mm_ck, Bool.and_eq_true, decide_eq_true_eq] at hck
  simp only [mm_ex, mm_br] at hr
  split at hr
  · rename_i y x r
    split at hr
    · rename_i hc
      obtain ⟨F, w⟩ := hK _ _ _ _ hr hwf hoL (mm_tl (mm_tl hok))
      exact ⟨F, fun H locs ad ls P => lv_icmp_le hx hb hck.1 hck.2 (fun _ => w _ _ _ _ (P.stk (mm_tl (mm_tl hok)))) (fun q => absurd hc q)⟩
    · rename_i hc
      obtain ⟨F, w⟩ := hK _ _ _ _ hr hwf hoL (mm_tl (mm_tl hok))
      exact ⟨F, fun H locs ad ls P => lv_icmp_le hx hb hck.1 hck.2 (fun q => absurd q hc) (fun _ => w _ _ _ _ (P.stk (mm_tl (mm_tl hok))))⟩
  · cases hr
set_option maxHeartbeats 4000000 in
theorem mm_step_tableswitch {p : Program} {l : Launch} {e : Env} {R : Room} {s : State} {m : MethodId} {args : Array Value} {below : List Frame} {meth : Method} {c : Code} {Q : State → Prop} {cc : ByteArray} {nL : Nat} {ini : Bool} {rt : Option FieldType} {own host TC : String} {Ts Us Xs : List Cond} {D : va_G} {cl : List vw_C} {ft : Nat → Nat → FieldType} {cA : Nat → ClassId} {A : Nat → Prop} {n0 z0 : Nat} {ad0 : Nat → Nat} {mt : Nat → Option mm_Mi} {E : mm_Ev} {K : mm_Cf → Option mm_Rs} {vv : Option Value} {h' : mm_Hp}
    (X : mm_Cx p s m args meth c cc nL ini rt own TC Ts Us Xs D cl ft cA A)
    (hK : ∀ pc L st h, K (pc, L, st, h) = some (vv, h') → mm_wf h → (∀ v ∈ L, mm_okv (mm_n h) v) → (∀ v ∈ st, mm_okv (mm_n h) v) → mm_Fin vv h h' ∧ ∀ H locs ad ls, mm_Pre s D cl ft cA A nL n0 z0 ad0 L st h H locs ad ls → W p l e R s m args below meth c H locs (mm_n h - n0) (mm_z h - z0) Q (F0 m pc ls (st.map (mm_cv ad))))
    {pc : Nat} {L st : List Value} {h : mm_Hp} {d lo hi : Int} {os : Array Int} {a b c' : Nat} {v : Int32} {q : List (Int32 × Nat)} (hck : mm_ck own host TC cc nL ini rt Us Xs cl ft mt pc (.tableswitch d lo hi os) a b c' v q = true) (hr : mm_ex E K pc L st h (.tableswitch d lo hi os) a b c' v q = some (vv, h')) (hwf : mm_wf h) (hoL : ∀ v ∈ L, mm_okv (mm_n h) v) (hok : ∀ v ∈ st, mm_okv (mm_n h) v) :
    mm_Fin vv h h' ∧ ∀ H locs ad ls, mm_Pre s D cl ft cA A nL n0 z0 ad0 L st h H locs ad ls → W p l e R s m args below meth c H locs (mm_n h - n0) (mm_z h - z0) Q (F0 m pc ls (st.map (mm_cv ad))) := by
  obtain ⟨hx, hb, hml, hown, hts, hKk, hA, hCl, hUs, hini, hrt, hlk, hXs⟩ := X
  simp only [mm_ck, Bool.and_eq_true, decide_eq_true_eq] at hck
  obtain ⟨⟨⟨⟨hd, hdf⟩, hhi⟩, hln⟩, hall⟩ := hck
  simp only [mm_ex] at hr
  split at hr
  · rename_i x r
    have hj : ∀ (j : Nat) (u : Int32 × Nat), q[j]? = some u → ∃ o, os[j]? = some o ∧ u.1.toInt = lo + (j : Int) ∧ (pc : Int) + o = (u.2 : Int) := by
      intro j u hu
      have hjl : j < q.length := (List.getElem?_eq_some_iff.mp hu).1
      have h1 := List.all_eq_true.mp hall j (List.mem_range.mpr hjl)
      rw [hu, Array.getElem?_eq_getElem (show j < os.size by omega)] at h1
      simp only [Bool.and_eq_true, decide_eq_true_eq] at h1
      exact ⟨_, Array.getElem?_eq_getElem (show j < os.size by omega), h1.1, h1.2⟩
    rcases mm_sw_some hr with ⟨j, t, h1, h2⟩ | ⟨h1, h2⟩
    · obtain ⟨F, w⟩ := hK _ _ _ _ h2 hwf hoL (mm_tl hok)
      obtain ⟨o, g1, g2, g3⟩ := hj j _ h1
      have hjl : j < q.length := (List.getElem?_eq_some_iff.mp h1).1
      have g2 : x.toInt = lo + (j : Int) := g2
      refine ⟨F, fun H locs ad ls P => lv_tableIn hx hb hd (by omega) (by omega) ?_ g3 (w _ _ _ _ (P.stk (mm_tl hok)))⟩
      rw [show (x.toInt - lo).toNat = j by omega]
      exact g1
    · obtain ⟨F, w⟩ := hK _ _ _ _ h2 hwf hoL (mm_tl hok)
      refine ⟨F, fun H locs ad ls P => lv_tableOut hx hb hd ?_ hdf (w _ _ _ _ (P.stk (mm_tl hok)))⟩
      rcases Int.lt_or_le x.toInt lo with g | g
      · exact Or.inl g
      · rcases Int.lt_or_le hi x.toInt with g' | g'
        · exact Or.inr g'
        · exfalso
          have hjl : (x.toInt - lo).toNat < q.length := by omega
          obtain ⟨o, g1, g2, g3⟩ := hj _ _ (List.getElem?_eq_getElem hjl)
          refine h1 _ _ (List.getElem?_eq_getElem hjl) (Int32.toInt_inj.mp ?_)
          rw [g2]
          omega
  · cases hr
set_option maxHeartbeats 4000000 in
theorem mm_step_lookupswitch {p : Program} {l : Launch} {e : Env} {R : Room} {s : State} {m : MethodId} {args : Array Value} {below : List Frame} {meth : Method} {c : Code} {Q : State → Prop} {cc : ByteArray} {nL : Nat} {ini : Bool} {rt : Option FieldType} {own host TC : String} {Ts Us Xs : List Cond} {D : va_G} {cl : List vw_C} {ft : Nat → Nat → FieldType} {cA : Nat → ClassId} {A : Nat → Prop} {n0 z0 : Nat} {ad0 : Nat → Nat} {mt : Nat → Option mm_Mi} {E : mm_Ev} {K : mm_Cf → Option mm_Rs} {vv : Option Value} {h' : mm_Hp}
    (X : mm_Cx p s m args meth c cc nL ini rt own TC Ts Us Xs D cl ft cA A)
    (hK : ∀ pc L st h, K (pc, L, st, h) = some (vv, h') → mm_wf h → (∀ v ∈ L, mm_okv (mm_n h) v) → (∀ v ∈ st, mm_okv (mm_n h) v) → mm_Fin vv h h' ∧ ∀ H locs ad ls, mm_Pre s D cl ft cA A nL n0 z0 ad0 L st h H locs ad ls → W p l e R s m args below meth c H locs (mm_n h - n0) (mm_z h - z0) Q (F0 m pc ls (st.map (mm_cv ad))))
    {pc : Nat} {L st : List Value} {h : mm_Hp} {d : Int} {ps : Array (Int × Int)} {a b c' : Nat} {v : Int32} {q : List (Int32 × Nat)} (hck : mm_ck own host TC cc nL ini rt Us Xs cl ft mt pc (.lookupswitch d ps) a b c' v q = true) (hr : mm_ex E K pc L st h (.lookupswitch d ps) a b c' v q = some (vv, h')) (hwf : mm_wf h) (hoL : ∀ v ∈ L, mm_okv (mm_n h) v) (hok : ∀ v ∈ st, mm_okv (mm_n h) v) :
    mm_Fin vv h h' ∧ ∀ H locs ad ls, mm_Pre s D cl ft cA A nL n0 z0 ad0 L st h H locs ad ls → W p l e R s m args below meth c H locs (mm_n h - n0) (mm_z h - z0) Q (F0 m pc ls (st.map (mm_cv ad))) := by
  obtain ⟨hx, hb, hml, hown, hts, hKk, hA, hCl, hUs, hini, hrt, hlk, hXs⟩ := X
  simp only [mm_ck, Bool.and_eq_true, decide_eq_true_eq] at hck
  obtain ⟨⟨⟨hd, hdf⟩, hps⟩, hall⟩ := hck
  simp only [mm_ex] at hr
  split at hr
  · rename_i x r
    obtain ⟨t, h1, h2⟩ := mm_sw_look hdf hr
    obtain ⟨F, w⟩ := hK _ _ _ _ h1 hwf hoL (mm_tl hok)
    exact ⟨F, fun H locs ad ls P => lv_lookup hx hb hd hall (by rw [hps]) h2 (w _ _ _ _ (P.stk (mm_tl hok)))⟩
  · cases hr
