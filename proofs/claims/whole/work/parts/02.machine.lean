/-! ===== THE SMALL MACHINE: the same bytecode over a heap of numbered cells; a function, no relation ===== -/
/-- what a cell is: an object of class number c, or an array: tag (0 int, 1 byte, 2 boolean, 3 references) and length -/
abbrev mm_Sh : Type := Option (Nat ⊕ (Nat × Nat))
/-- cells made, slots made, shapes, whole numbers by cell and slot, references by cell and slot -/
abbrev mm_Hp : Type := Nat × Nat × (Nat → mm_Sh) × (Nat → Nat → Int32) × (Nat → Nat → Option Nat)
abbrev mm_Cf : Type := Nat × List Value × List Value × mm_Hp
abbrev mm_Rs : Type := Option Value × mm_Hp
abbrev mm_En : Type := Instr × Nat × Nat × Nat × Int32 × List (Int32 × Nat)
abbrev mm_Cs : Type := List (Nat × mm_En)
abbrev mm_Ev : Type := Nat → List Value → mm_Hp → Option mm_Rs
def mm_n (h : mm_Hp) : Nat := h.1
def mm_z (h : mm_Hp) : Nat := h.2.1
def mm_s (h : mm_Hp) : Nat → mm_Sh := h.2.2.1
def mm_I (h : mm_Hp) : Nat → Nat → Int32 := h.2.2.2.1
def mm_Rf (h : mm_Hp) : Nat → Nat → Option Nat := h.2.2.2.2
def mm_cp (h : mm_Hp) (q : Nat) (f : Nat → Int32) : mm_Hp := (h.1, h.2.1, h.2.2.1, va_up h.2.2.2.1 q f, h.2.2.2.2)
def mm_sI (h : mm_Hp) (q j : Nat) (v : Int32) : mm_Hp := mm_cp h q (upd (mm_I h q) j v)
def mm_sR (h : mm_Hp) (q j : Nat) (r : Option Nat) : mm_Hp := (h.1, h.2.1, h.2.2.1, h.2.2.2.1, va_up h.2.2.2.2 q (va_up (mm_Rf h q) j r))
def mm_nw (h : mm_Hp) (k : Nat) (sh : Nat ⊕ (Nat × Nat)) : mm_Hp := (h.1 + 1, h.2.1 + k, va_up h.2.2.1 h.1 (some sh), va_up h.2.2.2.1 h.1 (fun _ => 0), va_up h.2.2.2.2 h.1 (fun _ => none))
def mm_len (h : mm_Hp) (t q : Nat) : Nat := match mm_s h q with
  | some (.inr (t', n)) => if t' = t then n else 0
  | _ => 0
def mm_at : mm_Cs → Nat → Option mm_En
  | [], _ => none
  | (k, e) :: l, pc => match Nat.beq k pc with
    | true => some e
    | false => mm_at l pc
def mm_nth : List Value → Nat → Option Value
  | [], _ => none
  | v :: _, 0 => some v
  | _ :: l, i + 1 => mm_nth l i
def mm_pop : Nat → List Value → List Value → Option (List Value × List Value)
  | 0, acc, st => some (acc, st)
  | _ + 1, _, [] => none
  | k + 1, acc, v :: st => mm_pop k (v :: acc) st
/-! its acts, with what comes behind them -/
def mm_fI {α : Type} (h : mm_Hp) (q c k : Nat) (K : Int32 → Option α) : Option α := if mm_s h q = some (.inl c) then K (mm_I h q k) else none
def mm_fR {α : Type} (h : mm_Hp) (q c k : Nat) (K : Nat → Option α) : Option α := if mm_s h q = some (.inl c) then (mm_Rf h q k).bind K else none
def mm_pI {α : Type} (h : mm_Hp) (q c k : Nat) (v : Int32) (K : mm_Hp → Option α) : Option α := if mm_s h q = some (.inl c) then K (mm_sI h q k v) else none
def mm_pZ {α : Type} (h : mm_Hp) (q c k : Nat) (v : Int32) (K : mm_Hp → Option α) : Option α := if mm_s h q = some (.inl c) ∧ (v = 0 ∨ v = 1) then K (mm_sI h q k v) else none
def mm_pR {α : Type} (h : mm_Hp) (q c k : Nat) (r : Option Nat) (K : mm_Hp → Option α) : Option α := if mm_s h q = some (.inl c) then K (mm_sR h q k r) else none
def mm_ld {α : Type} (h : mm_Hp) (t q : Nat) (i : Int32) (K : Int32 → Option α) : Option α := if ¬ (i < 0 ∨ mm_len h t q ≤ i.toNatClampNeg) then K (mm_I h q i.toNatClampNeg) else none
def mm_st {α : Type} (h : mm_Hp) (t q : Nat) (i : Int32) (v : Int32) (K : mm_Hp → Option α) : Option α := if ¬ (i < 0 ∨ mm_len h t q ≤ i.toNatClampNeg) then K (mm_sI h q i.toNatClampNeg v) else none
def mm_lr {α : Type} (h : mm_Hp) (q : Nat) (i : Int32) (K : Nat → Option α) : Option α := if ¬ (i < 0 ∨ mm_len h 3 q ≤ i.toNatClampNeg) then (mm_Rf h q i.toNatClampNeg).bind K else none
def mm_sr {α : Type} (h : mm_Hp) (q c : Nat) (i : Int32) (r : Nat) (K : mm_Hp → Option α) : Option α := if ¬ (i < 0 ∨ mm_len h 3 q ≤ i.toNatClampNeg) ∧ mm_s h r = some (.inl c) then K (mm_sR h q i.toNatClampNeg (some r)) else none
def mm_al {α : Type} (h : mm_Hp) (q : Nat) (K : Int32 → Option α) : Option α := match mm_s h q with
  | some (.inr (_, n)) => K (Int32.ofNat n)
  | _ => none
def mm_na {α : Type} (h : mm_Hp) (t : Nat) (n : Int32) (K : mm_Hp → Option α) : Option α := if ¬ n < 0 ∧ n.toNatClampNeg ≤ 60000000 then K (mm_nw h n.toNatClampNeg (.inr (t, n.toNatClampNeg))) else none
def mm_dv {α : Type} (x y : Int32) (K : Int32 → Option α) : Option α := if y = 0 then none else K (x / y)
def mm_rm {α : Type} (x y : Int32) (K : Int32 → Option α) : Option α := if y = 0 then none else K (x - x / y * y)
def mm_sw {α : Type} (x : Int32) (K : Nat → Option α) (d : Nat) : List (Int32 × Nat) → Option α
  | [] => K d
  | (k, t) :: l => if x = k then K t else mm_sw x K d l
def mm_iv {α : Type} (E : mm_Ev) (h : mm_Hp) (c y : Nat) (as : List Value) (K : mm_Rs → Option α) : Option α := match as with
  | .ref q :: _ => if mm_s h q = some (.inl c) then (E y as h).bind K else none
  | _ => none
def mm_ip {α : Type} (E : mm_Ev) (h : mm_Hp) (y : Nat) (as : List Value) (K : mm_Rs → Option α) : Option α := match as with
  | .ref _ :: _ => (E y as h).bind K
  | _ => none
def mm_is {α : Type} (E : mm_Ev) (h : mm_Hp) (y : Nat) (as : List Value) (K : mm_Rs → Option α) : Option α := (E y as h).bind K
def mm_cy {α : Type} (h : mm_Hp) (q0 q1 : Nat) (sp dp n : Int32) (K : mm_Hp → Option α) : Option α :=
  if mm_s h q0 = some (.inr (1, mm_len h 1 q0)) ∧ mm_s h q1 = some (.inr (1, mm_len h 1 q1)) ∧ ¬ sp < 0 ∧ ¬ dp < 0 ∧ ¬ n < 0 ∧ sp.toNatClampNeg + n.toNatClampNeg ≤ mm_len h 1 q0 ∧ dp.toNatClampNeg + n.toNatClampNeg ≤ mm_len h 1 q1 ∧ (∀ i, i < n.toNatClampNeg → fits .byte (.int (mm_I h q0 (sp.toNatClampNeg + i))) = true)
  then K (mm_cp h q1 (va_cpy (mm_I h q0) (mm_I h q1) sp.toNatClampNeg dp.toNatClampNeg n.toNatClampNeg)) else none
def mm_zr (x : Int32) (h : mm_Hp) : Option mm_Rs := if x = 0 ∨ x = 1 then some (some (.int x), h) else none
def mm_br {α : Type} (cd : ClassFile.Cond) (x y : Int32) (T F : Option α) : Option α := match cd with
  | .eq => if x = y then T else F
  | .ne => if x = y then F else T
  | .lt => if x < y then T else F
  | .ge => if y ≤ x then T else F
  | .gt => if y < x then T else F
  | .le => if x ≤ y then T else F
/-- one instruction at pc (an entry: the instruction, three numbers, a constant, a switch's cases), and what comes behind it -/
def mm_ex (E : mm_Ev) (K : mm_Cf → Option mm_Rs) (pc : Nat) (ls st : List Value) (h : mm_Hp) (i : Instr) (a b c : Nat) (v : Int32) (l : List (Int32 × Nat)) : Option mm_Rs := match i with
  | .iconst _ => K (pc + 1, ls, .int v :: st, h)
  | .bipush _ => K (pc + 2, ls, .int v :: st, h)
  | .sipush _ => K (pc + 3, ls, .int v :: st, h)
  | .ldc _ => K (pc + 2, ls, .int v :: st, h)
  | .ldc_w _ => K (pc + 3, ls, .int v :: st, h)
  | .iload_n _ => match mm_nth ls a with
    | some (.int x) => K (pc + 1, ls, .int x :: st, h)
    | _ => none
  | .iload _ => match mm_nth ls a with
    | some (.int x) => K (pc + 2, ls, .int x :: st, h)
    | _ => none
  | .aload_n _ => match mm_nth ls a with
    | some (.ref q) => K (pc + 1, ls, .ref q :: st, h)
    | _ => none
  | .aload _ => match mm_nth ls a with
    | some (.ref q) => K (pc + 2, ls, .ref q :: st, h)
    | _ => none
  | .istore_n _ => match st with
    | .int x :: r => K (pc + 1, ls.set a (.int x), r, h)
    | _ => none
  | .istore _ => match st with
    | .int x :: r => K (pc + 2, ls.set a (.int x), r, h)
    | _ => none
  | .astore_n _ => match st with
    | .ref q :: r => K (pc + 1, ls.set a (.ref q), r, h)
    | _ => none
  | .iinc _ _ => match mm_nth ls a with
    | some (.int x) => K (pc + 3, ls.set a (.int (x + v)), st, h)
    | _ => none
  | .iadd => match st with
    | .int y :: .int x :: r => K (pc + 1, ls, .int (x + y) :: r, h)
    | _ => none
  | .isub => match st with
    | .int y :: .int x :: r => K (pc + 1, ls, .int (x - y) :: r, h)
    | _ => none
  | .imul => match st with
    | .int y :: .int x :: r => K (pc + 1, ls, .int (x * y) :: r, h)
    | _ => none
  | .iand => match st with
    | .int y :: .int x :: r => K (pc + 1, ls, .int (x &&& y) :: r, h)
    | _ => none
  | .ior => match st with
    | .int y :: .int x :: r => K (pc + 1, ls, .int (x ||| y) :: r, h)
    | _ => none
  | .ishl => match st with
    | .int y :: .int x :: r => K (pc + 1, ls, .int (x <<< (y &&& 31)) :: r, h)
    | _ => none
  | .ishr => match st with
    | .int y :: .int x :: r => K (pc + 1, ls, .int (x >>> (y &&& 31)) :: r, h)
    | _ => none
  | .iushr => match st with
    | .int y :: .int x :: r => K (pc + 1, ls, .int ((x.toUInt32 >>> (y.toUInt32 &&& Int32.toUInt32 31)).toInt32) :: r, h)
    | _ => none
  | .idiv => match st with
    | .int y :: .int x :: r => mm_dv x y fun z => K (pc + 1, ls, .int z :: r, h)
    | _ => none
  | .irem => match st with
    | .int y :: .int x :: r => mm_rm x y fun z => K (pc + 1, ls, .int z :: r, h)
    | _ => none
  | .ineg => match st with
    | .int x :: r => K (pc + 1, ls, .int (-x) :: r, h)
    | _ => none
  | .i2b => match st with
    | .int x :: r => K (pc + 1, ls, .int x.toInt8.toInt32 :: r, h)
    | _ => none
  | .dup => match st with
    | x :: r => K (pc + 1, ls, x :: x :: r, h)
    | _ => none
  | .dup2 => match st with
    | x :: y :: r => K (pc + 1, ls, x :: y :: x :: y :: r, h)
    | _ => none
  | .pop => match st with
    | _ :: r => K (pc + 1, ls, r, h)
    | _ => none
  | .goto _ => K (a, ls, st, h)
  | .ifCond cd _ => match st with
    | .int x :: r => mm_br cd x 0 (K (a, ls, r, h)) (K (pc + 3, ls, r, h))
    | _ => none
  | .if_icmp cd _ => match st with
    | .int y :: .int x :: r => mm_br cd x y (K (a, ls, r, h)) (K (pc + 3, ls, r, h))
    | _ => none
  | .tableswitch _ _ _ _ => match st with
    | .int x :: r => mm_sw x (fun t => K (t, ls, r, h)) a l
    | _ => none
  | .lookupswitch _ _ => match st with
    | .int x :: r => mm_sw x (fun t => K (t, ls, r, h)) a l
    | _ => none
  | .getfield _ => match st with
    | .ref q :: r => match c with
      | 1 => mm_fR h q a b fun x => K (pc + 3, ls, .ref x :: r, h)
      | _ => mm_fI h q a b fun x => K (pc + 3, ls, .int x :: r, h)
    | _ => none
  | .putfield _ => match st with
    | .int x :: .ref q :: r => match c with
      | 0 => mm_pI h q a b x fun h' => K (pc + 3, ls, r, h')
      | 2 => mm_pZ h q a b x fun h' => K (pc + 3, ls, r, h')
      | _ => none
    | .ref x :: .ref q :: r => match c with
      | 1 => mm_pR h q a b (some x) fun h' => K (pc + 3, ls, r, h')
      | _ => none
    | _ => none
  | .iaload => match st with
    | .int i :: .ref q :: r => mm_ld h 0 q i fun x => K (pc + 1, ls, .int x :: r, h)
    | _ => none
  | .baload => match st with
    | .int i :: .ref q :: r => match a with
      | 1 => mm_ld h 1 q i fun x => K (pc + 1, ls, .int x :: r, h)
      | 2 => mm_ld h 2 q i fun x => K (pc + 1, ls, .int x :: r, h)
      | _ => none
    | _ => none
  | .iastore => match st with
    | .int x :: .int i :: .ref q :: r => mm_st h 0 q i x fun h' => K (pc + 1, ls, r, h')
    | _ => none
  | .bastore => match st with
    | .int x :: .int i :: .ref q :: r => match a with
      | 1 => mm_st h 1 q i x.toInt8.toInt32 fun h' => K (pc + 1, ls, r, h')
      | 2 => mm_st h 2 q i (vp_nar .boolean x) fun h' => K (pc + 1, ls, r, h')
      | _ => none
    | _ => none
  | .aaload => match st with
    | .int i :: .ref q :: r => mm_lr h q i fun x => K (pc + 1, ls, .ref x :: r, h)
    | _ => none
  | .aastore => match st with
    | .ref x :: .int i :: .ref q :: r => mm_sr h q a i x fun h' => K (pc + 1, ls, r, h')
    | _ => none
  | .arraylength => match st with
    | .ref q :: r => mm_al h q fun x => K (pc + 1, ls, .int x :: r, h)
    | _ => none
  | .newarray _ => match st with
    | .int n :: r => mm_na h a n fun h' => K (pc + 2, ls, .ref h.1 :: r, h')
    | _ => none
  | .anewarray _ => match st with
    | .int n :: r => mm_na h 3 n fun h' => K (pc + 3, ls, .ref h.1 :: r, h')
    | _ => none
  | .new _ => K (pc + 3, ls, .ref h.1 :: st, mm_nw h b (.inl a))
  | .invokevirtual _ => match mm_pop b [] st with
    | some (as, r) => match Nat.ble r.length 8 with
      | true => mm_iv E h c a as fun u => K (pc + 3, ls, u.1.toList ++ r, u.2)
      | false => none
    | none => none
  | .invokespecial _ => match c with
    | 3 => match st with
      | .ref _ :: r => match Nat.ble r.length 8 with
        | true => K (pc + 3, ls, r, h)
        | false => none
      | _ => none
    | _ => match mm_pop b [] st with
      | some (as, r) => match Nat.ble r.length 8 with
        | true => mm_ip E h a as fun u => K (pc + 3, ls, u.1.toList ++ r, u.2)
        | false => none
      | none => none
  | .invokestatic _ => match c with
    | 1 => match st with
      | .int n :: .int dp :: .ref q1 :: .int sp :: .ref q0 :: r => match Nat.ble r.length 8 with
        | true => mm_cy h q0 q1 sp dp n fun h' => K (pc + 3, ls, r, h')
        | false => none
      | _ => none
    | 4 => match st with
      | .int y :: .int x :: r => match Nat.ble r.length 8 with
        | true => K (pc + 3, ls, .int (if x < y then y else x) :: r, h)
        | false => none
      | _ => none
    | 5 => match st with
      | .int y :: .int x :: r => match Nat.ble r.length 8 with
        | true => K (pc + 3, ls, .int (if y < x then y else x) :: r, h)
        | false => none
      | _ => none
    | _ => match mm_pop b [] st with
      | some (as, r) => match Nat.ble r.length 8 with
        | true => mm_is E h a as fun u => K (pc + 3, ls, u.1.toList ++ r, u.2)
        | false => none
      | none => none
  | .ireturn => match st with
    | [.int x] => match a with
      | 0 => some (some (.int x), h)
      | _ => mm_zr x h
    | _ => none
  | .areturn => match st with
    | [.ref q] => some (some (.ref q), h)
    | _ => none
  | .return_ => match st with
    | [] => some (none, h)
    | _ => none
  | _ => none
def mm_sk (E : mm_Ev) (cs : mm_Cs) (K : mm_Cf → Option mm_Rs) (x : mm_Cf) : Option mm_Rs := match mm_at cs x.1 with
  | some (i, a, b, c, v, l) => mm_ex E K x.1 x.2.1 x.2.2.1 x.2.2.2 i a b c v l
  | none => none
def mm_rn (E : mm_Ev) (cs : mm_Cs) : Nat → mm_Cf → Option mm_Rs
  | 0, _ => none
  | n + 1, x => mm_sk E cs (mm_rn E cs n) x
def mm_uk (E : mm_Ev) (cs : mm_Cs) (K : mm_Cf → Option mm_Rs) : Nat → mm_Cf → Option mm_Rs
  | 0, x => K x
  | n + 1, x => mm_sk E cs (mm_uk E cs K n) x
/-- what comes out at some fuel -/
noncomputable def mm_lim {α : Type} (f : Nat → Option α) : Option α := @dite _ (∃ (n : Nat) (r : α), f n = some r) (Classical.propDecidable _) (fun h => f (Classical.choose h)) (fun _ => none)
noncomputable def mm_rx (E : mm_Ev) (cs : mm_Cs) (x : mm_Cf) : Option mm_Rs := mm_lim (fun n => mm_rn E cs n x)
theorem mm_lim_of {α : Type} {f : Nat → Option α} (hm : ∀ n r, f n = some r → f (n + 1) = some r) {n : Nat} {r : α} (h : f n = some r) : mm_lim f = some r := by
  have up : ∀ (k a : Nat) (w : α), f a = some w → f (a + k) = some w := by
    intro k
    induction k with
    | zero => intro a w q; exact q
    | succ k ih => intro a w q; exact hm _ _ (ih a w q)
  have hx : ∃ (n : Nat) (r : α), f n = some r := ⟨n, r, h⟩
  have e : mm_lim f = f (Classical.choose hx) := by
    unfold mm_lim
    exact dif_pos hx
  obtain ⟨w, hw⟩ := Classical.choose_spec hx
  rw [e, hw]
  have h1 := up n _ _ hw
  have h2 := up (Classical.choose hx) _ _ h
  rw [Nat.add_comm] at h2
  rw [h1] at h2
  exact h2
theorem mm_lim_some {α : Type} {f : Nat → Option α} {r : α} (h : mm_lim f = some r) : ∃ n, f n = some r := by
  by_cases hx : ∃ (n : Nat) (r : α), f n = some r
  · have e : mm_lim f = f (Classical.choose hx) := by
      unfold mm_lim
      exact dif_pos hx
    exact ⟨_, e.symm.trans h⟩
  · have e : mm_lim f = none := by
      unfold mm_lim
      exact dif_neg hx
    rw [e] at h
    cases h
/-- one instruction goes on at one place, or ends, or is stuck, whatever comes behind it -/
def mm_Fm (f : (mm_Cf → Option mm_Rs) → Option mm_Rs) : Prop := (∃ y, ∀ K, f K = K y) ∨ (∃ r, ∀ K, f K = some r) ∨ ∀ K, f K = none
theorem mm_Fm.K (y : mm_Cf) : mm_Fm (fun K => K y) := Or.inl ⟨y, fun _ => rfl⟩
theorem mm_Fm.N : mm_Fm (fun _ => none) := Or.inr (Or.inr fun _ => rfl)
theorem mm_Fm.R (r : mm_Rs) : mm_Fm (fun _ => some r) := Or.inr (Or.inl ⟨r, fun _ => rfl⟩)
theorem mm_Fm.if {P : Prop} {f g : (mm_Cf → Option mm_Rs) → Option mm_Rs} (i : Decidable P) (hf : mm_Fm f) (hg : mm_Fm g) : mm_Fm (fun K => @ite _ P i (f K) (g K)) := by
  by_cases h : P
  · have e : (fun K => @ite _ P i (f K) (g K)) = f := by funext K; exact if_pos h
    rw [e]; exact hf
  · have e : (fun K => @ite _ P i (f K) (g K)) = g := by funext K; exact if_neg h
    rw [e]; exact hg
theorem mm_Fm.bind {o : Option mm_Rs} {f : mm_Rs → mm_Cf} : mm_Fm (fun K => o.bind fun u => K (f u)) := by
  cases o with
  | none => exact mm_Fm.N
  | some u => exact mm_Fm.K (f u)
theorem mm_Fm.bindn {o : Option Nat} {f : Nat → mm_Cf} : mm_Fm (fun K => o.bind fun u => K (f u)) := by
  cases o with
  | none => exact mm_Fm.N
  | some u => exact mm_Fm.K (f u)
theorem mm_Fm.sw {x : Int32} {f : Nat → mm_Cf} {d : Nat} : ∀ (l : List (Int32 × Nat)), mm_Fm (fun K => mm_sw x (fun t => K (f t)) d l)
  | [] => mm_Fm.K _
  | (k, t) :: l => mm_Fm.if _ (mm_Fm.K _) (mm_Fm.sw l)
theorem mm_Fm.br {cd : ClassFile.Cond} {x y : Int32} {a b : mm_Cf} : mm_Fm (fun K => mm_br cd x y (K a) (K b)) := by
  cases cd <;> exact mm_Fm.if _ (mm_Fm.K _) (mm_Fm.K _)
set_option maxHeartbeats 4000000 in
theorem mm_ex_form (E : mm_Ev) (pc : Nat) (ls st : List Value) (h : mm_Hp) (i : Instr) (a b c : Nat) (v : Int32) (l : List (Int32 × Nat)) : mm_Fm (fun K => mm_ex E K pc ls st h i a b c v l) := by
  unfold mm_ex
  split <;> (try exact mm_Fm.N) <;> (try exact mm_Fm.K _) <;> (repeat' split) <;> (try exact mm_Fm.N) <;> (try exact mm_Fm.K _) <;> (try exact mm_Fm.R _) <;> (try exact mm_Fm.br) <;> (try exact mm_Fm.sw _) <;> (try exact mm_Fm.bind) <;> (try exact mm_Fm.if _ mm_Fm.bindn mm_Fm.N) <;> (try exact mm_Fm.if _ (mm_Fm.K _) mm_Fm.N) <;> (try exact mm_Fm.if _ mm_Fm.N (mm_Fm.K _))
  · unfold mm_al
    split
    · exact mm_Fm.K _
    · exact mm_Fm.N
  · unfold mm_iv
    split
    · exact mm_Fm.if _ mm_Fm.bind mm_Fm.N
    · exact mm_Fm.N
  · unfold mm_ip
    split
    · exact mm_Fm.bind
    · exact mm_Fm.N
  · unfold mm_zr
    exact mm_Fm.if _ (mm_Fm.R _) mm_Fm.N
theorem mm_sk_form (E : mm_Ev) (cs : mm_Cs) (x : mm_Cf) : mm_Fm (fun K => mm_sk E cs K x) := by
  unfold mm_sk
  split
  · exact mm_ex_form _ _ _ _ _ _ _ _ _ _ _
  · exact mm_Fm.N
theorem mm_rn_up (E : mm_Ev) (cs : mm_Cs) : ∀ (n : Nat) (x : mm_Cf) (r : mm_Rs), mm_rn E cs n x = some r → mm_rn E cs (n + 1) x = some r
  | 0, x, r, h => by cases h
  | n + 1, x, r, h => by
    show mm_sk E cs (mm_rn E cs (n + 1)) x = some r
    have h : mm_sk E cs (mm_rn E cs n) x = some r := h
    rcases mm_sk_form E cs x with ⟨y, hy⟩ | ⟨r', hy⟩ | hy
    · have e1 : mm_rn E cs n y = some r := (hy _).symm.trans h
      exact (hy _).trans (mm_rn_up E cs n y r e1)
    · exact (hy _).trans ((hy _).symm.trans h)
    · exact absurd ((hy _).symm.trans h) (by simp)
theorem mm_rx_of {E : mm_Ev} {cs : mm_Cs} {n : Nat} {x : mm_Cf} {r : mm_Rs} (h : mm_rn E cs n x = some r) : mm_rx E cs x = some r := mm_lim_of (fun n r => mm_rn_up E cs n x r) h
theorem mm_rx_some {E : mm_Ev} {cs : mm_Cs} {x : mm_Cf} {r : mm_Rs} (h : mm_rx E cs x = some r) : ∃ n, mm_rn E cs n x = some r := mm_lim_some h
theorem mm_rx_eq (E : mm_Ev) (cs : mm_Cs) (x : mm_Cf) : mm_rx E cs x = mm_sk E cs (mm_rx E cs) x := by
  have a : ∀ r, mm_rx E cs x = some r → mm_sk E cs (mm_rx E cs) x = some r := by
    intro r h
    obtain ⟨n, hn⟩ := mm_rx_some h
    cases n with
    | zero => cases hn
    | succ n =>
      have hn : mm_sk E cs (mm_rn E cs n) x = some r := hn
      rcases mm_sk_form E cs x with ⟨y, hy⟩ | ⟨r', hy⟩ | hy
      · exact (hy _).trans (mm_rx_of ((hy _).symm.trans hn))
      · exact (hy _).trans ((hy _).symm.trans hn)
      · exact absurd ((hy _).symm.trans hn) (by simp)
  have b : ∀ r, mm_sk E cs (mm_rx E cs) x = some r → mm_rx E cs x = some r := by
    intro r h
    rcases mm_sk_form E cs x with ⟨y, hy⟩ | ⟨r', hy⟩ | hy
    · obtain ⟨n, hn⟩ := mm_rx_some ((hy _).symm.trans h)
      exact mm_rx_of (n := n + 1) (show mm_sk E cs (mm_rn E cs n) x = some r from (hy _).trans hn)
    · exact mm_rx_of (n := 1) (show mm_sk E cs (mm_rn E cs 0) x = some r from (hy _).trans ((hy _).symm.trans h))
    · exact absurd ((hy _).symm.trans h) (by simp)
  cases h1 : mm_rx E cs x with
  | some r => exact (a r h1).symm
  | none =>
    cases h2 : mm_sk E cs (mm_rx E cs) x with
    | none => rfl
    | some r => rw [b r h2] at h1; cases h1
/-- k instructions at once -/
theorem mm_rx_u (E : mm_Ev) (cs : mm_Cs) : ∀ (k : Nat) (x : mm_Cf), mm_rx E cs x = mm_uk E cs (mm_rx E cs) k x
  | 0, _ => rfl
  | k + 1, x => by
    show mm_rx E cs x = mm_sk E cs (mm_uk E cs (mm_rx E cs) k) x
    have e : mm_uk E cs (mm_rx E cs) k = mm_rx E cs := funext fun y => (mm_rx_u E cs k y).symm
    rw [e]
    exact mm_rx_eq E cs x
/-- a method: its name, bytes, locals, answer's type, how many values it takes (the receiver counted), its kind (0 static, 1 virtual, 2 a constructor), its entries -/
abbrev mm_Mi : Type := MethodName × ByteArray × Nat × Option FieldType × Nat × Nat × mm_Cs
noncomputable def mm_ev (mt : Nat → Option mm_Mi) : Nat → mm_Ev
  | 0 => fun _ _ _ => none
  | d + 1 => fun y as h => match mt y with
    | some (_, _, nL, _, _, _, cs) => mm_rx (mm_ev mt d) cs (0, as ++ List.replicate (nL - as.length) (.retAddr 0), [], h)
    | none => none
