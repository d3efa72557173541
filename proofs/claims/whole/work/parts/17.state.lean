/-! ===== THE STATE: 70 cells of the class, 25 of the reference ===== -/
def st_sl : List (Nat ⊕ (Nat × Nat)) := [.inl 10, .inl 0, .inr (0, 4800), .inr (0, 10), .inl 9, .inr (1, 6000), .inl 5, .inr (0, 300), .inr (0, 192), .inl 2, .inr (0, 3), .inr (0, 3), .inl 7, .inl 3, .inr (0, 3), .inl 2, .inr (0, 3), .inr (0, 3), .inr (3, 8), .inr (0, 3), .inl 8, .inr (0, 17), .inr (0, 256), .inl 8, .inr (0, 17), .inr (0, 256), .inl 8, .inr (0, 17), .inr (0, 256), .inl 8, .inr (0, 17), .inr (0, 256), .inl 8, .inr (0, 17), .inr (0, 256), .inl 8, .inr (0, 17), .inr (0, 256), .inl 8, .inr (0, 17), .inr (0, 256), .inl 8, .inr (0, 17), .inr (0, 256), .inl 4, .inr (0, 3), .inr (0, 1000), .inr (0, 64), .inl 1, .inr (0, 3), .inr (0, 3), .inr (0, 3), .inr (0, 3), .inr (0, 3), .inr (0, 3), .inr (0, 6912), .inr (0, 192), .inl 1, .inr (0, 3), .inr (0, 3), .inr (0, 3), .inr (0, 3), .inr (0, 3), .inr (0, 3), .inr (0, 6912), .inr (0, 192), .inl 6, .inr (1, 12000), .inl 6, .inr (1, 12000), .inl 11, .inr (0, 6000), .inr (1, 12000), .inr (0, 2), .inr (0, 2), .inr (0, 2), .inr (0, 2), .inr (0, 2), .inr (0, 6), .inr (0, 6), .inr (0, 6), .inr (0, 13824), .inr (0, 9600), .inr (0, 384), .inr (0, 300), .inr (0, 192), .inr (0, 3), .inr (1, 12000), .inr (0, 136), .inr (0, 2048), .inr (2, 8), .inr (0, 3), .inr (1, 1100), .inr (1, 64), .inr (0, 4800)]
def st_sh : Nat → mm_Sh := fun q => st_sl[q]?
def st_rl : List (Nat × Nat × Nat) := [(0, 0, 4), (0, 1, 6), (0, 2, 9), (0, 3, 12), (0, 4, 44), (1, 0, 2), (1, 1, 3), (4, 0, 5), (6, 0, 7), (6, 1, 8), (9, 6, 10), (9, 7, 11), (12, 0, 4), (12, 1, 13), (12, 2, 15), (12, 3, 18), (12, 4, 19), (13, 0, 4), (13, 1, 1), (13, 2, 14), (15, 6, 16), (15, 7, 17), (18, 0, 20), (18, 1, 23), (18, 2, 26), (18, 3, 29), (18, 4, 32), (18, 5, 35), (18, 6, 38), (18, 7, 41), (20, 0, 21), (20, 1, 22), (23, 0, 24), (23, 1, 25), (26, 0, 27), (26, 1, 28), (29, 0, 30), (29, 1, 31), (32, 0, 33), (32, 1, 34), (35, 0, 36), (35, 1, 37), (38, 0, 39), (38, 1, 40), (41, 0, 42), (41, 1, 43), (44, 0, 1), (44, 1, 45), (44, 2, 46), (44, 3, 47), (48, 7, 49), (48, 8, 50), (48, 9, 51), (48, 10, 52), (48, 11, 53), (48, 12, 54), (48, 13, 55), (48, 14, 56), (57, 7, 58), (57, 8, 59), (57, 9, 60), (57, 10, 61), (57, 11, 62), (57, 12, 63), (57, 13, 64), (57, 14, 65), (66, 0, 67), (68, 0, 69), (70, 1, 71), (70, 3, 72), (70, 5, 73), (70, 6, 74), (70, 7, 75), (70, 8, 76), (70, 9, 77), (70, 10, 78), (70, 11, 79), (70, 12, 80), (70, 13, 81), (70, 14, 82), (70, 15, 83), (70, 17, 84), (70, 19, 85), (70, 29, 86), (70, 41, 87), (70, 44, 88), (70, 45, 89), (70, 46, 90), (70, 47, 91), (70, 49, 92), (70, 51, 93), (70, 53, 94)]
def st_lk : List (Nat × Nat × Nat) → Nat → Nat → Option Nat
  | [], _, _ => none
  | (k, i, x) :: l, q, j => match Nat.beq k q && Nat.beq i j with
    | true => some x
    | false => st_lk l q j
/-- the references that change: shown, spare, written, draft; what reader and writers hold -/
def st_R (a b w v : Nat) (p : Nat → Option Nat) : Nat → Nat → Option Nat := fun q j =>
  if q = 0 ∧ j = 5 then some a else if q = 0 ∧ j = 6 then some b else if q = 0 ∧ j = 7 then some w else if q = 0 ∧ j = 8 then some v
  else if q = 12 ∧ j = 5 then p 0 else if q = 13 ∧ j = 3 then p 1 else if q = 13 ∧ j = 4 then p 2 else if q = 13 ∧ j = 5 then p 3 else if q = 44 ∧ j = 4 then p 4 else if q = 44 ∧ j = 5 then p 5 else if q = 44 ∧ j = 6 then p 6
  else st_lk st_rl q j
def st_mx (X M : Nat → Nat → Int32) : Nat → Nat → Int32 := fun q => if q < 70 then X q else M q
def st_h (z : Nat) (X M : Nat → Nat → Int32) (R : Nat → Nat → Option Nat) : mm_Hp := (95, z, st_sh, st_mx X M, R)
def st_u (F : Nat → Nat → Int32) (q k : Nat) (v : Int32) : Nat → Nat → Int32 := va_up F q (upd (F q) k v)
theorem st_u_at (F : Nat → Nat → Int32) (q k : Nat) (v : Int32) (a j : Nat) : st_u F q k v a j = if a = q ∧ j = k then v else F a j := by
  unfold st_u
  by_cases ha : a = q
  · subst ha
    rw [va_up_self]
    by_cases hj : j = k <;> simp [upd, hj]
  · rw [va_up_ne _ _ ha]
    simp [ha]
theorem st_u_o {F : Nat → Nat → Int32} {q k : Nat} {v : Int32} {a : Nat} (h : a ≠ q) : st_u F q k v a = F a := va_up_ne _ _ h
section
variable {α : Type} {z : Nat} {X M : Nat → Nat → Int32} {R : Nat → Nat → Option Nat}
theorem st_IX {q : Nat} (h : q < 70) : mm_I (st_h z X M R) q = X q := if_pos h
theorem st_IM {q : Nat} (h : 70 ≤ q) : mm_I (st_h z X M R) q = M q := if_neg (Nat.not_lt.mpr h)
theorem st_cX {q : Nat} (h : q < 70) (f : Nat → Int32) : mm_cp (st_h z X M R) q f = st_h z (va_up X q f) M R := by
  have e : va_up (st_mx X M) q f = st_mx (va_up X q f) M := by
    funext k
    by_cases hk : k = q
    · subst hk
      rw [va_up_self]
      exact ((if_pos h).trans (va_up_self _ _ _)).symm
    · rw [va_up_ne _ _ hk]
      unfold st_mx
      rw [va_up_ne _ _ hk]
  show (95, z, st_sh, va_up (st_mx X M) q f, R) = _
  rw [e]
  rfl
theorem st_cM {q : Nat} (h : 70 ≤ q) (f : Nat → Int32) : mm_cp (st_h z X M R) q f = st_h z X (va_up M q f) R := by
  have e : va_up (st_mx X M) q f = st_mx X (va_up M q f) := by
    funext k
    by_cases hk : k = q
    · subst hk
      rw [va_up_self]
      exact ((if_neg (Nat.not_lt.mpr h)).trans (va_up_self _ _ _)).symm
    · rw [va_up_ne _ _ hk]
      unfold st_mx
      rw [va_up_ne _ _ hk]
  show (95, z, st_sh, va_up (st_mx X M) q f, R) = _
  rw [e]
  rfl
theorem st_sX {q : Nat} (h : q < 70) (j : Nat) (v : Int32) : mm_sI (st_h z X M R) q j v = st_h z (st_u X q j v) M R := by
  unfold mm_sI
  rw [st_IX h, st_cX h]
  rfl
theorem st_sM {q : Nat} (h : 70 ≤ q) (j : Nat) (v : Int32) : mm_sI (st_h z X M R) q j v = st_h z X (st_u M q j v) R := by
  unfold mm_sI
  rw [st_IM h, st_cM h]
  rfl
/-! the acts, over a cell of the class (q below 70) or of the reference -/
theorem st_fIX {q c k : Nat} {K : Int32 → Option α} (h : q < 70) (hs : st_sh q = some (.inl c)) : mm_fI (st_h z X M R) q c k K = K (X q k) := by
  unfold mm_fI
  rw [if_pos (show mm_s (st_h z X M R) q = _ from hs), st_IX h]
theorem st_fIM {q c k : Nat} {K : Int32 → Option α} (h : 70 ≤ q) (hs : st_sh q = some (.inl c)) : mm_fI (st_h z X M R) q c k K = K (M q k) := by
  unfold mm_fI
  rw [if_pos (show mm_s (st_h z X M R) q = _ from hs), st_IM h]
theorem st_fR {q c k r : Nat} {K : Nat → Option α} (hs : st_sh q = some (.inl c)) (hr : R q k = some r) : mm_fR (st_h z X M R) q c k K = K r := by
  unfold mm_fR
  rw [if_pos (show mm_s (st_h z X M R) q = _ from hs), show mm_Rf (st_h z X M R) q k = some r from hr]
  rfl
theorem st_pIX {q c k : Nat} {v : Int32} {K : mm_Hp → Option α} (h : q < 70) (hs : st_sh q = some (.inl c)) : mm_pI (st_h z X M R) q c k v K = K (st_h z (st_u X q k v) M R) := by
  unfold mm_pI
  rw [if_pos (show mm_s (st_h z X M R) q = _ from hs), st_sX h]
theorem st_pIM {q c k : Nat} {v : Int32} {K : mm_Hp → Option α} (h : 70 ≤ q) (hs : st_sh q = some (.inl c)) : mm_pI (st_h z X M R) q c k v K = K (st_h z X (st_u M q k v) R) := by
  unfold mm_pI
  rw [if_pos (show mm_s (st_h z X M R) q = _ from hs), st_sM h]
theorem st_pZX {q c k : Nat} {v : Int32} {K : mm_Hp → Option α} (h : q < 70) (hs : st_sh q = some (.inl c)) (hv : v = 0 ∨ v = 1) : mm_pZ (st_h z X M R) q c k v K = K (st_h z (st_u X q k v) M R) := by
  unfold mm_pZ
  rw [if_pos ⟨(show mm_s (st_h z X M R) q = _ from hs), hv⟩, st_sX h]
theorem st_pZM {q c k : Nat} {v : Int32} {K : mm_Hp → Option α} (h : 70 ≤ q) (hs : st_sh q = some (.inl c)) (hv : v = 0 ∨ v = 1) : mm_pZ (st_h z X M R) q c k v K = K (st_h z X (st_u M q k v) R) := by
  unfold mm_pZ
  rw [if_pos ⟨(show mm_s (st_h z X M R) q = _ from hs), hv⟩, st_sM h]
theorem st_len {t q n : Nat} (hs : st_sh q = some (.inr (t, n))) : mm_len (st_h z X M R) t q = n := by
  unfold mm_len
  rw [show mm_s (st_h z X M R) q = _ from hs]
  exact if_pos rfl
theorem st_ldX {t q n : Nat} {i : Int32} {K : Int32 → Option α} (h : q < 70) (hs : st_sh q = some (.inr (t, n))) (hi : vp_in i n) : mm_ld (st_h z X M R) t q i K = K (X q i.toNatClampNeg) := by
  unfold mm_ld
  rw [st_len hs, if_pos (show ¬ _ from hi), st_IX h]
theorem st_ldM {t q n : Nat} {i : Int32} {K : Int32 → Option α} (h : 70 ≤ q) (hs : st_sh q = some (.inr (t, n))) (hi : vp_in i n) : mm_ld (st_h z X M R) t q i K = K (M q i.toNatClampNeg) := by
  unfold mm_ld
  rw [st_len hs, if_pos (show ¬ _ from hi), st_IM h]
theorem st_stX {t q n : Nat} {i v : Int32} {K : mm_Hp → Option α} (h : q < 70) (hs : st_sh q = some (.inr (t, n))) (hi : vp_in i n) : mm_st (st_h z X M R) t q i v K = K (st_h z (st_u X q i.toNatClampNeg v) M R) := by
  unfold mm_st
  rw [st_len hs, if_pos (show ¬ _ from hi), st_sX h]
theorem st_stM {t q n : Nat} {i v : Int32} {K : mm_Hp → Option α} (h : 70 ≤ q) (hs : st_sh q = some (.inr (t, n))) (hi : vp_in i n) : mm_st (st_h z X M R) t q i v K = K (st_h z X (st_u M q i.toNatClampNeg v) R) := by
  unfold mm_st
  rw [st_len hs, if_pos (show ¬ _ from hi), st_sM h]
theorem st_al {t q n : Nat} {K : Int32 → Option α} (hs : st_sh q = some (.inr (t, n))) : mm_al (st_h z X M R) q K = K (Int32.ofNat n) := by
  unfold mm_al
  rw [show mm_s (st_h z X M R) q = _ from hs]
theorem st_lr {q n r : Nat} {i : Int32} {K : Nat → Option α} (hs : st_sh q = some (.inr (3, n))) (hi : vp_in i n) (hr : R q i.toNatClampNeg = some r) : mm_lr (st_h z X M R) q i K = K r := by
  unfold mm_lr
  rw [st_len hs, if_pos (show ¬ _ from hi), show mm_Rf (st_h z X M R) q i.toNatClampNeg = some r from hr]
  rfl
theorem st_pR {q c k : Nat} {r : Option Nat} {K : mm_Hp → Option α} (hs : st_sh q = some (.inl c)) : mm_pR (st_h z X M R) q c k r K = K (st_h z X M (va_up R q (va_up (R q) k r))) := by
  unfold mm_pR
  rw [if_pos (show mm_s (st_h z X M R) q = _ from hs)]
  rfl
theorem st_iv {E : mm_Ev} {c y q : Nat} {as : List Value} {r : mm_Rs} {K : mm_Rs → Option α} (hs : st_sh q = some (.inl c)) (he : E y (.ref q :: as) (st_h z X M R) = some r) : mm_iv E (st_h z X M R) c y (.ref q :: as) K = K r := by
  unfold mm_iv
  show (if mm_s (st_h z X M R) q = some (.inl c) then _ else _) = _
  rw [if_pos (show mm_s (st_h z X M R) q = _ from hs), he]
  rfl
theorem st_is {E : mm_Ev} {y : Nat} {h : mm_Hp} {as : List Value} {r : mm_Rs} {K : mm_Rs → Option α} (he : E y as h = some r) : mm_is E h y as K = K r := by
  unfold mm_is
  rw [he]
  rfl
theorem st_ip {E : mm_Ev} {y q : Nat} {h : mm_Hp} {as : List Value} {r : mm_Rs} {K : mm_Rs → Option α} (he : E y (.ref q :: as) h = some r) : mm_ip E h y (.ref q :: as) K = K r := by
  unfold mm_ip
  show (E y (.ref q :: as) h).bind K = _
  rw [he]
  rfl
end
theorem st_z0 (h : mm_Hp) : mm_zr 0 h = some (some (.int 0), h) := if_pos (Or.inl rfl)
theorem st_z1 (h : mm_Hp) : mm_zr 1 h = some (some (.int 1), h) := if_pos (Or.inr rfl)
