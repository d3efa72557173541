/-! ===== THE HEAP WHILE IT GROWS ===== -/
def st_k (n z : Nat) (X : Nat → Nat → Int32) (L : List (Nat × Nat × Nat)) : mm_Hp := (n, z, fun q => if q < n then st_sh q else none, X, fun q j => st_lk L q j)
section
variable {α : Type} {n z : Nat} {X : Nat → Nat → Int32} {L : List (Nat × Nat × Nat)}
theorem gk_n : Prod.fst (st_k n z X L) = n := rfl
theorem gk_s {q : Nat} (h : q < n) : mm_s (st_k n z X L) q = st_sh q := if_pos h
theorem gk_lk (q j x : Nat) : (fun a b => st_lk ((q, j, x) :: L) a b) = va_up (fun a b => st_lk L a b) q (va_up (fun b => st_lk L q b) j (some x)) := by
  funext a b
  by_cases ha : a = q
  · subst ha
    rw [va_up_self]
    by_cases hb : b = j
    · subst hb
      rw [va_up_self]
      unfold st_lk
      rw [Nat.beq_refl, Nat.beq_refl]
      rfl
    · rw [va_up_ne _ _ hb]
      show (match Nat.beq a a && Nat.beq j b with | true => some x | false => st_lk L a b) = st_lk L a b
      have e : Nat.beq j b = false := by
        cases h : Nat.beq j b with
        | false => rfl
        | true => exact absurd (Nat.eq_of_beq_eq_true h).symm hb
      rw [e, Bool.and_false]
  · rw [va_up_ne _ _ ha]
    show (match Nat.beq q a && Nat.beq j b with | true => some x | false => st_lk L a b) = st_lk L a b
    have e : Nat.beq q a = false := by
      cases h : Nat.beq q a with
      | false => rfl
      | true => exact absurd (Nat.eq_of_beq_eq_true h).symm ha
    rw [e, Bool.false_and]
theorem gk_pR {q c j r : Nat} {K : mm_Hp → Option α} (h : q < n) (hs : st_sh q = some (.inl c)) : mm_pR (st_k n z X L) q c j (some r) K = K (st_k n z X ((q, j, r) :: L)) := by
  unfold mm_pR
  rw [gk_s h, if_pos hs]
  unfold st_k
  rw [gk_lk]
  rfl
theorem gk_fR {q c j : Nat} {K : Nat → Option α} (h : q < n) (hs : st_sh q = some (.inl c)) : mm_fR (st_k n z X L) q c j K = (st_lk L q j).bind K := by
  unfold mm_fR
  rw [gk_s h, if_pos hs]
  rfl
theorem gk_pI {q c j : Nat} {u : Int32} {K : mm_Hp → Option α} (h : q < n) (hs : st_sh q = some (.inl c)) : mm_pI (st_k n z X L) q c j u K = K (st_k n z (st_u X q j u) L) := by
  unfold mm_pI
  rw [gk_s h, if_pos hs]
  rfl
theorem gk_w {k : Nat} {sh : Nat ⊕ (Nat × Nat)} (hs : st_sh n = some sh) (hX : X n = fun _ => 0) (hL : (fun j => st_lk L n j) = fun _ => none) : mm_nw (st_k n z X L) k sh = st_k (n + 1) (z + k) X L := by
  have e1 : va_up (fun q => if q < n then st_sh q else none) n (some sh) = fun q => if q < n + 1 then st_sh q else none := by
    funext q
    by_cases hq : q = n
    · subst hq
      rw [va_up_self, if_pos (by omega), hs]
    · rw [va_up_ne _ _ hq]
      by_cases h1 : q < n
      · rw [if_pos h1, if_pos (by omega)]
      · rw [if_neg h1, if_neg (by omega)]
  have e2 : va_up X n (fun _ => 0) = X := by
    funext q
    by_cases hq : q = n
    · subst hq
      rw [va_up_self, hX]
    · rw [va_up_ne _ _ hq]
  have e3 : va_up (fun q j => st_lk L q j) n (fun _ => none) = fun q j => st_lk L q j := by
    funext q
    by_cases hq : q = n
    · subst hq
      rw [va_up_self, hL]
    · rw [va_up_ne _ _ hq]
  show (n + 1, z + k, va_up (fun q => if q < n then st_sh q else none) n (some sh), va_up X n (fun _ => 0), va_up (fun q j => st_lk L q j) n (fun _ => none)) = _
  rw [e1, e2, e3]
  rfl
theorem gk_na {t : Nat} {m : Int32} {K : mm_Hp → Option α} (hm : ¬ m < 0 ∧ m.toNatClampNeg ≤ 60000000) (hs : st_sh n = some (.inr (t, m.toNatClampNeg))) (hX : X n = fun _ => 0) (hL : (fun j => st_lk L n j) = fun _ => none) : mm_na (st_k n z X L) t m K = K (st_k (n + 1) (z + m.toNatClampNeg) X L) := by
  unfold mm_na
  rw [if_pos hm, gk_w hs hX hL]
theorem gk_len {t q k : Nat} (h : q < n) (hs : st_sh q = some (.inr (t, k))) : mm_len (st_k n z X L) t q = k := by
  unfold mm_len
  rw [gk_s h, hs]
  exact if_pos rfl
theorem gk_st {t q k : Nat} {i u : Int32} {K : mm_Hp → Option α} (h : q < n) (hs : st_sh q = some (.inr (t, k))) (hi : vp_in i k) : mm_st (st_k n z X L) t q i u K = K (st_k n z (st_u X q i.toNatClampNeg u) L) := by
  unfold mm_st
  rw [gk_len h hs, if_pos (show ¬ _ from hi)]
  rfl
theorem gk_al {t q k : Nat} {K : Int32 → Option α} (h : q < n) (hs : st_sh q = some (.inr (t, k))) : mm_al (st_k n z X L) q K = K (Int32.ofNat k) := by
  unfold mm_al
  rw [gk_s h, hs]
theorem gk_sr {q c k r : Nat} {i : Int32} {K : mm_Hp → Option α} (h : q < n) (hs : st_sh q = some (.inr (3, k))) (hi : vp_in i k) (hr : r < n) (hc : st_sh r = some (.inl c)) : mm_sr (st_k n z X L) q c i r K = K (st_k n z X ((q, i.toNatClampNeg, r) :: L)) := by
  unfold mm_sr
  rw [gk_len h hs, gk_s hr, if_pos (And.intro (show ¬ _ from hi) hc)]
  unfold st_k
  rw [gk_lk]
  rfl
end
section
variable {d n z : Nat} {X : Nat → Nat → Int32} {L : List (Nat × Nat × Nat)}
theorem fill_K {q k : Nat} (h : q < n) (hs : st_sh q = some (.inr (0, k))) (hk : k < 2 ^ 31) (u : Int32) : mm_ev pg_mt (d + 1) 1 [.ref q, .int u] (st_k n z X L) = some (none, st_k n z (flr X q 0 k u) L) := by
  have lp : ∀ (m i : Nat), i + m = k → mm_rx (mm_ev pg_mt d) pg_c1 (5, [.ref q, .int u, .int (nI i), .int (nI k)], [], st_k n z (flr X q 0 i u) L) = some (none, st_k n z (flr X q 0 k u) L) := by
    intro m
    induction m with
    | zero =>
      intro i e
      have e : i = k := e
      subst e
      rw [eb1_5, if_pos (nI_le (Nat.le_refl i) hk)]
    | succ m ih =>
      intro i e
      rw [eb1_5, if_neg (nI_ge (by omega) hk), gk_st h hs (vp_in_nI (by omega) hk), nI_clamp (by omega)]
      have := ih (i + 1) (by omega)
      rw [← flr_s, Nat.zero_add, nI_succ] at this
      exact this
  rw [en1, eb1_0, gk_al h hs]
  have := lp k 0 (by omega)
  rw [flr_0] at this
  exact this
end
