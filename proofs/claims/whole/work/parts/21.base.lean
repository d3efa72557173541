/-! ===== loops ===== -/
theorem lp_up {S β : Type} {f : Nat → S → β} {P : Nat → S → Prop} {N : Nat} (st : ∀ k s, k < N → P k s → ∃ s', f k s = f (k + 1) s' ∧ P (k + 1) s') : ∀ (m k : Nat) (s : S), k + m = N → P k s → ∃ s', f k s = f N s' ∧ P N s'
  | 0, k, s, e, h => by
    have e : k = N := e
    subst e
    exact ⟨s, rfl, h⟩
  | m + 1, k, s, e, h => by
    obtain ⟨s1, e1, h1⟩ := st k s (by omega) h
    obtain ⟨s2, e2, h2⟩ := lp_up st m (k + 1) s1 (by omega) h1
    exact ⟨s2, e1.trans e2, h2⟩
/-! ===== an array filled from s on, n places ===== -/
def flr (X : Nat → Nat → Int32) (q s n : Nat) (u : Int32) : Nat → Nat → Int32 := va_up X q (fun k => if s ≤ k ∧ k < s + n then u else X q k)
theorem flr_0 (X : Nat → Nat → Int32) (q s : Nat) (u : Int32) : flr X q s 0 u = X := by
  funext r k
  unfold flr
  by_cases h : r = q
  · subst h
    rw [va_up_self, if_neg (by omega)]
  · rw [va_up_ne _ _ h]
theorem flr_s (X : Nat → Nat → Int32) (q s n : Nat) (u : Int32) : st_u (flr X q s n u) q (s + n) u = flr X q s (n + 1) u := by
  funext r k
  by_cases h : r = q
  · subst h
    by_cases hk : k = s + n
    · subst hk
      rw [st_us]
      unfold flr
      rw [va_up_self, if_pos (by omega)]
    · rw [st_uk _ _ _ _ _ hk]
      unfold flr
      rw [va_up_self, va_up_self]
      by_cases h2 : s ≤ k ∧ k < s + n
      · rw [if_pos h2, if_pos (by omega)]
      · rw [if_neg h2, if_neg (by omega)]
  · rw [st_uo _ _ _ _ _ h]
    unfold flr
    rw [va_up_ne _ _ h, va_up_ne _ _ h]
theorem flr_o (X : Nat → Nat → Int32) (q s n : Nat) (u : Int32) (r : Nat) (h : r ≠ q) : flr X q s n u r = X r := va_up_ne _ _ h
theorem flr_i (X : Nat → Nat → Int32) (q s n : Nat) (u : Int32) (k : Nat) (h : s ≤ k ∧ k < s + n) : flr X q s n u q k = u := by
  unfold flr
  rw [va_up_self, if_pos h]
theorem flr_k (X : Nat → Nat → Int32) (q s n : Nat) (u : Int32) (k : Nat) (h : k < s ∨ s + n ≤ k) : flr X q s n u q k = X q k := by
  unfold flr
  rw [va_up_self, if_neg (by omega)]
section
variable {d z a b w v : Nat} {p : Nat → Option Nat} {X M : Nat → Nat → Int32}
theorem fill_lp {q n : Nat} (h : q < 70) (hs : st_sh q = some (.inr (0, n))) (hn : n < 2 ^ 31) (u : Int32) (E : mm_Ev) : ∀ (m k : Nat), k + m = n → mm_rx E pg_c1 (5, [.ref q, .int u, .int (nI k), .int (nI n)], [], (st_h z (flr X q 0 k u) M (st_R a b w v p))) = some (none, (st_h z (flr X q 0 n u) M (st_R a b w v p)))
  | 0, k, e => by
    have e : k = n := e
    subst e
    rw [eb1_5, if_pos (nI_le (Nat.le_refl k) hn)]
  | m + 1, k, e => by
    rw [eb1_5, if_neg (nI_ge (by omega) hn), st_stX h hs (vp_in_nI (by omega) hn), nI_clamp (by omega)]
    have := fill_lp h hs hn u E m (k + 1) (by omega)
    rw [← flr_s, Nat.zero_add, nI_succ] at this
    exact this
theorem fill_X {q n : Nat} (h : q < 70) (hs : st_sh q = some (.inr (0, n))) (hn : n < 2 ^ 31) (u : Int32) : mm_ev pg_mt (d + 1) 1 [.ref q, .int u] (st_h z X M (st_R a b w v p)) = some (none, (st_h z (flr X q 0 n u) M (st_R a b w v p))) := by
  rw [en1, eb1_0, st_al hs]
  have := fill_lp (z := z) (a := a) (b := b) (w := w) (v := v) (p := p) (X := X) (M := M) h hs hn u (mm_ev pg_mt d) n 0 (by omega)
  rw [flr_0] at this
  exact this
end
