/-! ===== WHAT HOLDS BETWEEN THE CLASS AND THE REFERENCE between two calls ===== -/
/-- a byte as an int -/
def iv_b (x : Int32) : Prop := x.toInt8.toInt32 = x
/-- the tape: its length here and there, its bytes -/
def iv_T (xl : Int32) (xb : Nat → Int32) (ml : Int32) (mt : Nat → Int32) : Prop := ∃ n : Nat, n ≤ 6000 ∧ xl = nI n ∧ ml = nI n ∧ ∀ k, k < n → xb k &&& 255 = mt k ∧ iv_b (xb k)
/-- what is written -/
def iv_W (xl : Int32) (xb : Nat → Int32) (ml : Int32) (mb : Nat → Int32) : Prop := ∃ n : Nat, n ≤ 12000 ∧ xl = nI n ∧ ml = nI n ∧ ∀ k, k < n → xb k = mb k ∧ iv_b (xb k)
/-- the interval -/
def iv_I (x m : Int32) : Prop := ∃ n : Nat, n ≤ 2000 ∧ x = nI n ∧ m = nI n
/-- the class's own numbers of cells: shown and spare, written and draft -/
def iv_ids (a b w v : Nat) : Prop := ((a = 48 ∧ b = 57) ∨ (a = 57 ∧ b = 48)) ∧ ((w = 66 ∧ v = 68) ∨ (w = 68 ∧ v = 66))
/-- the picture's form: kind, width, height, bits, components; H and V of each -/
def iv_F (kd wd hg bt ct : Int32) (hs vs : Nat → Int32) : Prop := kd = 0 ∨ ∃ k W H B n : Nat, kd = nI k ∧ wd = nI W ∧ hg = nI H ∧ bt = nI B ∧ ct = nI n ∧ 1 ≤ W ∧ W ≤ 40 ∧ 1 ≤ H ∧ H ≤ 40 ∧ 1 ≤ n ∧ n ≤ 3 ∧
  ((k = 1 ∧ (B = 8 ∨ B = 12) ∧ ∀ c, c < n → (hs c = 1 ∨ hs c = 2) ∧ (vs c = 1 ∨ vs c = 2)) ∨ (k = 2 ∧ 2 ≤ B ∧ B ≤ 16 ∧ ∀ c, c < n → hs c = 1 ∧ vs c = 1))
theorem end_X (d : Nat) (z : Nat) (X M : Nat → Nat → Int32) (a b w v : Nat) (p : Nat → Option Nat) (n : Int32) :
    mm_ev pg_mt (d + 1) 123 [.ref 0, .int n] (st_h z X M (st_R a b w v p)) = if n < 0 then some (some (.int (-1)), st_h z X M (st_R a b w v p)) else if n ≤ X 4 1 then some (some (.int n), st_h z (st_u X 4 1 n) M (st_R a b w v p)) else some (some (.int (-1)), st_h z X M (st_R a b w v p)) := by
  rw [en123, eb123_0, eb123_15, st_fR (q := 0) (r := 4) rfl rfl, st_fIX (by decide) rfl, st_fR (q := 0) (r := 4) rfl rfl, st_pIX (by decide) rfl]
theorem end_M (d : Nat) (z : Nat) (X M : Nat → Nat → Int32) (R : Nat → Nat → Option Nat) (n : Int32) :
    mm_ev pg_mt (d + 1) 146 [.ref 70, .int n] (st_h z X M R) = if n < 0 then some (some (.int (-1)), st_h z X (st_u M 70 0 0) R) else if n ≤ M 70 2 then some (some (.int n), st_h z X (st_u (st_u M 70 0 0) 70 2 n) R) else some (some (.int (-1)), st_h z X (st_u M 70 0 0) R) := by
  rw [en146, eb146_0, st_pIM (by decide) rfl, eb146_17, st_fIM (by decide) rfl, st_pIM (by decide) rfl, st_u_at]
  rfl
