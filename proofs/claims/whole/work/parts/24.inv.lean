/-! ===== WHAT HOLDS BETWEEN CALLS ===== -/
theorem fmx_ge {F : Nat → Nat} {o : Nat} : ∀ n c, c < n → F (o + c) ≤ fmx F o n
  | 0, c, h => absurd h (Nat.not_lt_zero _)
  | n + 1, c, h => by
    unfold fmx
    by_cases e : c = n
    · subst e
      split <;> omega
    · have := fmx_ge (F := F) (o := o) n c (by omega)
      split <;> omega
theorem FF_bl {F : Nat → Nat} (h : FF F) (h1 : F 0 = 1) {c : Nat} (hc : c < F 4) : 1 ≤ fA F * F (10 + c) ∧ fA F * F (10 + c) ≤ 6 ∧ 1 ≤ fD F * F (20 + c) ∧ fD F * F (20 + c) ≤ 6 := by
  have hh := FF_h h
  have hv := FF_v h
  have g1 := fmx_ge (F := F) (o := 10) (F 4) c hc
  have g2 := fmx_ge (F := F) (o := 20) (F 4) c hc
  obtain ⟨w1, w2, g1', g2', n1, n3, -, -, -, hb⟩ := h
  have hb := hb c hc
  unfold fA fD
  rw [if_neg (by omega), if_neg (by omega)]
  generalize fmx F 10 (F 4) = x at *
  generalize fmx F 20 (F 4) = y at *
  generalize F (10 + c) = u at *
  generalize F (20 + c) = t at *
  refine ⟨?_, ?_, ?_, ?_⟩
  · rcases (show x = 1 ∨ x = 2 by omega) with rfl | rfl <;> rcases (show u = 1 ∨ u = 2 by omega) with rfl | rfl <;> omega
  · rcases (show x = 1 ∨ x = 2 by omega) with rfl | rfl <;> rcases (show u = 1 ∨ u = 2 by omega) with rfl | rfl <;> omega
  · rcases (show y = 1 ∨ y = 2 by omega) with rfl | rfl <;> rcases (show t = 1 ∨ t = 2 by omega) with rfl | rfl <;> omega
  · rcases (show y = 1 ∨ y = 2 by omega) with rfl | rfl <;> rcases (show t = 1 ∨ t = 2 by omega) with rfl | rfl <;> omega
theorem FF_l {F : Nat → Nat} (h : FF F) (h2 : F 0 = 2) {c : Nat} (hc : c < F 4) : fA F = F 1 ∧ fD F = F 2 ∧ F (10 + c) = 1 ∧ F (20 + c) = 1 ∧ fW F c = F 1 ∧ fG F c = F 2 := by
  have hb := h.2.2.2.2.2.2.2.2.2
  have m1 := fmx_1 (F := F) (o := 10) (n := F 4) (fun c hc => ((hb c hc).2.2.2.2 h2).1) (F 4) (Nat.le_refl _)
  have m2 := fmx_1 (F := F) (o := 20) (n := F 4) (fun c hc => ((hb c hc).2.2.2.2 h2).2) (F 4) (Nat.le_refl _)
  have hc := (hb c hc).2.2.2.2 h2
  unfold fA fD fW fG
  rw [if_pos h2, if_pos h2, hc.1, hc.2, m1, m2]
  refine ⟨rfl, rfl, rfl, rfl, ?_, ?_⟩ <;> omega
/-- a coefficient of a band: far from the lowest number -/
def sm (x : Int32) : Prop := -(2 ^ 30) < x.toInt ∧ x.toInt < 2 ^ 30
/-- what is in a picture, here (cell q) and there (number i) -/
def CO (X M : Nat → Nat → Int32) (q i : Nat) (F : Nat → Nat) : Prop := (F 0 = 1 → ∀ j, j < 6912 → X (q + 7) j = M 81 (6912 * i + j) ∧ (j % 64 ≠ 0 → sm (X (q + 7) j))) ∧ (F 0 = 2 → ∀ c x y, c < F 4 → x < F 1 → y < F 2 → ∃ s, s < 65536 ∧ X (q + 7) (c * 2304 + (y * F 1 + x)) = nI s ∧ M 82 (4800 * i + 1600 * c + 40 * y + x) = nI s) ∧ ∀ j, j < 192 → X (q + 8) j = M 83 (192 * i + j) ∧ (F 0 = 2 → j % 64 ≠ 0 → X (q + 8) j = -nI 1)
/-- how many components a mask has -/
def pc3 (m : Nat) : Nat := m % 2 + m / 2 % 2 + m / 4 % 2
/-- units of an MCU -/
def fU (F : Nat → Nat) (m : Nat) : Nat → Nat
  | 0 => 0
  | n + 1 => if m / 2 ^ n % 2 = 1 then fU F m n + F (10 + n) * F (20 + n) else fU F m n
/-- a scan that this picture may have: components, SS, SE, AH, AL -/
def SL (F : Nat → Nat) (m s e h l : Nat) : Prop := 1 ≤ m ∧ m < 2 ^ F 4 ∧ (pc3 m < 2 ∨ fU F m (F 4) ≤ 10) ∧ ((F 0 = 2 ∧ 1 ≤ s ∧ s ≤ 7 ∧ e = 0 ∧ h = 0 ∧ l < F 3) ∨ (F 0 = 1 ∧ l ≤ 13 ∧ (h = 0 ∨ h = l + 1) ∧ ((s = 0 ∧ e = 0) ∨ (1 ≤ s ∧ s ≤ e ∧ e ≤ 63 ∧ pc3 m = 1))))
/-- the script: its length and rows; what is known by it -/
def SC (X M : Nat → Nat → Int32) (n : Nat) : Prop := n ≤ 60 ∧ X 6 2 = nI n ∧ M 70 18 = nI n ∧ (∀ j, j < 5 * n → X 7 j = M 84 j) ∧ ∀ j, j < 192 → X 8 j = M 85 j
def SR (X : Nat → Nat → Int32) (F : Nat → Nat) (n : Nat) : Prop := ∀ i, i < n → ∃ m s e h l, SL F m s e h l ∧ X 7 (5 * i) = nI m ∧ X 7 (5 * i + 1) = nI s ∧ X 7 (5 * i + 2) = nI e ∧ X 7 (5 * i + 3) = nI h ∧ X 7 (5 * i + 4) = nI l
/-- no picture, or this one -/
def PI (X M : Nat → Nat → Int32) (a n : Nat) (F : Nat → Nat) : Prop := (X a 0 = nI 0 ∧ M 73 0 = nI 0 ∧ n = 0) ∨ (FF F ∧ PX X a F ∧ PM M 0 F ∧ CO X M a 0 F ∧ SR X F n)
def IT (X M : Nat → Nat → Int32) : Prop := ∃ n, X 4 1 = nI n ∧ M 70 2 = nI n ∧ RB n X M
def Inv (X M : Nat → Nat → Int32) (a b w v : Nat) : Prop := iv_ids a b w v ∧ IT X M ∧ iv_W (X w 1) (X (w + 1)) (M 70 4) (M 72) ∧ iv_I (X 0 9) (M 70 20) ∧ X 0 10 = M 70 16 ∧ X 0 11 = M 70 38 ∧ ∃ F n, SC X M n ∧ PI X M a n F
/-- what a call of the class (y) and the same call of the reference (y') do -/
def Call (D y y' : Nat) (as : List Value) : Prop := ∀ (d z : Nat) (X M : Nat → Nat → Int32) (a b w v : Nat) (p : Nat → Option Nat), Inv X M a b w v → ∃ (r : Option Value) (X' M' : Nat → Nat → Int32) (a' b' w' v' : Nat) (p' : Nat → Option Nat), (∀ M, mm_ev pg_mt (d + D) y (.ref 0 :: as) (st_h z X M (st_R a b w v p)) = some (r, st_h z X' M (st_R a' b' w' v' p'))) ∧ (∀ X a b w v p, mm_ev pg_mt (d + D) y' (.ref 70 :: as) (st_h z X M (st_R a b w v p)) = some (r, st_h z X M' (st_R a b w v p))) ∧ Inv X' M' a' b' w' v'
theorem Inv.thrown {X M : Nat → Nat → Int32} {a b w v : Nat} (h : Inv X M a b w v) (u : Int32) : Inv X (st_u M 70 0 u) a b w v := by
  have e1 : ∀ k, k ≠ 0 → st_u M 70 0 u 70 k = M 70 k := fun k hk => st_uk _ _ _ _ _ hk
  have e2 : ∀ q, q ≠ 70 → st_u M 70 0 u q = M q := fun q hq => st_uo _ _ _ _ _ hq
  unfold Inv IT SC PI PM CO RB at *
  rw [e1 2 (by decide), e1 4 (by decide), e1 20 (by decide), e1 16 (by decide), e1 38 (by decide), e1 18 (by decide), e2 71 (by decide), e2 72 (by decide), e2 73 (by decide), e2 74 (by decide), e2 75 (by decide), e2 76 (by decide), e2 77 (by decide), e2 78 (by decide), e2 79 (by decide), e2 81 (by decide), e2 82 (by decide), e2 83 (by decide), e2 84 (by decide), e2 85 (by decide)]
  exact h
section
variable {X X' M M' : Nat → Nat → Int32} {a n : Nat} {F : Nat → Nat}
theorem IT_c (h : IT X M) (h1 : X' 4 1 = X 4 1) (h2 : X' 5 = X 5) (h3 : M' 70 2 = M 70 2) (h4 : M' 71 = M 71) : IT X' M' := by
  unfold IT RB at *
  rw [h1, h2, h3, h4]
  exact h
theorem SC_c (h : SC X M n) (h1 : X' 6 2 = X 6 2) (h2 : X' 7 = X 7) (h3 : X' 8 = X 8) (h4 : M' 70 18 = M 70 18) (h5 : M' 84 = M 84) (h6 : M' 85 = M 85) : SC X' M' n := by
  unfold SC at *
  rw [h1, h2, h3, h4, h5, h6]
  exact h
theorem PX_c (h : PX X a F) (h0 : X' a = X a) (h1 : X' (a + 1) = X (a + 1)) (h2 : X' (a + 2) = X (a + 2)) (h3 : X' (a + 3) = X (a + 3)) (h4 : X' (a + 4) = X (a + 4)) (h5 : X' (a + 5) = X (a + 5)) (h6 : X' (a + 6) = X (a + 6)) : PX X' a F := by
  unfold PX at *
  rw [h0, h1, h2, h3, h4, h5, h6]
  exact h
theorem PM_c {i : Nat} (h : PM M i F) (h0 : M' 73 = M 73) (h1 : M' 74 = M 74) (h2 : M' 75 = M 75) (h3 : M' 76 = M 76) (h4 : M' 77 = M 77) (h5 : M' 78 = M 78) (h6 : M' 79 = M 79) : PM M' i F := by
  unfold PM at *
  rw [h0, h1, h2, h3, h4, h5, h6]
  exact h
theorem CO_c {i : Nat} (h : CO X M a i F) (h7 : X' (a + 7) = X (a + 7)) (h8 : X' (a + 8) = X (a + 8)) (g1 : M' 81 = M 81) (g2 : M' 82 = M 82) (g3 : M' 83 = M 83) : CO X' M' a i F := by
  unfold CO at *
  rw [h7, h8, g1, g2, g3]
  exact h
theorem SR_c (h : SR X F n) (h7 : X' 7 = X 7) : SR X' F n := by
  unfold SR at *
  rw [h7]
  exact h
theorem PI_c (h : PI X M a n F) (hx : ∀ q, q = 7 ∨ (a ≤ q ∧ q ≤ a + 8) → X' q = X q) (hm : ∀ q, 73 ≤ q ∧ q ≤ 83 → M' q = M q) : PI X' M' a n F := by
  rcases h with ⟨h1, h2, h3⟩ | ⟨h1, h2, h3, h4, h5⟩
  · exact Or.inl ⟨by rw [hx a (by omega)]; exact h1, by rw [hm 73 (by omega)]; exact h2, h3⟩
  · refine Or.inr ⟨h1, PX_c h2 ?_ ?_ ?_ ?_ ?_ ?_ ?_, PM_c h3 ?_ ?_ ?_ ?_ ?_ ?_ ?_, CO_c h4 ?_ ?_ ?_ ?_ ?_, SR_c h5 ?_⟩ <;> first | exact hx _ (by omega) | exact hm _ (by omega)
end
