/-! ===== a scan: its head, its data, what is known behind it ===== -/
def frD (M M' : Nat → Nat → Int32) : Prop := (∀ r, r ≠ 70 → r ≠ 81 → r ≠ 82 → r ≠ 86 → r ≠ 94 → M' r = M r) ∧ (∀ k, k < 30 ∨ 38 < k → M' 70 k = M 70 k) ∧ (∀ j, j < 6912 → M' 81 j = M 81 j) ∧ ∀ j, j < 4800 → M' 82 j = M 82 j
theorem frD_N {M M' : Nat → Nat → Int32} (h : frN M M') : frD M M' := ⟨fun r a b _ c _ => h.1 r a b c, h.2.1, h.2.2, fun j _ => by rw [h.1 82 (by decide) (by decide) (by decide)]⟩
theorem frD_K {m : Nat} {M M' : Nat → Nat → Int32} (h : frK m M M') : frD M M' := ⟨fun r a _ b c d => h.1 r a b c d, h.2.1, fun j _ => by rw [h.1 81 (by decide) (by decide) (by decide) (by decide)], h.2.2.1⟩
/-- what was read of the picture (but for what is known) -/
def CT (X M : Nat → Nat → Int32) (q : Nat) (F : Nat → Nat) : Prop := (F 0 = 1 → CE X M q ∧ BDk X q (bc X)) ∧ (F 0 = 2 → ∀ c x y, c < F 4 → x < F 1 → y < F 2 → ∃ s, s < 65536 ∧ X (q + 7) (c * 2304 + (y * F 1 + x)) = nI s ∧ M 82 (4800 + 1600 * c + 40 * y + x) = nI s)
section
variable (z a b w v : Nat) (p : Nat → Option Nat)
/-- the data of a scan, of whatever kind -/
theorem sdata_pr {n te q m s e h l iv : Nat} {F td ta : Nat → Nat} {X M X' M' : Nat → Nat → Int32} (hq : q = 48 ∨ q = 57) (hte : te ≤ n) (hm38 : M 70 38 = -nI 1) (hB : RB n X M) (x4 : X 4 1 = nI n ∧ X 4 2 = nI te ∧ X 4 4 = nI 0 ∧ X 4 5 = nI 0 ∧ X 4 6 = M 70 38) (m21 : M 70 21 = nI 1) (m22 : M 70 22 = nI 0) (f1 : ∀ r, r ≠ 4 → r ≠ 12 → r ≠ 15 → r ≠ 16 → r ≠ 17 → r ≠ q + 8 → X' r = X r) (g1 : ∀ r, r ≠ 70 → r ≠ 91 → M' r = M r) (g2 : ∀ j, j < 23 ∨ j = 28 ∨ (38 < j ∧ j ≠ 48) → M' 70 j = M 70 j) (hSQ : SQ n te q F m s e h l iv td ta X M X' M') : ∃ X2 M2 : Nat → Nat → Int32, (∀ d M, mm_ev pg_mt (d + 5) 44 [.ref 13, .ref q, .ref 15, .ref 18, .int (nI iv)] (st_h z X' M (st_R a b w v p)) = some (none, st_h z X2 M (st_R a b w v (pp q p)))) ∧ (∀ d X a b w v p, mm_ev pg_mt (d + 9) 179 [.ref 70] (st_h z X M' (st_R a b w v p)) = some (none, st_h z X M2 (st_R a b w v p))) ∧ RB n X2 M2 ∧ RZ n X2 M2 ∧ (∀ r, r ≠ 1 → r ≠ 2 → r ≠ 3 → r ≠ 4 → r ≠ 13 → r ≠ 14 → r ≠ q + 7 → X2 r = X' r) ∧ bq X' X2 ∧ frD M' M2 ∧ (X2 4 5 = nI 0 → CT X2 M2 q F ∧ (F 0 = 1 → ∀ j, ¬ BZ m s e j → X2 (q + 7) j = X' (q + 7) j)) := by
  obtain ⟨hPF, hSL, ⟨hft, hs64, he64⟩, ⟨hiv, hai⟩, ⟨y4, y11, y6, yq⟩, ⟨j0, j1, j2, j3, j4, j5⟩, ⟨u33, u34, u36, u37, u38⟩, ⟨u23, u24, u25, u26, u27, u28⟩, hTF, hac, hT1, hT2, hFO⟩ := hSQ
  obtain ⟨hF, m58, hPX, hPM, hid, hP1, hP2, hkn⟩ := hPF
  obtain ⟨hm1, hmF, hnr, hfit⟩ := hSL
  have hm8 := m8_of hF hmF
  have n3 := hF.2.2.2.2.2.1
  have hB' : RB n X' M' := RB_c hB (f1 5 (by decide) (by decide) (by decide) (by decide) (by decide) (by omega)) (g1 71 (by decide) (by decide))
  have t2 : X' 4 2 = nI te := by rw [y4]; exact x4.2.1
  have t4 : X' 4 4 = nI 0 := by rw [y4]; exact x4.2.2.1
  have h5 : X' 4 5 = nI 0 := by rw [y4]; exact x4.2.2.2.1
  have hR' : RT n X' M' := ⟨by rw [y4]; exact x4.1, u34, 0, by decide, h5, u37, by rw [y4, u38]; exact x4.2.2.2.2, fun _ => ⟨te, 0, ⟨hte, by rw [u38]; exact hm38⟩, by omega, t2, u33, t4, u36, Or.inl rfl⟩⟩
  have hn := hB.1
  have hbc : bc X' = 8 * te := by
    rw [bc_of t2 t4 (by omega) (by omega)]
    omega
  have hPX' : PX X' q F := by
    refine PX_c hPX ?_ ?_ ?_ ?_ ?_ ?_ ?_ <;> exact f1 _ (by omega) (by omega) (by omega) (by omega) (by omega) (by omega)
  have hPM' : PM M' 1 F := by
    refine PM_c hPM ?_ ?_ ?_ ?_ ?_ ?_ ?_ <;> exact g1 _ (by decide) (by decide)
  have k7 : X' (q + 7) = X (q + 7) := f1 _ (by omega) (by omega) (by omega) (by omega) (by omega) (by omega)
  have u21 : M' 70 21 = nI 1 := by rw [g2 21 (by omega)]; exact m21
  have u22 : M' 70 22 = nI 0 := by rw [g2 22 (by omega)]; exact m22
  by_cases k1 : F 0 = 1
  · obtain ⟨c1, c2, c3⟩ := hP1 k1
    have hCE : CE X' M' q := by
      unfold CE at *
      rw [k7, g1 81 (by decide) (by decide)]
      exact c1
    have hBD : BDk X' q (bc X') := BD_m c2 (Nat.le_of_eq hbc.symm) (fun j _ _ => by rw [k7])
    have eft : ft F s = s := if_neg (by omega)
    rw [eft] at hft hFO
    have hfitP : fitP s e h l := by
      unfold fitP
      omega
    by_cases hpc : pc3 m = 1
    · obtain ⟨c, hc, hmc⟩ := pc_ex (F 4) (by omega) m hm8 hmF hpc
      have hb : m / 2 ^ c % 2 = 1 := by rw [hmc, Nat.div_self (Nat.pow_pos (by decide))]
      obtain ⟨b1, b2, b3, b4, b5⟩ := hTF c (by omega) hb
      rw [hpc] at j1
      obtain ⟨X2, M2, i1, i2, iW⟩ := data1_pr z a b w v p (q := q) (n := n) (m := m) (c := c) (s := s) (e := e) (h := h) (l := l) (iv := iv) (t1 := td c) (t2 := ta c) hq hF k1 hc hmc hfitP hiv hB' hR' h5 hCE hBD hPX' hPM' j0 j1 j2 j3 j4 j5 ⟨u21, u22, by rw [← hmc]; exact u23, u24, u25, u26, u27, u28⟩ ⟨b3, b4, b5, b1, b2⟩ (fun e1 e2 => hT2 (Or.inr ⟨e1, e2⟩) c (by omega) hb) (fun e1 => ⟨hac c (by omega) hmc, hT1 k1 e1 c (by omega) hmc⟩) (fun e1 e2 u' hu' k hk1 hk2 => by
        have hbk := bk_lt hF k1 hc hu'
        have hfo := (hFO c hc hb).2 k hk1 hk2
        rw [k7]
        refine c3 _ (by omega) ?_
        rw [show (2304 * c + 64 * bk F c u' + k) / 2304 = c by omega, show (2304 * c + 64 * bk F c u' + k) % 64 = k by omega, hfo, e2]
        exact if_pos rfl)
      obtain ⟨w1, w2, w3, w4, w5, w6⟩ := iW
      exact ⟨X2, M2, i1, i2, w1, w2, w4, w5, frD_N w6, fun e5 => ⟨⟨fun _ => ⟨(w3 e5).1, (w3 e5).2.1⟩, fun k2 => absurd k2 (by omega)⟩, fun _ => (w3 e5).2.2⟩⟩
    · have hs0 : s = 0 ∧ e = 0 := by omega
      obtain ⟨rfl, rfl⟩ := hs0
      have hP10 : fU F m (F 4) ≤ 10 := by
        rcases hnr with hnr | hnr
        · exfalso
          have : pc3 m ≠ 0 := fun h0 => by
            have : ∀ m, m < 8 → 1 ≤ m → pc3 m ≠ 0 := by decide
            exact this m hm8 hm1 h0
          omega
        · exact hnr
      obtain ⟨X2, M2, i1, i2, iW⟩ := data2_pr z a b w v p (q := q) (n := n) (m := m) (h := h) (l := l) (iv := iv) (td := td) hq hF k1 hm8 hpc (fU_pos hF hm1 hmF hm8) hP10 (by omega) (by omega) hiv hB' hR' h5 hCE hBD hPX' hPM' j0 j1 j2 j4 j5 ⟨u21, u22, u23, u24, u26, u27, u28⟩ (fun c hc hb => by
        obtain ⟨b1, b2, b3, b4, b5⟩ := hTF c (by omega) hb
        exact ⟨b1, b3, b4, fun h0 => hT2 (Or.inr ⟨rfl, h0⟩) c (by omega) hb⟩)
      obtain ⟨w1, w2, w3, w4, w5, w6⟩ := iW
      exact ⟨X2, M2, i1, i2, w1, w2, w4, w5, frD_N w6, fun e5 => ⟨⟨fun _ => ⟨(w3 e5).1, (w3 e5).2.1⟩, fun k2 => absurd k2 (by omega)⟩, fun _ => (w3 e5).2.2⟩⟩
  · have k2 : F 0 = 2 := by omega
    obtain ⟨X2, M2, i1, i2, iW⟩ := data3_pr z a b w v p (q := q) (n := n) (m := m) (s := s) (l := l) (iv := iv) (td := td) hq hF k2 hm8 hm1 hmF (by omega) (by omega) hiv (hai k2) hB' hR' hPX' hPM' j0 j1 j2 j5 ⟨u21, u22, u23, u24, u27, u28⟩ (fun c hc hb => by
      obtain ⟨b1, b2, b3, b4, b5⟩ := hTF c (by omega) hb
      exact ⟨b1, b3, b4, hT2 (Or.inl k2) c (by omega) hb⟩)
    obtain ⟨w1, w2, w3, w4, w5, w6, w7⟩ := iW
    refine ⟨X2, M2, i1, i2, w1, w2, w5, w6, frD_K w7, fun e5 => ⟨⟨fun k1' => absurd k1' k1, fun _ c x y hc hx hy => ?_⟩, fun k1' => absurd k1' k1⟩⟩
    by_cases hb : m / 2 ^ c % 2 = 1
    · exact w3 e5 c x y hc hb hx hy
    · obtain ⟨s', hs', a1, a2⟩ := hP2 k2 c x y hc hx hy
      have g40 := hF.2.2.2.1
      have w40 := hF.2.1
      have hv : y * F 1 + x < 1600 := by
        have h2 := Nat.mul_le_mul (show y + 1 ≤ 40 by omega) w40
        rw [Nat.succ_mul] at h2
        have h3 := Nat.mul_le_mul (Nat.le_refl y) w40
        have h4 : y * F 1 ≤ 39 * F 1 := Nat.mul_le_mul (by omega) (Nat.le_refl _)
        omega
      refine ⟨s', hs', ?_, ?_⟩
      · rw [Nat.mul_comm c, w4 c _ (by omega) (fun hh => hb hh.2) (by omega), k7, Nat.mul_comm]
        exact a1
      · have e4 : 4800 + 1600 * c + 40 * y + x = 4800 + 1600 * c + (40 * y + x) := by omega
        rw [e4, w7.2.2.2 c (40 * y + x) (by omega) hb (by omega), g1 82 (by decide) (by decide), ← e4]
        exact a2
theorem sos_pr {n k L q : Nat} {B : Nat → Nat} {X M : Nat → Nat → Int32} (hq : q = 48 ∨ q = 57) (hp0 : p 0 = some q) (hRB : RB n X M) (hB : BY n B X M) (hH : BH n k L X M) (hS : ST q (8 * (k + 1 + L)) X M) : ∃ X1 M' : Nat → Nat → Int32, (∀ d M, mm_ev pg_mt (d + 4) 98 [.ref 12] (st_h z X M (st_R a b w v p)) = some (none, (st_h z (X1) M (st_R a b w v p)))) ∧ (∀ d X a b w v p, mm_ev pg_mt (d + 10) 232 [.ref 70] (st_h z X M (st_R a b w v p)) = some (none, (st_h z X (M') (st_R a b w v p)))) ∧ fM M M' ∧ ((FT X1 M' ∧ fX q X X1) ∨ ∃ (X2 : Nat → Nat → Int32) (iv : Nat), (X1 4 5 = nI 0 ∧ X1 12 11 = nI 1 ∧ X1 12 6 = nI iv) ∧ (∀ d M, mm_ev pg_mt (d + 5) 44 [.ref 13, .ref q, .ref 15, .ref 18, .int (nI iv)] (st_h z X1 M (st_R a b w v p)) = some (none, st_h z X2 M (st_R a b w v (pp q p)))) ∧ fX q X X2 ∧ X2 12 = X1 12 ∧ (FT X2 M' ∨ ∃ t2, k + 1 + L ≤ t2 ∧ HT n t2 X2 M' ∧ M' 70 57 = M 70 57 + nI 1 ∧ ST q (8 * t2) (st_u (st_u X2 12 11 (nI 0)) 12 10 (nI 1)) M')) := by
  obtain ⟨X1, M1, f1, f2, g1, g2, e98, hcs⟩ := shead_pr z a b w v p hq hp0 hB hH hS
  have hH' := hH
  obtain ⟨⟨x1, x2, x4, x5, x6⟩, ⟨m34, m36, m37⟩, ⟨x7, x8, x9⟩, ⟨m33, m55, m56⟩, L1, L2, L3⟩ := hH'
  obtain ⟨s11, s12, siv, s21, s22, sTB, sPF⟩ := hS
  have fM1 : fM M M1 := ⟨fun r hr => g1 r (by omega) (by omega), fun j hj => g2 j (by omega), fun r h1 h2 => by rw [g1 r (by omega) (by omega)], fun r c hr hc => by rw [g1 r (by omega) (by omega)], fun j _ => by rw [g1 81 (by omega) (by omega)], fun j _ => by rw [g1 82 (by omega) (by omega)], fun j _ => by rw [g1 83 (by omega) (by omega)]⟩
  have fX1 : fX q X X1 := fun r h1 h2 => f1 r (by omega) (by omega) (by omega) (by omega) (by omega) (by omega)
  rcases hcs with ⟨hFT, e232⟩ | ⟨F, m, s, e, h, l, iv, td, ta, hSQ, e232⟩
  · exact ⟨X1, M1, e98, e232, fM1, Or.inl ⟨hFT, fX1⟩⟩
  · obtain ⟨X2, M2, i1, i2, w1, w2, w3, w4, w5, w6⟩ := sdata_pr z a b w v p (te := k + 1 + L) hq L3.1 L3.2 hRB ⟨x1, x2, x4, x5, x6⟩ s21 s22 f1 g1 g2 hSQ
    have e232' := e232 M2 i2
    obtain ⟨hPF, hSL, ⟨hft, hs64, he64⟩, ⟨hiv, hai⟩, ⟨y4, y11, y6, yq⟩, -, -, ⟨u23, u24, u25, u26, u27, u28⟩, -⟩ := hSQ
    obtain ⟨hF, m58, hPX, hPM, hid, hP1, hP2, hkn⟩ := hPF
    obtain ⟨hm1, hmF, hnr, hfit⟩ := hSL
    have hm8 := m8_of hF hmF
    have n3 := hF.2.2.2.2.2.1
    have fX2 : fX q X X2 := fun r h1 h2 => (w3 r (by omega) (by omega) (by omega) (by omega) (by omega) (by omega) (by omega)).trans (fX1 r h1 h2)
    have fM2 : fM M1 M2 := ⟨fun r hr => w5.1 r (by omega) (by omega) (by omega) (by omega) (by omega), fun j hj => w5.2.1 j (by omega), fun r h1 h2 => by rw [w5.1 r (by omega) (by omega) (by omega) (by omega) (by omega)], fun r c hr hc => by rw [w5.1 r (by omega) (by omega) (by omega) (by omega) (by omega)], w5.2.2.1, w5.2.2.2, fun j _ => by rw [w5.1 83 (by omega) (by omega) (by omega) (by omega) (by omega)]⟩
    have h15 : X1 4 5 = nI 0 := by rw [y4]; exact x5
    have k12 : X2 12 = X1 12 := w3 12 (by decide) (by decide) (by decide) (by decide) (by decide) (by decide) (by omega)
    obtain ⟨⟨hX1, hM1, g, hg, hX5, hM5, h6, hRn⟩, hz⟩ := w2
    by_cases g0 : g = 0
    · subst g0
      obtain ⟨t2, l2, ht2, hl2, tX, tM, tX4, tM4, -⟩ := hRn rfl
      obtain ⟨z4, z36⟩ := hz hX5
      have hn := w1.1
      obtain ⟨q5, qb⟩ := w4 hX5
      have hbc1 : bc X1 = 8 * (k + 1 + L) := by
        rw [bc_of (X := X1) (t := k + 1 + L) (l := 0) (by rw [y4]; exact x2) (by rw [y4]; exact x4) (by omega) (by omega)]
        omega
      have hbc2 : bc X2 = 8 * t2 := by
        rw [bc_of tX z4 (by omega) (by omega)]
        omega
      obtain ⟨hCT, hBZ⟩ := w6 hX5
      have hPM2 : PM M2 1 F := by
        refine PM_c hPM ?_ ?_ ?_ ?_ ?_ ?_ ?_ <;> exact (w5.1 _ (by decide) (by decide) (by decide) (by decide) (by decide)).trans (g1 _ (by decide) (by decide))
      have v : ∀ j, j < 30 ∨ 38 < j → M2 70 j = M1 70 j := w5.2.1
      have bec := fun d X a b w v p => bec_15 (d := d) (z := z) (a := a) (b := b) (w := w) (v := v) (p := p) (X := X) hF hPM2 (s := s) (l := nI l) hm8 he64 hft
      obtain ⟨M3, hM3⟩ : ∃ M3, M3 = mks M2 83 192 m (ft F s) e (nI l) (F 4) := ⟨_, rfl⟩
      rw [← hM3] at bec
      have m3o : ∀ r, r ≠ 83 → M3 r = M2 r := fun r hr => by rw [hM3]; exact mks_o _ _ _ _ _ _ _ _ hr _
      have n57 : M3 70 57 = M 70 57 := by rw [m3o 70 (by decide), v 57 (by omega), g2 57 (by omega)]
      have m4o : ∀ r, r ≠ 70 → st_u M3 70 57 (M 70 57 + nI 1) r = M3 r := fun r hr => st_uo _ _ _ _ _ hr
      have m4j : ∀ j, j ≠ 57 → st_u M3 70 57 (M 70 57 + nI 1) 70 j = M2 70 j := fun j hj => by rw [st_uk _ _ _ _ _ hj, m3o 70 (by decide)]
      have v23 : M2 70 23 = nI m := by rw [v 23 (by omega)]; exact u23
      have v24 : M2 70 24 = nI s := by rw [v 24 (by omega)]; exact u24
      have v25 : M2 70 25 = nI e := by rw [v 25 (by omega)]; exact u25
      have v27 : M2 70 27 = nI l := by rw [v 27 (by omega)]; exact u27
      have kn1 : ∀ j, j < 192 → X (q + 8) j = M2 83 (192 + j) := fun j hj => by
        rw [w5.1 83 (by decide) (by decide) (by decide) (by decide) (by decide), g1 83 (by decide) (by decide)]
        exact (hkn j hj).1
      have kn2 : ∀ j, j < 192 → X2 (q + 8) j = M3 83 (192 + j) := fun j hj => by
        rw [w3 (q + 8) (by omega) (by omega) (by omega) (by omega) (by omega) (by omega) (by omega), yq, hM3]
        exact mks_eq kn1 (F 4) j hj
      have cq : ∀ r, q ≤ r → r ≤ q + 8 → st_u (st_u X2 12 11 (nI 0)) 12 10 (nI 1) r = X2 r := fun r h1 h2 => by
        rw [st_uo _ _ _ _ _ (by omega), st_uo _ _ _ _ _ (by omega)]
      have ct : ∀ r, r ≠ 12 → st_u (st_u X2 12 11 (nI 0)) 12 10 (nI 1) r = X2 r := fun r hr => by
        rw [st_uo _ _ _ _ _ hr, st_uo _ _ _ _ _ hr]
      have w8 : ∀ r, (q ≤ r ∧ r ≤ q + 6) ∨ (19 ≤ r ∧ r < 44) → X2 r = X r := fun r hr => by
        rw [w3 r (by omega) (by omega) (by omega) (by omega) (by omega) (by omega) (by omega), f1 r (by omega) (by omega) (by omega) (by omega) (by omega) (by omega)]
      refine ⟨X1, st_u M3 70 57 (M 70 57 + nI 1), e98, fun d X a b w v p => ?_, fM_t fM1 (fM_t fM2 ⟨fun r hr => by rw [m4o r (by omega), m3o r (by omega)], fun j hj => m4j j (by omega), fun r h1 h2 => by rw [m4o r (by omega), m3o r (by omega)], fun r c hr hc => by rw [m4o r (by omega), m3o r (by omega)], fun j _ => by rw [m4o 81 (by decide), m3o 81 (by decide)], fun j _ => by rw [m4o 82 (by decide), m3o 82 (by decide)], fun j hj => ?_⟩), Or.inr ⟨X2, iv, ⟨h15, y11, y6⟩, i1, fX2, k12, Or.inr ⟨t2, by omega, ⟨hX1, ?_, hX5, ?_, ?_, tX, ?_, z4, ?_, ht2.1, by rw [m4j 38 (by decide)]; exact ht2.2⟩, st_us _ _ _ _, ?_, ?_, ⟨iv, hiv, ?_, ?_⟩, ?_, ?_, ?_, Or.inr ⟨F, hF, ?_, ?_, ?_, ?_, fun k1 => ?_, fun k2 => ?_, fun j hj => ?_⟩⟩⟩⟩
      · rw [e232' d X a b w v p, eb232_82]
        simp (disch := omega) only [↓tf_70, ↓tp_70, ↓tz_70, ↓ty_70, ↓tzl_70, ↓tyl_70, ↓tv_70, ↓ta_71, ↓tb_71, ↓ts_71, ↓tl_71, ↓ta_72, ↓tb_72, ↓ts_72, ↓tl_72, ↓ta_73, ↓tb_73, ↓ts_73, ↓tl_73, ↓ta_74, ↓tb_74, ↓ts_74, ↓tl_74, ↓ta_75, ↓tb_75, ↓ts_75, ↓tl_75, ↓ta_76, ↓tb_76, ↓ts_76, ↓tl_76, ↓ta_77, ↓tb_77, ↓ts_77, ↓tl_77, ↓ta_78, ↓tb_78, ↓ts_78, ↓tl_78, ↓ta_79, ↓tb_79, ↓ts_79, ↓tl_79, ↓ta_80, ↓tb_80, ↓ts_80, ↓tl_80, ↓ta_81, ↓tb_81, ↓ts_81, ↓tl_81, ↓ta_82, ↓tb_82, ↓ts_82, ↓tl_82, ↓ta_83, ↓tb_83, ↓ts_83, ↓tl_83, ↓ta_84, ↓tb_84, ↓ts_84, ↓tl_84, ↓ta_85, ↓tb_85, ↓ts_85, ↓tl_85, ↓ta_86, ↓tb_86, ↓ts_86, ↓tl_86, ↓ta_87, ↓tb_87, ↓ts_87, ↓tl_87, ↓ta_88, ↓tb_88, ↓ts_88, ↓tl_88, ↓ta_89, ↓tb_89, ↓ts_89, ↓tl_89, ↓ta_90, ↓tb_90, ↓ts_90, ↓tl_90, ↓ta_91, ↓tb_91, ↓ts_91, ↓tl_91, ↓ta_92, ↓tb_92, ↓ts_92, ↓tl_92, ↓ta_93, ↓tb_93, ↓ts_93, ↓tl_93, ↓ta_94, ↓tb_94, ↓ts_94, ↓tl_94, ↓tr_70_1, ↓tr_70_3, ↓tr_70_5, ↓tr_70_6, ↓tr_70_7, ↓tr_70_8, ↓tr_70_9, ↓tr_70_10, ↓tr_70_11, ↓tr_70_12, ↓tr_70_13, ↓tr_70_14, ↓tr_70_15, ↓tr_70_17, ↓tr_70_19, ↓tr_70_29, ↓tr_70_41, ↓tr_70_44, ↓tr_70_45, ↓tr_70_46, ↓tr_70_47, ↓tr_70_49, ↓tr_70_51, ↓tr_70_53, ↓reduceIte, ↓bd_ite, ↓Option.bind_some, Option.toList_some, Option.toList_none, List.cons_append, List.nil_append, ↓tz0, ↓tz1, ↓st_z0, ↓st_z1, ↓t_is, ↓t_dv, ↓t_rm, st_us, st_uk, st_uo, nI_add, pk_mul, Nat.reduceAdd, Nat.reduceSub, Nat.reduceMul, pk_sub, nI_leI, nI_ltI, nI_eq, nn_leT, nn_leF, nn_ltT, nn_ltF, nn_eqT, nn_eqF, nm1, k_0, k_1, k_2, k_3, k_4, k_5, k_6, k_7, k_8, k_9, k_10, k_12, k_13, k_15, k_16, k_17, k_20, k_24, k_32, k_36, k_40, k_60, k_63, k_64, k_128, k_192, k_194, k_195, k_196, k_208, k_215, k_216, k_217, k_218, k_219, k_221, k_224, k_239, k_240, k_254, k_255, k_256, k_273, k_309, k_936, k_1600, k_2000, k_2304, k_4800, k_5980, k_6000, k_6912, k_12000, k_16383, k_32767, k_32768, k_65474, k_65475, k_65476, k_65496, k_65497, k_65498, k_65501, k_65535, k_65536, hM5, v23, v24, v25, v27, bec, n57, ↓eb232_118]
      · rw [m4o 83 (by decide), hM3]
        exact mks_k _ _ _ _ _ _ _ _ (fun c _ => by omega) hft _
      · rw [m4j 34 (by decide)]; exact hM1
      · rw [m4j 37 (by decide)]; exact hM5
      · rw [m4j 38 (by decide)]; exact h6
      · rw [m4j 33 (by decide)]; exact tM
      · rw [m4j 36 (by decide)]; exact z36
      · simp (disch := omega) only [↓reduceIte, ↓bd_ite, ↓Option.bind_some, Option.toList_some, Option.toList_none, List.cons_append, List.nil_append, ↓tz0, ↓tz1, ↓st_z0, ↓st_z1, ↓t_is, ↓t_dv, ↓t_rm, st_us, st_uk, st_uo, nI_add, pk_mul, Nat.reduceAdd, Nat.reduceSub, Nat.reduceMul, pk_sub, nI_leI, nI_ltI, nI_eq, nn_leT, nn_leF, nn_ltT, nn_ltF, nn_eqT, nn_eqF, nm1, k_0, k_1, k_2, k_3, k_4, k_5, k_6, k_7, k_8, k_9, k_10, k_12, k_13, k_15, k_16, k_17, k_20, k_24, k_32, k_36, k_40, k_60, k_63, k_64, k_128, k_192, k_194, k_195, k_196, k_208, k_215, k_216, k_217, k_218, k_219, k_221, k_224, k_239, k_240, k_254, k_255, k_256, k_273, k_309, k_936, k_1600, k_2000, k_2304, k_4800, k_5980, k_6000, k_6912, k_12000, k_16383, k_32767, k_32768, k_65474, k_65475, k_65476, k_65496, k_65497, k_65498, k_65501, k_65535, k_65536]
      · rw [st_uk _ _ _ _ _ (by decide), st_uk _ _ _ _ _ (by decide), k12, f2 12 (by decide)]
        exact s12
      · rw [st_uk _ _ _ _ _ (by decide), st_uk _ _ _ _ _ (by decide), k12]
        exact y6
      · rw [m4j 28 (by decide), v 28 (by omega)]
        exact u28
      · rw [m4j 21 (by decide), v 21 (by omega), g2 21 (by omega)]
        exact s21
      · rw [m4j 22 (by decide), v 22 (by omega), g2 22 (by omega)]
        exact s22
      · refine TB_c sTB (fun r hr => ?_) (fun r hr => ?_)
        · rw [ct r (by omega), w8 r (by omega)]
        · rw [m4o r (by omega), m3o r (by omega), w5.1 r (by omega) (by omega) (by omega) (by omega) (by omega), g1 r (by omega) (by omega)]
      · rw [m4j 58 (by decide), v 58 (by omega), g2 58 (by omega)]
        exact m58
      · refine PX_c hPX ?_ ?_ ?_ ?_ ?_ ?_ ?_ <;> rw [cq _ (by omega) (by omega), w8 _ (by omega)]
      · refine PM_c hPM2 ?_ ?_ ?_ ?_ ?_ ?_ ?_ <;> rw [m4o _ (by decide), m3o _ (by decide)]
      · intro c hc
        rw [ct 19 (by decide), w8 19 (by omega), m4o 80 (by decide), m3o 80 (by decide), w5.1 80 (by decide) (by decide) (by decide) (by decide) (by decide), g1 80 (by decide) (by decide)]
        exact hid c hc
      · obtain ⟨c1, c2⟩ := hCT.1 k1
        have eft : ft F s = s := if_neg (by omega)
        refine ⟨fun j hj => ?_, BD_m c2 (Nat.le_of_eq hbc2) (fun j _ _ => by rw [cq _ (by omega) (by omega)]), fun j hj hne => ?_⟩
        · rw [cq _ (by omega) (by omega), m4o 81 (by decide), m3o 81 (by decide)]
          exact c1 j hj
        · rw [cq _ (by omega) (by omega), w3 (q + 8) (by omega) (by omega) (by omega) (by omega) (by omega) (by omega) (by omega), yq] at hne
          rw [cq _ (by omega) (by omega)]
          by_cases hbz : BZ m s e j
          · exfalso
            obtain ⟨o1, o2, o3⟩ := hbz
            have hcF : j / 2304 < F 4 := Nat.lt_of_not_le (fun hge => by
              have : m / 2 ^ (j / 2304) = 0 := Nat.div_eq_of_lt (Nat.lt_of_lt_of_le hmF (Nat.pow_le_pow_right (by decide) hge))
              rw [this] at o1
              exact absurd o1 (by decide))
            have := mks_i (X := X) (q := q + 8) (o := 0) (l := nI l) (f := ft F s) (e := e) (k := j % 64) o1 (by rw [eft]; exact o2) o3 he64 (F 4) hcF
            rw [show 0 + 64 * (j / 2304) + j % 64 = j / 2304 * 64 + j % 64 by omega, hne] at this
            have h2 := congrArg Int32.toInt this
            rw [nI_toInt (by omega)] at h2
            have h3 : (-nI 1 : Int32).toInt = -1 := rfl
            omega
          · rw [hBZ k1 j hbz, f1 _ (by omega) (by omega) (by omega) (by omega) (by omega) (by omega)]
            refine (hP1 k1).2.2 j hj ?_
            rw [← hne]
            refine (mks_k _ _ _ _ _ _ _ _ (fun c hb => ?_) hft _).symm
            by_cases hcj : c = j / 2304
            · subst hcj
              have : ¬ (s ≤ j % 64 ∧ j % 64 ≤ e) := fun hh => hbz ⟨hb, hh⟩
              rw [eft]
              omega
            · have hc3 : c < 3 := Nat.lt_of_not_le (fun hge => by
                have : m / 2 ^ c = 0 := Nat.div_eq_of_lt (Nat.lt_of_lt_of_le hm8 (Nat.pow_le_pow_right (n := 2) (by decide) hge))
                rw [this] at hb
                exact absurd hb (by decide))
              omega
      · intro c x y hc hx hy
        rw [cq _ (by omega) (by omega), m4o 82 (by decide), m3o 82 (by decide)]
        exact hCT.2 k2 c x y hc hx hy
      · rw [cq _ (by omega) (by omega), m4o 83 (by decide)]
        refine ⟨kn2 j hj, fun k2 hj64 => ?_⟩
        have eft : ft F s = 0 := if_pos k2
        have e0 : e = 0 := by omega
        rw [w3 (q + 8) (by omega) (by omega) (by omega) (by omega) (by omega) (by omega) (by omega), yq, mks_k _ _ _ _ _ _ _ _ (fun c _ => by rw [eft, e0]; omega) hft]
        exact (hkn j hj).2 k2 hj64
    · have hne : X2 4 5 ≠ nI 0 := fun e => by
        rw [hX5, nI_eq (by omega) (by omega)] at e
        exact g0 e
      refine ⟨X1, M2, e98, fun d X a b w v p => ?_, fM_t fM1 fM2, Or.inr ⟨X2, iv, ⟨h15, y11, y6⟩, i1, fX2, k12, Or.inl ⟨g, hg, g0, hX5, hM5, h6⟩⟩⟩
      rw [e232' d X a b w v p, eb232_82]
      simp (disch := omega) only [↓tf_70, ↓tp_70, ↓tz_70, ↓ty_70, ↓tzl_70, ↓tyl_70, ↓tv_70, ↓ta_71, ↓tb_71, ↓ts_71, ↓tl_71, ↓ta_72, ↓tb_72, ↓ts_72, ↓tl_72, ↓ta_73, ↓tb_73, ↓ts_73, ↓tl_73, ↓ta_74, ↓tb_74, ↓ts_74, ↓tl_74, ↓ta_75, ↓tb_75, ↓ts_75, ↓tl_75, ↓ta_76, ↓tb_76, ↓ts_76, ↓tl_76, ↓ta_77, ↓tb_77, ↓ts_77, ↓tl_77, ↓ta_78, ↓tb_78, ↓ts_78, ↓tl_78, ↓ta_79, ↓tb_79, ↓ts_79, ↓tl_79, ↓ta_80, ↓tb_80, ↓ts_80, ↓tl_80, ↓ta_81, ↓tb_81, ↓ts_81, ↓tl_81, ↓ta_82, ↓tb_82, ↓ts_82, ↓tl_82, ↓ta_83, ↓tb_83, ↓ts_83, ↓tl_83, ↓ta_84, ↓tb_84, ↓ts_84, ↓tl_84, ↓ta_85, ↓tb_85, ↓ts_85, ↓tl_85, ↓ta_86, ↓tb_86, ↓ts_86, ↓tl_86, ↓ta_87, ↓tb_87, ↓ts_87, ↓tl_87, ↓ta_88, ↓tb_88, ↓ts_88, ↓tl_88, ↓ta_89, ↓tb_89, ↓ts_89, ↓tl_89, ↓ta_90, ↓tb_90, ↓ts_90, ↓tl_90, ↓ta_91, ↓tb_91, ↓ts_91, ↓tl_91, ↓ta_92, ↓tb_92, ↓ts_92, ↓tl_92, ↓ta_93, ↓tb_93, ↓ts_93, ↓tl_93, ↓ta_94, ↓tb_94, ↓ts_94, ↓tl_94, ↓tr_70_1, ↓tr_70_3, ↓tr_70_5, ↓tr_70_6, ↓tr_70_7, ↓tr_70_8, ↓tr_70_9, ↓tr_70_10, ↓tr_70_11, ↓tr_70_12, ↓tr_70_13, ↓tr_70_14, ↓tr_70_15, ↓tr_70_17, ↓tr_70_19, ↓tr_70_29, ↓tr_70_41, ↓tr_70_44, ↓tr_70_45, ↓tr_70_46, ↓tr_70_47, ↓tr_70_49, ↓tr_70_51, ↓tr_70_53, ↓reduceIte, ↓bd_ite, ↓Option.bind_some, Option.toList_some, Option.toList_none, List.cons_append, List.nil_append, ↓tz0, ↓tz1, ↓st_z0, ↓st_z1, ↓t_is, ↓t_dv, ↓t_rm, st_us, st_uk, st_uo, nI_add, pk_mul, Nat.reduceAdd, Nat.reduceSub, Nat.reduceMul, pk_sub, nI_leI, nI_ltI, nI_eq, nn_leT, nn_leF, nn_ltT, nn_ltF, nn_eqT, nn_eqF, nm1, k_0, k_1, k_2, k_3, k_4, k_5, k_6, k_7, k_8, k_9, k_10, k_12, k_13, k_15, k_16, k_17, k_20, k_24, k_32, k_36, k_40, k_60, k_63, k_64, k_128, k_192, k_194, k_195, k_196, k_208, k_215, k_216, k_217, k_218, k_219, k_221, k_224, k_239, k_240, k_254, k_255, k_256, k_273, k_309, k_936, k_1600, k_2000, k_2304, k_4800, k_5980, k_6000, k_6912, k_12000, k_16383, k_32767, k_32768, k_65474, k_65475, k_65476, k_65496, k_65497, k_65498, k_65501, k_65535, k_65536, hM5]
end
