/-! ===== WRITING: writeData, walks ===== -/
theorem ordL9 (z a b w v : Nat) (p : Nat → Option Nat) {q m : Nat} {F : Nat → Nat} {X : Nat → Nat → Int32} (hq : q = 48 ∨ q = 57) (hF : FF F) (hk2 : F 0 = 2) (hm8 : m < 8) (hmF : m < 2 ^ F 4) (hPX : PX X q F) (x0 : X 9 0 = nI m) (x1 : X 9 1 = nI (pc3 m)) : ∃ X' : Nat → Nat → Int32, (∀ d M, mm_ev pg_mt (d + 4) 3 [.ref 1, .ref q, .ref 9] (st_h z X M (st_R a b w v p)) = some (none, (st_h z (X') M (st_R a b w v p)))) ∧ (X' 1 3 = nI (F 2 * F 1 * fU F m (F 4)) ∧ X' 1 2 = nI (fU F m (F 4)) ∧ ∀ c, c < F 4 → m / 2 ^ c % 2 = 1 → X' 3 (fU F m c) = nI c ∧ ∀ u, u < F 2 * F 1 → X' 2 (u * fU F m (F 4) + fU F m c) = nI (2304 * c + u)) ∧ frO X X' := by
  have n3 := hF.2.2.2.2.2.1
  have hpc := fU_pc hF hk2 hmF
  have hP3 := fU_l hF hk2 m (F 4) (Nat.le_refl _)
  by_cases h1 : pc3 m = 1
  · obtain ⟨c0, hc0, rfl⟩ := pc_ex (F 4) (by omega) m hm8 hmF h1
    rw [h1] at x1 hpc
    have hl := FF_l hF hk2 hc0
    have hsa : fSA F c0 = F 1 := (if_pos hk2).trans hl.2.2.2.2.1
    have hsd : fSD F c0 = F 2 := (if_pos hk2).trans hl.2.2.2.2.2
    obtain ⟨X', e0, o1, o2, fO⟩ := layA_9 (z := z) (a := a) (b := b) (w := w) (v := v) (p := p) hq hF hc0 rfl hPX x0 x1
    have hlen : (lone F c0).length = F 2 * F 1 := by
      rw [← hsa, ← hsd]
      exact flat_len _ _
    refine ⟨X', e0, ⟨?_, ?_, fun c hc hb => ?_⟩, fO⟩
    · rw [o2.1, hlen, hpc, Nat.mul_one]
    · rw [o1.1, hpc]
      rfl
    · have hcc := bit_un c0 (by omega) c (by omega) hb
      subst hcc
      have hfu := bits_le F hb
      rw [hl.2.2.1, hl.2.2.2.1] at hfu
      have hmn := fU_mono F (2 ^ c) (F 4 - (c + 1)) (c + 1)
      rw [show c + 1 + (F 4 - (c + 1)) = F 4 by omega] at hmn
      have h0 : fU F (2 ^ c) c = 0 := by omega
      rw [h0, hpc]
      refine ⟨o1.2 0 c rfl, fun u hu => ?_⟩
      rw [Nat.mul_one, Nat.add_zero]
      exact o2.2 u _ (lone_getL hF hk2 hc hu)
  · obtain ⟨X', e0, o1, o2, fO⟩ := layT_9 (z := z) (a := a) (b := b) (w := w) (v := v) (p := p) hq hF hm8 (show fU F m (F 4) ≤ 10 by omega) h1 hPX x0 x1
    have hA : fA F = F 1 := if_pos hk2
    have hD : fD F = F 2 := if_pos hk2
    refine ⟨X', e0, ⟨?_, ?_, fun c hc hb => ?_⟩, fO⟩
    · rw [o2.1, allu_len, hA, hD]
    · rw [o1.1, ows_len]
    · have hl := FF_l hF hk2 hc
      have hk0 : 0 < F (10 + c) * F (20 + c) := by rw [hl.2.2.1, hl.2.2.2.1]; decide
      have hfu := bits_le F hb
      have hmn := fU_mono F m (F 4 - (c + 1)) (c + 1)
      rw [show c + 1 + (F 4 - (c + 1)) = F 4 by omega] at hmn
      refine ⟨?_, fun u hu => ?_⟩
      · have := o1.2 _ _ (ows_get (F := F) (k := 0) hb hk0 _ hc)
        rw [Nat.add_zero] at this
        exact this
      · refine o2.2 _ _ ?_
        rw [allu_get (show fU F m c < fU F m (F 4) by omega) _ (by rw [hA, hD]; exact hu)]
        have := sgs_get (F := F) (m := m) (col := u % fA F) (row := u / fA F) (k := 0) hb hk0 _ hc
        rw [Nat.add_zero] at this
        rw [this, seg0_getL hF hk2 hc]
def pw (qa q : Nat) (p : Nat → Option Nat) : Nat → Option Nat := va_up (va_up (va_up p 4 (some qa)) 5 (some 9)) 6 (some q)
theorem pw4 (qa q : Nat) (p : Nat → Option Nat) : pw qa q p 4 = some qa := by
  unfold pw
  rw [va_up_ne _ _ (by decide), va_up_ne _ _ (by decide), va_up_self]
theorem pw5 (qa q : Nat) (p : Nat → Option Nat) : pw qa q p 5 = some 9 := by
  unfold pw
  rw [va_up_ne _ _ (by decide), va_up_self]
theorem pw6 (qa q : Nat) (p : Nat → Option Nat) : pw qa q p 6 = some q := by
  unfold pw
  rw [va_up_self]
section
variable (z a b w v : Nat) (p : Nat → Option Nat)
theorem wfin {q W H f R wt : Nat} {X M : Nat → Nat → Int32} (hp6 : p 6 = some q) (hq : q = 66 ∨ q = 68) (hW : W + 9000 < 2 ^ 29) (h : SK q W H f X M) (hR : R ≤ 20000) (hwt : wt ≤ 1000) (hRW : RW R wt X M) (m22 : M 70 22 = nI 1) : ∃ X2 M2 X' M' : Nat → Nat → Int32, (∀ d M, mm_ev pg_mt (d + 3) 66 [.ref 44] (st_h z X M (st_R a b w v p)) = some (none, (st_h z (X2) M (st_R a b w v p)))) ∧ (∀ d M, mm_ev pg_mt (d + 3) 81 [.ref q] (st_h z (X2) M (st_R a b w v p)) = some (none, (st_h z (X') M (st_R a b w v p)))) ∧ (∀ d X a b w v p, mm_ev pg_mt (d + 5) 203 [.ref 70] (st_h z X M (st_R a b w v p)) = some (none, (st_h z X (M2) (st_R a b w v p)))) ∧ (∀ d X a b w v p, mm_ev pg_mt (d + 3) 191 [.ref 70] (st_h z X (M2) (st_R a b w v p)) = some (none, (st_h z X (M') (st_R a b w v p)))) ∧ (∃ W' H' f', W' ≤ W + 5000 ∧ SK q W' H' f' X' M') ∧ RW 0 0 X' M' ∧ fV q X X' ∧ fU' M M' ∧ fU' M M2 := by
  obtain ⟨X2, M2, i1, i2, ⟨W2, H2, f2, b1, b2, b3⟩, i4, i5, i6⟩ := wend z a b w v p hp6 hq (by omega) h hR hwt hRW m22
  obtain ⟨X3, M3, j1, j2, ⟨W3, H3, f3, d1, d2, d3⟩, j4, j5⟩ := wfill z a b w v p hq (by omega) b3
  have h4 : 4 * wt ≤ 4000 := Nat.mul_le_mul_left 4 hwt
  exact ⟨X2, M2, X3, M3, i1, j1, i2, j2, ⟨W3, H3, f3, by omega, d3⟩, RW_c hq i4 j4 j5, fV_t i5 (fV_T hq j4), fU_t i6 (fU_Q j5), i6⟩
/-- the end of a scan's data -/
theorem wtail {q qa W1 R1 wb : Nat} {X M X1 M1 : Nat → Nat → Int32} (hq : q = 66 ∨ q = 68) (hp6 : p 6 = some q) (h : WV q W1 R1 wb X M X1 M1) (hW : W1 + 9000 < 2 ^ 29) (hR : R1 ≤ 20000) (hwb : wb ≤ 1000) (m22 : M1 70 22 = nI 1) (m37 : M1 70 37 = nI 0) (I sp wy u1 N r1 u2 : Int32) (y8 y4 : Value) : ∃ X' M' : Nat → Nat → Int32, (∀ d M, mm_rx (mm_ev pg_mt (d + 5)) pg_c56 (132, [.ref 44, .ref qa, .ref 9, .int I, .ref q, .int sp, .int wy, .int u1, y8], [], (st_h z (X1) M (st_R a b w v p))) = some (some (.int (X' 44 10)), (st_h z (X') M (st_R a b w v p)))) ∧ (∀ d X a b w v p, mm_rx (mm_ev pg_mt (d + 9)) pg_c179 (111, [.ref 70, .int N, .int r1, .int u2, y4], [], (st_h z X (M1) (st_R a b w v p))) = some (none, (st_h z X (M') (st_R a b w v p)))) ∧ WV q (W1 + 5000) 0 0 X M X' M' := by
  have rX : ∀ (t : Nat) (X2 X3 : Nat → Nat → Int32), t < 2 → X3 44 10 = nI t → (∀ d M, mm_ev pg_mt (d + 3) 66 [.ref 44] (st_h z (X1) M (st_R a b w v p)) = some (none, (st_h z (X2) M (st_R a b w v p)))) → (∀ d M, mm_ev pg_mt (d + 3) 81 [.ref q] (st_h z (X2) M (st_R a b w v p)) = some (none, (st_h z (X3) M (st_R a b w v p)))) → ∀ d M, mm_rx (mm_ev pg_mt (d + 5)) pg_c56 (132, [.ref 44, .ref qa, .ref 9, .int I, .ref q, .int sp, .int wy, .int u1, y8], [], (st_h z (X1) M (st_R a b w v p))) = some (some (.int (X3 44 10)), (st_h z (X3) M (st_R a b w v p))) := fun t X2 X3 ht h10 e1 e2 d M => by
    rw [h10, eb56_132]
    rcases (show t = 0 ∨ t = 1 by omega) with rfl | rfl
    · simp (disch := omega) only [↓tf_0, ↓tp_0, ↓tz_0, ↓ty_0, ↓tzl_0, ↓tyl_0, ↓tv_0, ↓tf_1, ↓tp_1, ↓tz_1, ↓ty_1, ↓tzl_1, ↓tyl_1, ↓tv_1, ↓ta_2, ↓tb_2, ↓ts_2, ↓tl_2, ↓ta_3, ↓tb_3, ↓ts_3, ↓tl_3, ↓tf_4, ↓tp_4, ↓tz_4, ↓ty_4, ↓tzl_4, ↓tyl_4, ↓tv_4, ↓ta_5, ↓tb_5, ↓ts_5, ↓tl_5, ↓tf_6, ↓tp_6, ↓tz_6, ↓ty_6, ↓tzl_6, ↓tyl_6, ↓tv_6, ↓ta_7, ↓tb_7, ↓ts_7, ↓tl_7, ↓ta_8, ↓tb_8, ↓ts_8, ↓tl_8, ↓tf_9, ↓tp_9, ↓tz_9, ↓ty_9, ↓tzl_9, ↓tyl_9, ↓tv_9, ↓ta_10, ↓tb_10, ↓ts_10, ↓tl_10, ↓ta_11, ↓tb_11, ↓ts_11, ↓tl_11, ↓tf_12, ↓tp_12, ↓tz_12, ↓ty_12, ↓tzl_12, ↓tyl_12, ↓tv_12, ↓tf_13, ↓tp_13, ↓tz_13, ↓ty_13, ↓tzl_13, ↓tyl_13, ↓tv_13, ↓ta_14, ↓tb_14, ↓ts_14, ↓tl_14, ↓tf_15, ↓tp_15, ↓tz_15, ↓ty_15, ↓tzl_15, ↓tyl_15, ↓tv_15, ↓ta_16, ↓tb_16, ↓ts_16, ↓tl_16, ↓ta_17, ↓tb_17, ↓ts_17, ↓tl_17, ↓ta_19, ↓tb_19, ↓ts_19, ↓tl_19, ↓tf_44, ↓tp_44, ↓tz_44, ↓ty_44, ↓tzl_44, ↓tyl_44, ↓tv_44, ↓ta_45, ↓tb_45, ↓ts_45, ↓tl_45, ↓ta_46, ↓tb_46, ↓ts_46, ↓tl_46, ↓ta_47, ↓tb_47, ↓ts_47, ↓tl_47, ↓ta_18, ↓tr_0_0, ↓tr_0_1, ↓tr_0_2, ↓tr_0_3, ↓tr_0_4, ↓tr_1_0, ↓tr_1_1, ↓tr_4_0, ↓tr_6_0, ↓tr_6_1, ↓tr_9_6, ↓tr_9_7, ↓tr_12_0, ↓tr_12_1, ↓tr_12_2, ↓tr_12_3, ↓tr_12_4, ↓tr_13_0, ↓tr_13_1, ↓tr_13_2, ↓tr_15_6, ↓tr_15_7, ↓tr_44_0, ↓tr_44_1, ↓tr_44_2, ↓tr_44_3, ↓tr_0_5, ↓tr_0_6, ↓tr_0_7, ↓tr_0_8, ↓tr_12_5, ↓tu_12_5, ↓tr_13_3, ↓tu_13_3, ↓tr_13_4, ↓tu_13_4, ↓tr_13_5, ↓tu_13_5, ↓tr_44_4, ↓tu_44_4, ↓tr_44_5, ↓tu_44_5, ↓tr_44_6, ↓tu_44_6, ↓tu_0_5, ↓tu_0_6, ↓tu_0_7, ↓tu_0_8, ↓tfP, ↓tpP, ↓tvP, ↓trP_7, ↓trP_8, ↓trP_9, ↓trP_10, ↓trP_11, ↓trP_12, ↓trP_13, ↓trP_14, ↓taP_1, ↓taP_2, ↓taP_3, ↓taP_4, ↓taP_5, ↓taP_6, ↓taP_7, ↓taP_8, ↓tsP_1, ↓tsP_2, ↓tsP_3, ↓tsP_4, ↓tsP_5, ↓tsP_6, ↓tsP_7, ↓tsP_8, ↓tlP_7, ↓tlP_8, ↓tfS, ↓tpS, ↓tvS, ↓trS, ↓taS, ↓tsS, ↓tfT, ↓tzT, ↓tyT, ↓tzlT, ↓tylT, ↓trT_0, ↓trT_1, ↓taT_1, ↓taT_2, ↓tsT_1, ↓tsT_2, ↓tlT_2, ↓reduceIte, ↓bd_ite, ↓Option.bind_some, Option.toList_some, Option.toList_none, List.cons_append, List.nil_append, ↓tz0, ↓tz1, ↓st_z0, ↓st_z1, ↓t_is, ↓t_dv, ↓t_rm, st_us, st_uk, st_uo, nI_add, pk_mul, Nat.reduceAdd, Nat.reduceSub, Nat.reduceMul, pk_sub, nI_leI, nI_ltI, nI_eq, nn_leT, nn_leF, nn_ltT, nn_ltF, nn_eqT, nn_eqF, nm1, k_0, k_1, k_2, k_3, k_4, k_5, k_6, k_7, k_8, k_9, k_10, k_12, k_13, k_15, k_16, k_17, k_20, k_24, k_32, k_36, k_40, k_60, k_63, k_64, k_128, k_192, k_194, k_195, k_196, k_208, k_215, k_216, k_217, k_218, k_219, k_221, k_224, k_239, k_240, k_254, k_255, k_256, k_273, k_309, k_936, k_1600, k_2000, k_2304, k_4800, k_5980, k_6000, k_6912, k_12000, k_16383, k_32767, k_32768, k_65474, k_65475, k_65476, k_65496, k_65497, k_65498, k_65501, k_65535, k_65536, e1, e2, hp6, h10, ↓eb56_136, ↓eb56_143]
    · simp (disch := omega) only [↓tf_0, ↓tp_0, ↓tz_0, ↓ty_0, ↓tzl_0, ↓tyl_0, ↓tv_0, ↓tf_1, ↓tp_1, ↓tz_1, ↓ty_1, ↓tzl_1, ↓tyl_1, ↓tv_1, ↓ta_2, ↓tb_2, ↓ts_2, ↓tl_2, ↓ta_3, ↓tb_3, ↓ts_3, ↓tl_3, ↓tf_4, ↓tp_4, ↓tz_4, ↓ty_4, ↓tzl_4, ↓tyl_4, ↓tv_4, ↓ta_5, ↓tb_5, ↓ts_5, ↓tl_5, ↓tf_6, ↓tp_6, ↓tz_6, ↓ty_6, ↓tzl_6, ↓tyl_6, ↓tv_6, ↓ta_7, ↓tb_7, ↓ts_7, ↓tl_7, ↓ta_8, ↓tb_8, ↓ts_8, ↓tl_8, ↓tf_9, ↓tp_9, ↓tz_9, ↓ty_9, ↓tzl_9, ↓tyl_9, ↓tv_9, ↓ta_10, ↓tb_10, ↓ts_10, ↓tl_10, ↓ta_11, ↓tb_11, ↓ts_11, ↓tl_11, ↓tf_12, ↓tp_12, ↓tz_12, ↓ty_12, ↓tzl_12, ↓tyl_12, ↓tv_12, ↓tf_13, ↓tp_13, ↓tz_13, ↓ty_13, ↓tzl_13, ↓tyl_13, ↓tv_13, ↓ta_14, ↓tb_14, ↓ts_14, ↓tl_14, ↓tf_15, ↓tp_15, ↓tz_15, ↓ty_15, ↓tzl_15, ↓tyl_15, ↓tv_15, ↓ta_16, ↓tb_16, ↓ts_16, ↓tl_16, ↓ta_17, ↓tb_17, ↓ts_17, ↓tl_17, ↓ta_19, ↓tb_19, ↓ts_19, ↓tl_19, ↓tf_44, ↓tp_44, ↓tz_44, ↓ty_44, ↓tzl_44, ↓tyl_44, ↓tv_44, ↓ta_45, ↓tb_45, ↓ts_45, ↓tl_45, ↓ta_46, ↓tb_46, ↓ts_46, ↓tl_46, ↓ta_47, ↓tb_47, ↓ts_47, ↓tl_47, ↓ta_18, ↓tr_0_0, ↓tr_0_1, ↓tr_0_2, ↓tr_0_3, ↓tr_0_4, ↓tr_1_0, ↓tr_1_1, ↓tr_4_0, ↓tr_6_0, ↓tr_6_1, ↓tr_9_6, ↓tr_9_7, ↓tr_12_0, ↓tr_12_1, ↓tr_12_2, ↓tr_12_3, ↓tr_12_4, ↓tr_13_0, ↓tr_13_1, ↓tr_13_2, ↓tr_15_6, ↓tr_15_7, ↓tr_44_0, ↓tr_44_1, ↓tr_44_2, ↓tr_44_3, ↓tr_0_5, ↓tr_0_6, ↓tr_0_7, ↓tr_0_8, ↓tr_12_5, ↓tu_12_5, ↓tr_13_3, ↓tu_13_3, ↓tr_13_4, ↓tu_13_4, ↓tr_13_5, ↓tu_13_5, ↓tr_44_4, ↓tu_44_4, ↓tr_44_5, ↓tu_44_5, ↓tr_44_6, ↓tu_44_6, ↓tu_0_5, ↓tu_0_6, ↓tu_0_7, ↓tu_0_8, ↓tfP, ↓tpP, ↓tvP, ↓trP_7, ↓trP_8, ↓trP_9, ↓trP_10, ↓trP_11, ↓trP_12, ↓trP_13, ↓trP_14, ↓taP_1, ↓taP_2, ↓taP_3, ↓taP_4, ↓taP_5, ↓taP_6, ↓taP_7, ↓taP_8, ↓tsP_1, ↓tsP_2, ↓tsP_3, ↓tsP_4, ↓tsP_5, ↓tsP_6, ↓tsP_7, ↓tsP_8, ↓tlP_7, ↓tlP_8, ↓tfS, ↓tpS, ↓tvS, ↓trS, ↓taS, ↓tsS, ↓tfT, ↓tzT, ↓tyT, ↓tzlT, ↓tylT, ↓trT_0, ↓trT_1, ↓taT_1, ↓taT_2, ↓tsT_1, ↓tsT_2, ↓tlT_2, ↓reduceIte, ↓bd_ite, ↓Option.bind_some, Option.toList_some, Option.toList_none, List.cons_append, List.nil_append, ↓tz0, ↓tz1, ↓st_z0, ↓st_z1, ↓t_is, ↓t_dv, ↓t_rm, st_us, st_uk, st_uo, nI_add, pk_mul, Nat.reduceAdd, Nat.reduceSub, Nat.reduceMul, pk_sub, nI_leI, nI_ltI, nI_eq, nn_leT, nn_leF, nn_ltT, nn_ltF, nn_eqT, nn_eqF, nm1, k_0, k_1, k_2, k_3, k_4, k_5, k_6, k_7, k_8, k_9, k_10, k_12, k_13, k_15, k_16, k_17, k_20, k_24, k_32, k_36, k_40, k_60, k_63, k_64, k_128, k_192, k_194, k_195, k_196, k_208, k_215, k_216, k_217, k_218, k_219, k_221, k_224, k_239, k_240, k_254, k_255, k_256, k_273, k_309, k_936, k_1600, k_2000, k_2304, k_4800, k_5980, k_6000, k_6912, k_12000, k_16383, k_32767, k_32768, k_65474, k_65475, k_65476, k_65496, k_65497, k_65498, k_65501, k_65535, k_65536, e1, e2, hp6, h10, ↓eb56_136, ↓eb56_143]
  have rM : ∀ (M2 M3 : Nat → Nat → Int32), fU' M1 M2 → (∀ d X a b w v p, mm_ev pg_mt (d + 5) 203 [.ref 70] (st_h z X (M1) (st_R a b w v p)) = some (none, (st_h z X (M2) (st_R a b w v p)))) → (∀ d X a b w v p, mm_ev pg_mt (d + 3) 191 [.ref 70] (st_h z X (M2) (st_R a b w v p)) = some (none, (st_h z X (M3) (st_R a b w v p)))) → ∀ d X a b w v p, mm_rx (mm_ev pg_mt (d + 9)) pg_c179 (111, [.ref 70, .int N, .int r1, .int u2, y4], [], (st_h z X (M1) (st_R a b w v p))) = some (none, (st_h z X (M3) (st_R a b w v p))) := fun M2 M3 f e1 e2 d X a b w v p => by
    have k22 : M2 70 22 = nI 1 := by rw [f.2 22 (by decide) (by decide) (by decide) (by decide) (by decide)]; exact m22
    rw [eb179_111]
    simp (disch := omega) only [↓en186, ↓eb186_0, ↓eb186_12, ↓tf_70, ↓tp_70, ↓tz_70, ↓ty_70, ↓tzl_70, ↓tyl_70, ↓tv_70, ↓ta_71, ↓tb_71, ↓ts_71, ↓tl_71, ↓ta_72, ↓tb_72, ↓ts_72, ↓tl_72, ↓ta_73, ↓tb_73, ↓ts_73, ↓tl_73, ↓ta_74, ↓tb_74, ↓ts_74, ↓tl_74, ↓ta_75, ↓tb_75, ↓ts_75, ↓tl_75, ↓ta_76, ↓tb_76, ↓ts_76, ↓tl_76, ↓ta_77, ↓tb_77, ↓ts_77, ↓tl_77, ↓ta_78, ↓tb_78, ↓ts_78, ↓tl_78, ↓ta_79, ↓tb_79, ↓ts_79, ↓tl_79, ↓ta_80, ↓tb_80, ↓ts_80, ↓tl_80, ↓ta_81, ↓tb_81, ↓ts_81, ↓tl_81, ↓ta_82, ↓tb_82, ↓ts_82, ↓tl_82, ↓ta_83, ↓tb_83, ↓ts_83, ↓tl_83, ↓ta_84, ↓tb_84, ↓ts_84, ↓tl_84, ↓ta_85, ↓tb_85, ↓ts_85, ↓tl_85, ↓ta_86, ↓tb_86, ↓ts_86, ↓tl_86, ↓ta_87, ↓tb_87, ↓ts_87, ↓tl_87, ↓ta_88, ↓tb_88, ↓ts_88, ↓tl_88, ↓ta_89, ↓tb_89, ↓ts_89, ↓tl_89, ↓ta_90, ↓tb_90, ↓ts_90, ↓tl_90, ↓ta_91, ↓tb_91, ↓ts_91, ↓tl_91, ↓ta_92, ↓tb_92, ↓ts_92, ↓tl_92, ↓ta_93, ↓tb_93, ↓ts_93, ↓tl_93, ↓ta_94, ↓tb_94, ↓ts_94, ↓tl_94, ↓tr_70_1, ↓tr_70_3, ↓tr_70_5, ↓tr_70_6, ↓tr_70_7, ↓tr_70_8, ↓tr_70_9, ↓tr_70_10, ↓tr_70_11, ↓tr_70_12, ↓tr_70_13, ↓tr_70_14, ↓tr_70_15, ↓tr_70_17, ↓tr_70_19, ↓tr_70_29, ↓tr_70_41, ↓tr_70_44, ↓tr_70_45, ↓tr_70_46, ↓tr_70_47, ↓tr_70_49, ↓tr_70_51, ↓tr_70_53, ↓reduceIte, ↓bd_ite, ↓Option.bind_some, Option.toList_some, Option.toList_none, List.cons_append, List.nil_append, ↓tz0, ↓tz1, ↓st_z0, ↓st_z1, ↓t_is, ↓t_dv, ↓t_rm, st_us, st_uk, st_uo, nI_add, pk_mul, Nat.reduceAdd, Nat.reduceSub, Nat.reduceMul, pk_sub, nI_leI, nI_ltI, nI_eq, nn_leT, nn_leF, nn_ltT, nn_ltF, nn_eqT, nn_eqF, nm1, k_0, k_1, k_2, k_3, k_4, k_5, k_6, k_7, k_8, k_9, k_10, k_12, k_13, k_15, k_16, k_17, k_20, k_24, k_32, k_36, k_40, k_60, k_63, k_64, k_128, k_192, k_194, k_195, k_196, k_208, k_215, k_216, k_217, k_218, k_219, k_221, k_224, k_239, k_240, k_254, k_255, k_256, k_273, k_309, k_936, k_1600, k_2000, k_2304, k_4800, k_5980, k_6000, k_6912, k_12000, k_16383, k_32767, k_32768, k_65474, k_65475, k_65476, k_65496, k_65497, k_65498, k_65501, k_65535, k_65536, m37, e1, k22, e2, ↓eb179_115, ↓eb179_123, ↓eb179_134, ↓eb179_142]
  obtain ⟨gX0, gM0, c⟩ := h
  rcases c with ⟨c1, W, R, wt, k1, k2, k3, ⟨⟨H, f, hSK⟩, hRW, hdc, h10⟩⟩ | ⟨c1, ⟨e, he1, he2, he3⟩, ⟨W, R, wt, k1, k2, k3, k4⟩, W', R', wt', l1, l2, l3, l4⟩
  · obtain ⟨X2, M2, X3, M3, e1, e2, e3, e4, ⟨W3, H3, f3, e5, e6⟩, e7, e8, e9, e10⟩ := wfin z a b w v p hp6 hq (by omega) hSK (by omega) (by omega) hRW m22
    have q10 : X3 44 10 = nI 1 := by rw [e8.2 10 (by decide) (by decide)]; exact h10
    refine ⟨X3, M3, rX 1 X2 X3 (by decide) q10 e1 e2, rM M2 M3 e10 e3 e4, gX_t gX0 (gX_V e8), gM_t gM0 (gM_U e9), Or.inl ⟨?_, W3, 0, 0, by omega, Nat.le_refl _, Nat.le_refl _, ⟨H3, f3, e6⟩, e7, fun c hc => ?_, q10⟩⟩
    · rw [e9.2 39 (by decide) (by decide) (by decide) (by decide) (by decide)]
      exact c1
    · rw [e8.1 45 (by omega) (by omega) (by omega), e9.1 86 (by decide) (by decide)]
      exact hdc c hc
  · obtain ⟨N1, ⟨H, f, hSK⟩, hRW, n22⟩ := ghostM k4
    obtain ⟨X2, M2, X3, M3, e1, e2, e3, e4, ⟨W3, H3, f3, e5, e6⟩, e7, e8, e9, e10⟩ := wfin z a b w v p hp6 hq (by omega) hSK (by omega) (by omega) hRW n22
    obtain ⟨Y1, gY, ⟨⟨H4, f4, hSK4⟩, hRW4, -, -⟩⟩ := ghost (X := X1) hq l4
    obtain ⟨Y2, N2, Y3, N3, d1, d2, d3, d4, ⟨W5, H5, f5, d5, d6⟩, d7, d8, d9, d10⟩ := wfin z a b w v p hp6 hq (by omega) hSK4 (by omega) (by omega) hRW4 m22
    have q10 : X3 44 10 = nI 0 := by rw [e8.2 10 (by decide) (by decide)]; exact c1
    refine ⟨X3, N3, rX 0 X2 X3 (by decide) q10 e1 e2, rM N2 N3 d10 d3 d4, gX_t gX0 (gX_V e8), gM_t gM0 (gM_U d9), Or.inr ⟨q10, ⟨e, he1, he2, ?_⟩, ⟨W3, 0, 0, by omega, Nat.le_refl _, Nat.le_refl _, OX_of e6 e7⟩, W5, 0, 0, by omega, Nat.le_refl _, Nat.le_refl _, OM_of d6 d7⟩⟩
    rw [d9.2 39 (by decide) (by decide) (by decide) (by decide) (by decide)]
    exact he3
end
