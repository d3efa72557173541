/-! ===== moveSamplesUp; readData, walks: lossless ===== -/
theorem bit_ex : ∀ n, n < 4 → ∀ m, m < 8 → 1 ≤ m → m < 2 ^ n → ∃ c, c < n ∧ m / 2 ^ c % 2 = 1 := by decide
theorem pc_ex : ∀ n, n < 4 → ∀ m, m < 8 → m < 2 ^ n → pc3 m = 1 → ∃ c, c < n ∧ m = 2 ^ c := by decide
theorem bit_un : ∀ c0, c0 < 3 → ∀ c, c < 3 → 2 ^ c0 / 2 ^ c % 2 = 1 → c = c0 := by decide
theorem fU_pos {F : Nat → Nat} (hF : FF F) {m : Nat} (h1 : 1 ≤ m) (h2 : m < 2 ^ F 4) (h8 : m < 8) : 1 ≤ fU F m (F 4) := by
  have n3 := hF.2.2.2.2.2.1
  obtain ⟨c, hc, hb⟩ := bit_ex (F 4) (by omega) m h8 h1 h2
  have hf := hF.2.2.2.2.2.2.2.2.2 c hc
  have hfu := bits_le F hb
  have hmn := fU_mono F m (F 4 - (c + 1)) (c + 1)
  rw [show c + 1 + (F 4 - (c + 1)) = F 4 by omega] at hmn
  have := Nat.mul_pos (show 0 < F (10 + c) by omega) (show 0 < F (20 + c) by omega)
  omega
theorem fU_pc {F : Nat → Nat} (hF : FF F) (h2 : F 0 = 2) {m : Nat} (hm : m < 2 ^ F 4) : fU F m (F 4) = pc3 m := by
  have n1 := hF.2.2.2.2.1
  have n3 := hF.2.2.2.2.2.1
  have hb := fun c hc => FF_l hF h2 (c := c) hc
  have u1 : fU F m 1 = if m / 2 ^ 0 % 2 = 1 then 0 + F (10 + 0) * F (20 + 0) else 0 := rfl
  have u2 : fU F m 2 = if m / 2 ^ 1 % 2 = 1 then fU F m 1 + F (10 + 1) * F (20 + 1) else fU F m 1 := rfl
  have u3 : fU F m 3 = if m / 2 ^ 2 % 2 = 1 then fU F m 2 + F (10 + 2) * F (20 + 2) else fU F m 2 := rfl
  have b0 := hb 0 (by omega)
  rw [b0.2.2.1, b0.2.2.2.1] at u1
  unfold pc3
  have e1 : fU F m 1 = m % 2 := by
    rw [u1]
    split <;> omega
  rcases (show F 4 = 1 ∨ F 4 = 2 ∨ F 4 = 3 by omega) with e | e | e
  · rw [e] at hm ⊢
    have hm : m < 2 := hm
    omega
  · have b1 := hb 1 (by omega)
    rw [b1.2.2.1, b1.2.2.2.1] at u2
    rw [e] at hm ⊢
    have hm : m < 4 := hm
    rw [u2]
    split <;> omega
  · have b1 := hb 1 (by omega)
    have b2 := hb 2 (by omega)
    rw [b1.2.2.1, b1.2.2.2.1] at u2
    rw [b2.2.2.1, b2.2.2.2.1] at u3
    rw [e] at hm ⊢
    have hm : m < 8 := hm
    have e2 : fU F m 2 = m % 2 + m / 2 % 2 := by
      rw [u2]
      split <;> omega
    rw [u3]
    split <;> omega
theorem lone_getL {F : Nat → Nat} (hF : FF F) (h2 : F 0 = 2) {c u : Nat} (hc : c < F 4) (hu : u < F 2 * F 1) : (lone F c)[u]? = some (2304 * c + u) := by
  have hl := FF_l hF h2 hc
  have hsa : fSA F c = F 1 := (if_pos h2).trans hl.2.2.2.2.1
  have hsd : fSD F c = F 2 := (if_pos h2).trans hl.2.2.2.2.2
  have w1 := hF.1
  unfold lone
  rw [hsa, hsd, flat_get (f := fun y x => ucl F c x y) (by omega) _ _ hu]
  unfold ucl uw
  rw [if_pos h2, hl.1, hl.2.2.1, Nat.mul_one, Nat.mul_one]
  have := Nat.div_add_mod u (F 1)
  rw [Nat.mul_comm] at this
  rw [this, Nat.mul_comm c]
theorem seg0_getL {F : Nat → Nat} (hF : FF F) (h2 : F 0 = 2) {c u : Nat} (hc : c < F 4) : (seg0 F c (u % fA F) (u / fA F))[0]? = some (2304 * c + u) := by
  have hl := FF_l hF h2 hc
  unfold seg0
  rw [flat_get (f := fun y x => ucl F c (u % fA F * F (10 + c) + x) (u / fA F * F (20 + c) + y)) (by omega) _ _ (by rw [hl.2.2.1, hl.2.2.2.1]; decide)]
  unfold ucl uw
  rw [if_pos h2, hl.1, hl.2.2.1, hl.2.2.2.1, Nat.mul_one, Nat.mul_one, Nat.mul_one, Nat.mul_one, Nat.zero_div, Nat.zero_mod, Nat.add_zero, Nat.add_zero]
  have := Nat.div_add_mod u (F 1)
  rw [Nat.mul_comm] at this
  rw [this, Nat.mul_comm c]
section
variable (z a b w v : Nat) (p : Nat → Option Nat)
theorem mv_i {q m l c : Nat} (hq : q = 48 ∨ q = 57) (hm : m < 8) (hc : c < 3) (hb : m / 2 ^ c % 2 = 1) : ∀ (n k : Nat) (X : Nat → Nat → Int32), k + n = 2304 → X 15 0 = nI m → X 15 5 = nI l → ∃ X' : Nat → Nat → Int32, (∀ d M, mm_rx (mm_ev pg_mt (d + 1)) pg_c38 (21, [.ref q, .ref 15, .int (nI c), .int (nI (c * 2304 + k))], [], (st_h z X M (st_R a b w v p))) = mm_rx (mm_ev pg_mt (d + 1)) pg_c38 (2, [.ref q, .ref 15, .int (nI (c + 1)), .int (nI (c * 2304 + 2304))], [], (st_h z (X') M (st_R a b w v p)))) ∧ (∀ r, r ≠ q + 7 → X' r = X r) ∧ (∀ j, j < c * 2304 + k ∨ c * 2304 + 2304 ≤ j → X' (q + 7) j = X (q + 7) j) ∧ ∀ j, c * 2304 + k ≤ j → j < c * 2304 + 2304 → X' (q + 7) j = (X (q + 7) j <<< (nI l &&& 31)) &&& nI 65535
  | 0, k, X, e1, h0, h5 => by
    have e1 : k = 2304 := e1
    subst e1
    have hh := fun d M => has_15 (d := d) (z := z) (a := a) (b := b) (w := w) (v := v) (p := p) (M := M) h0 hm hc
    refine ⟨X, fun d M => ?_, fun _ _ => rfl, fun _ _ => rfl, fun j h1 h2 => absurd h1 (by omega)⟩
    rw [eb38_21]
    simp (disch := omega) only [↓tf_0, ↓tp_0, ↓tz_0, ↓ty_0, ↓tzl_0, ↓tyl_0, ↓tv_0, ↓tf_1, ↓tp_1, ↓tz_1, ↓ty_1, ↓tzl_1, ↓tyl_1, ↓tv_1, ↓ta_2, ↓tb_2, ↓ts_2, ↓tl_2, ↓ta_3, ↓tb_3, ↓ts_3, ↓tl_3, ↓tf_4, ↓tp_4, ↓tz_4, ↓ty_4, ↓tzl_4, ↓tyl_4, ↓tv_4, ↓ta_5, ↓tb_5, ↓ts_5, ↓tl_5, ↓tf_6, ↓tp_6, ↓tz_6, ↓ty_6, ↓tzl_6, ↓tyl_6, ↓tv_6, ↓ta_7, ↓tb_7, ↓ts_7, ↓tl_7, ↓ta_8, ↓tb_8, ↓ts_8, ↓tl_8, ↓tf_9, ↓tp_9, ↓tz_9, ↓ty_9, ↓tzl_9, ↓tyl_9, ↓tv_9, ↓ta_10, ↓tb_10, ↓ts_10, ↓tl_10, ↓ta_11, ↓tb_11, ↓ts_11, ↓tl_11, ↓tf_12, ↓tp_12, ↓tz_12, ↓ty_12, ↓tzl_12, ↓tyl_12, ↓tv_12, ↓tf_13, ↓tp_13, ↓tz_13, ↓ty_13, ↓tzl_13, ↓tyl_13, ↓tv_13, ↓ta_14, ↓tb_14, ↓ts_14, ↓tl_14, ↓tf_15, ↓tp_15, ↓tz_15, ↓ty_15, ↓tzl_15, ↓tyl_15, ↓tv_15, ↓ta_16, ↓tb_16, ↓ts_16, ↓tl_16, ↓ta_17, ↓tb_17, ↓ts_17, ↓tl_17, ↓ta_19, ↓tb_19, ↓ts_19, ↓tl_19, ↓tf_44, ↓tp_44, ↓tz_44, ↓ty_44, ↓tzl_44, ↓tyl_44, ↓tv_44, ↓ta_45, ↓tb_45, ↓ts_45, ↓tl_45, ↓ta_46, ↓tb_46, ↓ts_46, ↓tl_46, ↓ta_47, ↓tb_47, ↓ts_47, ↓tl_47, ↓ta_18, ↓tr_0_0, ↓tr_0_1, ↓tr_0_2, ↓tr_0_3, ↓tr_0_4, ↓tr_1_0, ↓tr_1_1, ↓tr_4_0, ↓tr_6_0, ↓tr_6_1, ↓tr_9_6, ↓tr_9_7, ↓tr_12_0, ↓tr_12_1, ↓tr_12_2, ↓tr_12_3, ↓tr_12_4, ↓tr_13_0, ↓tr_13_1, ↓tr_13_2, ↓tr_15_6, ↓tr_15_7, ↓tr_44_0, ↓tr_44_1, ↓tr_44_2, ↓tr_44_3, ↓tr_0_5, ↓tr_0_6, ↓tr_0_7, ↓tr_0_8, ↓tr_12_5, ↓tu_12_5, ↓tr_13_3, ↓tu_13_3, ↓tr_13_4, ↓tu_13_4, ↓tr_13_5, ↓tu_13_5, ↓tr_44_4, ↓tu_44_4, ↓tr_44_5, ↓tu_44_5, ↓tr_44_6, ↓tu_44_6, ↓tu_0_5, ↓tu_0_6, ↓tu_0_7, ↓tu_0_8, ↓tfP, ↓tpP, ↓tvP, ↓trP_7, ↓trP_8, ↓trP_9, ↓trP_10, ↓trP_11, ↓trP_12, ↓trP_13, ↓trP_14, ↓taP_1, ↓taP_2, ↓taP_3, ↓taP_4, ↓taP_5, ↓taP_6, ↓taP_7, ↓taP_8, ↓tsP_1, ↓tsP_2, ↓tsP_3, ↓tsP_4, ↓tsP_5, ↓tsP_6, ↓tsP_7, ↓tsP_8, ↓tlP_7, ↓tlP_8, ↓tfS, ↓tpS, ↓tvS, ↓trS, ↓taS, ↓tsS, ↓tfT, ↓tzT, ↓tyT, ↓tzlT, ↓tylT, ↓trT_0, ↓trT_1, ↓taT_1, ↓taT_2, ↓tsT_1, ↓tsT_2, ↓tlT_2, ↓reduceIte, ↓bd_ite, ↓Option.bind_some, Option.toList_some, Option.toList_none, List.cons_append, List.nil_append, ↓tz0, ↓tz1, ↓st_z0, ↓st_z1, ↓t_is, ↓t_dv, ↓t_rm, st_us, st_uk, st_uo, nI_add, pk_mul, Nat.reduceAdd, Nat.reduceSub, Nat.reduceMul, pk_sub, nI_leI, nI_ltI, nI_eq, nn_leT, nn_leF, nn_ltT, nn_ltF, nn_eqT, nn_eqF, nm1, k_0, k_1, k_2, k_3, k_4, k_5, k_6, k_7, k_8, k_9, k_10, k_12, k_13, k_15, k_16, k_17, k_20, k_24, k_32, k_36, k_40, k_60, k_63, k_64, k_128, k_192, k_194, k_195, k_196, k_208, k_215, k_216, k_217, k_218, k_219, k_221, k_224, k_239, k_240, k_254, k_255, k_256, k_273, k_309, k_936, k_1600, k_2000, k_2304, k_4800, k_5980, k_6000, k_6912, k_12000, k_16383, k_32767, k_32768, k_65474, k_65475, k_65476, k_65496, k_65497, k_65498, k_65501, k_65535, k_65536, hh, hb, ↓eb38_26, ↓eb38_66]
  | n + 1, k, X, e1, h0, h5 => by
    have hh := fun d M => has_15 (d := d) (z := z) (a := a) (b := b) (w := w) (v := v) (p := p) (M := M) h0 hm hc
    obtain ⟨X', i1, i2, i3, i4⟩ := mv_i (l := l) hq hm hc hb n (k + 1) (st_u X (q + 7) (c * 2304 + k) ((X (q + 7) (c * 2304 + k) <<< (nI l &&& 31)) &&& nI 65535)) (by omega) (by simp (disch := omega) only [↓reduceIte, ↓bd_ite, ↓Option.bind_some, Option.toList_some, Option.toList_none, List.cons_append, List.nil_append, ↓tz0, ↓tz1, ↓st_z0, ↓st_z1, ↓t_is, ↓t_dv, ↓t_rm, st_us, st_uk, st_uo, nI_add, pk_mul, Nat.reduceAdd, Nat.reduceSub, Nat.reduceMul, pk_sub, nI_leI, nI_ltI, nI_eq, nn_leT, nn_leF, nn_ltT, nn_ltF, nn_eqT, nn_eqF, nm1, k_0, k_1, k_2, k_3, k_4, k_5, k_6, k_7, k_8, k_9, k_10, k_12, k_13, k_15, k_16, k_17, k_20, k_24, k_32, k_36, k_40, k_60, k_63, k_64, k_128, k_192, k_194, k_195, k_196, k_208, k_215, k_216, k_217, k_218, k_219, k_221, k_224, k_239, k_240, k_254, k_255, k_256, k_273, k_309, k_936, k_1600, k_2000, k_2304, k_4800, k_5980, k_6000, k_6912, k_12000, k_16383, k_32767, k_32768, k_65474, k_65475, k_65476, k_65496, k_65497, k_65498, k_65501, k_65535, k_65536, h0]) (by simp (disch := omega) only [↓reduceIte, ↓bd_ite, ↓Option.bind_some, Option.toList_some, Option.toList_none, List.cons_append, List.nil_append, ↓tz0, ↓tz1, ↓st_z0, ↓st_z1, ↓t_is, ↓t_dv, ↓t_rm, st_us, st_uk, st_uo, nI_add, pk_mul, Nat.reduceAdd, Nat.reduceSub, Nat.reduceMul, pk_sub, nI_leI, nI_ltI, nI_eq, nn_leT, nn_leF, nn_ltT, nn_ltF, nn_eqT, nn_eqF, nm1, k_0, k_1, k_2, k_3, k_4, k_5, k_6, k_7, k_8, k_9, k_10, k_12, k_13, k_15, k_16, k_17, k_20, k_24, k_32, k_36, k_40, k_60, k_63, k_64, k_128, k_192, k_194, k_195, k_196, k_208, k_215, k_216, k_217, k_218, k_219, k_221, k_224, k_239, k_240, k_254, k_255, k_256, k_273, k_309, k_936, k_1600, k_2000, k_2304, k_4800, k_5980, k_6000, k_6912, k_12000, k_16383, k_32767, k_32768, k_65474, k_65475, k_65476, k_65496, k_65497, k_65498, k_65501, k_65535, k_65536, h5])
    refine ⟨X', fun d M => ?_, fun r hr => ?_, fun j hj => ?_, fun j h1 h2 => ?_⟩
    · rw [← i1 d M, eb38_21]
      simp (disch := omega) only [↓tf_0, ↓tp_0, ↓tz_0, ↓ty_0, ↓tzl_0, ↓tyl_0, ↓tv_0, ↓tf_1, ↓tp_1, ↓tz_1, ↓ty_1, ↓tzl_1, ↓tyl_1, ↓tv_1, ↓ta_2, ↓tb_2, ↓ts_2, ↓tl_2, ↓ta_3, ↓tb_3, ↓ts_3, ↓tl_3, ↓tf_4, ↓tp_4, ↓tz_4, ↓ty_4, ↓tzl_4, ↓tyl_4, ↓tv_4, ↓ta_5, ↓tb_5, ↓ts_5, ↓tl_5, ↓tf_6, ↓tp_6, ↓tz_6, ↓ty_6, ↓tzl_6, ↓tyl_6, ↓tv_6, ↓ta_7, ↓tb_7, ↓ts_7, ↓tl_7, ↓ta_8, ↓tb_8, ↓ts_8, ↓tl_8, ↓tf_9, ↓tp_9, ↓tz_9, ↓ty_9, ↓tzl_9, ↓tyl_9, ↓tv_9, ↓ta_10, ↓tb_10, ↓ts_10, ↓tl_10, ↓ta_11, ↓tb_11, ↓ts_11, ↓tl_11, ↓tf_12, ↓tp_12, ↓tz_12, ↓ty_12, ↓tzl_12, ↓tyl_12, ↓tv_12, ↓tf_13, ↓tp_13, ↓tz_13, ↓ty_13, ↓tzl_13, ↓tyl_13, ↓tv_13, ↓ta_14, ↓tb_14, ↓ts_14, ↓tl_14, ↓tf_15, ↓tp_15, ↓tz_15, ↓ty_15, ↓tzl_15, ↓tyl_15, ↓tv_15, ↓ta_16, ↓tb_16, ↓ts_16, ↓tl_16, ↓ta_17, ↓tb_17, ↓ts_17, ↓tl_17, ↓ta_19, ↓tb_19, ↓ts_19, ↓tl_19, ↓tf_44, ↓tp_44, ↓tz_44, ↓ty_44, ↓tzl_44, ↓tyl_44, ↓tv_44, ↓ta_45, ↓tb_45, ↓ts_45, ↓tl_45, ↓ta_46, ↓tb_46, ↓ts_46, ↓tl_46, ↓ta_47, ↓tb_47, ↓ts_47, ↓tl_47, ↓ta_18, ↓tr_0_0, ↓tr_0_1, ↓tr_0_2, ↓tr_0_3, ↓tr_0_4, ↓tr_1_0, ↓tr_1_1, ↓tr_4_0, ↓tr_6_0, ↓tr_6_1, ↓tr_9_6, ↓tr_9_7, ↓tr_12_0, ↓tr_12_1, ↓tr_12_2, ↓tr_12_3, ↓tr_12_4, ↓tr_13_0, ↓tr_13_1, ↓tr_13_2, ↓tr_15_6, ↓tr_15_7, ↓tr_44_0, ↓tr_44_1, ↓tr_44_2, ↓tr_44_3, ↓tr_0_5, ↓tr_0_6, ↓tr_0_7, ↓tr_0_8, ↓tr_12_5, ↓tu_12_5, ↓tr_13_3, ↓tu_13_3, ↓tr_13_4, ↓tu_13_4, ↓tr_13_5, ↓tu_13_5, ↓tr_44_4, ↓tu_44_4, ↓tr_44_5, ↓tu_44_5, ↓tr_44_6, ↓tu_44_6, ↓tu_0_5, ↓tu_0_6, ↓tu_0_7, ↓tu_0_8, ↓tfP, ↓tpP, ↓tvP, ↓trP_7, ↓trP_8, ↓trP_9, ↓trP_10, ↓trP_11, ↓trP_12, ↓trP_13, ↓trP_14, ↓taP_1, ↓taP_2, ↓taP_3, ↓taP_4, ↓taP_5, ↓taP_6, ↓taP_7, ↓taP_8, ↓tsP_1, ↓tsP_2, ↓tsP_3, ↓tsP_4, ↓tsP_5, ↓tsP_6, ↓tsP_7, ↓tsP_8, ↓tlP_7, ↓tlP_8, ↓tfS, ↓tpS, ↓tvS, ↓trS, ↓taS, ↓tsS, ↓tfT, ↓tzT, ↓tyT, ↓tzlT, ↓tylT, ↓trT_0, ↓trT_1, ↓taT_1, ↓taT_2, ↓tsT_1, ↓tsT_2, ↓tlT_2, ↓reduceIte, ↓bd_ite, ↓Option.bind_some, Option.toList_some, Option.toList_none, List.cons_append, List.nil_append, ↓tz0, ↓tz1, ↓st_z0, ↓st_z1, ↓t_is, ↓t_dv, ↓t_rm, st_us, st_uk, st_uo, nI_add, pk_mul, Nat.reduceAdd, Nat.reduceSub, Nat.reduceMul, pk_sub, nI_leI, nI_ltI, nI_eq, nn_leT, nn_leF, nn_ltT, nn_ltF, nn_eqT, nn_eqF, nm1, k_0, k_1, k_2, k_3, k_4, k_5, k_6, k_7, k_8, k_9, k_10, k_12, k_13, k_15, k_16, k_17, k_20, k_24, k_32, k_36, k_40, k_60, k_63, k_64, k_128, k_192, k_194, k_195, k_196, k_208, k_215, k_216, k_217, k_218, k_219, k_221, k_224, k_239, k_240, k_254, k_255, k_256, k_273, k_309, k_936, k_1600, k_2000, k_2304, k_4800, k_5980, k_6000, k_6912, k_12000, k_16383, k_32767, k_32768, k_65474, k_65475, k_65476, k_65496, k_65497, k_65498, k_65501, k_65535, k_65536, hh, hb, h5, Nat.add_assoc, ↓eb38_26]
    · rw [i2 r hr, st_uo _ _ _ _ _ hr]
    · rw [i3 j (by omega), st_uk _ _ _ _ _ (by omega)]
    · by_cases e : j = c * 2304 + k
      · subst e
        rw [i3 _ (by omega), st_us]
      · rw [i4 j (by omega) h2, st_uk _ _ _ _ _ e]
theorem mv_lp {q m l : Nat} {F : Nat → Nat} (hq : q = 48 ∨ q = 57) (hm : m < 8) (n3 : F 4 ≤ 3) : ∀ (n c : Nat) (y : Value) (X : Nat → Nat → Int32), c + n = F 4 → X q 4 = nI (F 4) → X 15 0 = nI m → X 15 5 = nI l → ∃ X' : Nat → Nat → Int32, (∀ d M, mm_rx (mm_ev pg_mt (d + 1)) pg_c38 (2, [.ref q, .ref 15, .int (nI c), y], [], (st_h z X M (st_R a b w v p))) = some (none, (st_h z (X') M (st_R a b w v p)))) ∧ (∀ r, r ≠ q + 7 → X' r = X r) ∧ ∀ c' j, c' < 3 → j < 2304 → X' (q + 7) (2304 * c' + j) = if c ≤ c' ∧ c' < F 4 ∧ m / 2 ^ c' % 2 = 1 then (X (q + 7) (2304 * c' + j) <<< (nI l &&& 31)) &&& nI 65535 else X (q + 7) (2304 * c' + j)
  | 0, c, y, X, e1, h4, h0, h5 => by
    have e1 : c = F 4 := e1
    subst e1
    refine ⟨X, fun d M => ?_, fun _ _ => rfl, fun c' j h1 h2 => by rw [if_neg (by omega)]⟩
    rw [eb38_2]
    simp (disch := omega) only [↓tf_0, ↓tp_0, ↓tz_0, ↓ty_0, ↓tzl_0, ↓tyl_0, ↓tv_0, ↓tf_1, ↓tp_1, ↓tz_1, ↓ty_1, ↓tzl_1, ↓tyl_1, ↓tv_1, ↓ta_2, ↓tb_2, ↓ts_2, ↓tl_2, ↓ta_3, ↓tb_3, ↓ts_3, ↓tl_3, ↓tf_4, ↓tp_4, ↓tz_4, ↓ty_4, ↓tzl_4, ↓tyl_4, ↓tv_4, ↓ta_5, ↓tb_5, ↓ts_5, ↓tl_5, ↓tf_6, ↓tp_6, ↓tz_6, ↓ty_6, ↓tzl_6, ↓tyl_6, ↓tv_6, ↓ta_7, ↓tb_7, ↓ts_7, ↓tl_7, ↓ta_8, ↓tb_8, ↓ts_8, ↓tl_8, ↓tf_9, ↓tp_9, ↓tz_9, ↓ty_9, ↓tzl_9, ↓tyl_9, ↓tv_9, ↓ta_10, ↓tb_10, ↓ts_10, ↓tl_10, ↓ta_11, ↓tb_11, ↓ts_11, ↓tl_11, ↓tf_12, ↓tp_12, ↓tz_12, ↓ty_12, ↓tzl_12, ↓tyl_12, ↓tv_12, ↓tf_13, ↓tp_13, ↓tz_13, ↓ty_13, ↓tzl_13, ↓tyl_13, ↓tv_13, ↓ta_14, ↓tb_14, ↓ts_14, ↓tl_14, ↓tf_15, ↓tp_15, ↓tz_15, ↓ty_15, ↓tzl_15, ↓tyl_15, ↓tv_15, ↓ta_16, ↓tb_16, ↓ts_16, ↓tl_16, ↓ta_17, ↓tb_17, ↓ts_17, ↓tl_17, ↓ta_19, ↓tb_19, ↓ts_19, ↓tl_19, ↓tf_44, ↓tp_44, ↓tz_44, ↓ty_44, ↓tzl_44, ↓tyl_44, ↓tv_44, ↓ta_45, ↓tb_45, ↓ts_45, ↓tl_45, ↓ta_46, ↓tb_46, ↓ts_46, ↓tl_46, ↓ta_47, ↓tb_47, ↓ts_47, ↓tl_47, ↓ta_18, ↓tr_0_0, ↓tr_0_1, ↓tr_0_2, ↓tr_0_3, ↓tr_0_4, ↓tr_1_0, ↓tr_1_1, ↓tr_4_0, ↓tr_6_0, ↓tr_6_1, ↓tr_9_6, ↓tr_9_7, ↓tr_12_0, ↓tr_12_1, ↓tr_12_2, ↓tr_12_3, ↓tr_12_4, ↓tr_13_0, ↓tr_13_1, ↓tr_13_2, ↓tr_15_6, ↓tr_15_7, ↓tr_44_0, ↓tr_44_1, ↓tr_44_2, ↓tr_44_3, ↓tr_0_5, ↓tr_0_6, ↓tr_0_7, ↓tr_0_8, ↓tr_12_5, ↓tu_12_5, ↓tr_13_3, ↓tu_13_3, ↓tr_13_4, ↓tu_13_4, ↓tr_13_5, ↓tu_13_5, ↓tr_44_4, ↓tu_44_4, ↓tr_44_5, ↓tu_44_5, ↓tr_44_6, ↓tu_44_6, ↓tu_0_5, ↓tu_0_6, ↓tu_0_7, ↓tu_0_8, ↓tfP, ↓tpP, ↓tvP, ↓trP_7, ↓trP_8, ↓trP_9, ↓trP_10, ↓trP_11, ↓trP_12, ↓trP_13, ↓trP_14, ↓taP_1, ↓taP_2, ↓taP_3, ↓taP_4, ↓taP_5, ↓taP_6, ↓taP_7, ↓taP_8, ↓tsP_1, ↓tsP_2, ↓tsP_3, ↓tsP_4, ↓tsP_5, ↓tsP_6, ↓tsP_7, ↓tsP_8, ↓tlP_7, ↓tlP_8, ↓tfS, ↓tpS, ↓tvS, ↓trS, ↓taS, ↓tsS, ↓tfT, ↓tzT, ↓tyT, ↓tzlT, ↓tylT, ↓trT_0, ↓trT_1, ↓taT_1, ↓taT_2, ↓tsT_1, ↓tsT_2, ↓tlT_2, ↓reduceIte, ↓bd_ite, ↓Option.bind_some, Option.toList_some, Option.toList_none, List.cons_append, List.nil_append, ↓tz0, ↓tz1, ↓st_z0, ↓st_z1, ↓t_is, ↓t_dv, ↓t_rm, st_us, st_uk, st_uo, nI_add, pk_mul, Nat.reduceAdd, Nat.reduceSub, Nat.reduceMul, pk_sub, nI_leI, nI_ltI, nI_eq, nn_leT, nn_leF, nn_ltT, nn_ltF, nn_eqT, nn_eqF, nm1, k_0, k_1, k_2, k_3, k_4, k_5, k_6, k_7, k_8, k_9, k_10, k_12, k_13, k_15, k_16, k_17, k_20, k_24, k_32, k_36, k_40, k_60, k_63, k_64, k_128, k_192, k_194, k_195, k_196, k_208, k_215, k_216, k_217, k_218, k_219, k_221, k_224, k_239, k_240, k_254, k_255, k_256, k_273, k_309, k_936, k_1600, k_2000, k_2304, k_4800, k_5980, k_6000, k_6912, k_12000, k_16383, k_32767, k_32768, k_65474, k_65475, k_65476, k_65496, k_65497, k_65498, k_65501, k_65535, k_65536, h4, ite_self, ↓eb38_72]
  | n + 1, c, y, X, e1, h4, h0, h5 => by
    have hh := fun d M => has_15 (d := d) (z := z) (a := a) (b := b) (w := w) (v := v) (p := p) (M := M) h0 hm (c := c) (by omega)
    have st : ∀ d M, mm_rx (mm_ev pg_mt (d + 1)) pg_c38 (2, [.ref q, .ref 15, .int (nI c), y], [], (st_h z X M (st_R a b w v p))) = mm_rx (mm_ev pg_mt (d + 1)) pg_c38 (21, [.ref q, .ref 15, .int (nI c), .int (nI (c * 2304))], [], (st_h z X M (st_R a b w v p))) := fun d M => by
      rw [eb38_2]
      simp (disch := omega) only [↓tf_0, ↓tp_0, ↓tz_0, ↓ty_0, ↓tzl_0, ↓tyl_0, ↓tv_0, ↓tf_1, ↓tp_1, ↓tz_1, ↓ty_1, ↓tzl_1, ↓tyl_1, ↓tv_1, ↓ta_2, ↓tb_2, ↓ts_2, ↓tl_2, ↓ta_3, ↓tb_3, ↓ts_3, ↓tl_3, ↓tf_4, ↓tp_4, ↓tz_4, ↓ty_4, ↓tzl_4, ↓tyl_4, ↓tv_4, ↓ta_5, ↓tb_5, ↓ts_5, ↓tl_5, ↓tf_6, ↓tp_6, ↓tz_6, ↓ty_6, ↓tzl_6, ↓tyl_6, ↓tv_6, ↓ta_7, ↓tb_7, ↓ts_7, ↓tl_7, ↓ta_8, ↓tb_8, ↓ts_8, ↓tl_8, ↓tf_9, ↓tp_9, ↓tz_9, ↓ty_9, ↓tzl_9, ↓tyl_9, ↓tv_9, ↓ta_10, ↓tb_10, ↓ts_10, ↓tl_10, ↓ta_11, ↓tb_11, ↓ts_11, ↓tl_11, ↓tf_12, ↓tp_12, ↓tz_12, ↓ty_12, ↓tzl_12, ↓tyl_12, ↓tv_12, ↓tf_13, ↓tp_13, ↓tz_13, ↓ty_13, ↓tzl_13, ↓tyl_13, ↓tv_13, ↓ta_14, ↓tb_14, ↓ts_14, ↓tl_14, ↓tf_15, ↓tp_15, ↓tz_15, ↓ty_15, ↓tzl_15, ↓tyl_15, ↓tv_15, ↓ta_16, ↓tb_16, ↓ts_16, ↓tl_16, ↓ta_17, ↓tb_17, ↓ts_17, ↓tl_17, ↓ta_19, ↓tb_19, ↓ts_19, ↓tl_19, ↓tf_44, ↓tp_44, ↓tz_44, ↓ty_44, ↓tzl_44, ↓tyl_44, ↓tv_44, ↓ta_45, ↓tb_45, ↓ts_45, ↓tl_45, ↓ta_46, ↓tb_46, ↓ts_46, ↓tl_46, ↓ta_47, ↓tb_47, ↓ts_47, ↓tl_47, ↓ta_18, ↓tr_0_0, ↓tr_0_1, ↓tr_0_2, ↓tr_0_3, ↓tr_0_4, ↓tr_1_0, ↓tr_1_1, ↓tr_4_0, ↓tr_6_0, ↓tr_6_1, ↓tr_9_6, ↓tr_9_7, ↓tr_12_0, ↓tr_12_1, ↓tr_12_2, ↓tr_12_3, ↓tr_12_4, ↓tr_13_0, ↓tr_13_1, ↓tr_13_2, ↓tr_15_6, ↓tr_15_7, ↓tr_44_0, ↓tr_44_1, ↓tr_44_2, ↓tr_44_3, ↓tr_0_5, ↓tr_0_6, ↓tr_0_7, ↓tr_0_8, ↓tr_12_5, ↓tu_12_5, ↓tr_13_3, ↓tu_13_3, ↓tr_13_4, ↓tu_13_4, ↓tr_13_5, ↓tu_13_5, ↓tr_44_4, ↓tu_44_4, ↓tr_44_5, ↓tu_44_5, ↓tr_44_6, ↓tu_44_6, ↓tu_0_5, ↓tu_0_6, ↓tu_0_7, ↓tu_0_8, ↓tfP, ↓tpP, ↓tvP, ↓trP_7, ↓trP_8, ↓trP_9, ↓trP_10, ↓trP_11, ↓trP_12, ↓trP_13, ↓trP_14, ↓taP_1, ↓taP_2, ↓taP_3, ↓taP_4, ↓taP_5, ↓taP_6, ↓taP_7, ↓taP_8, ↓tsP_1, ↓tsP_2, ↓tsP_3, ↓tsP_4, ↓tsP_5, ↓tsP_6, ↓tsP_7, ↓tsP_8, ↓tlP_7, ↓tlP_8, ↓tfS, ↓tpS, ↓tvS, ↓trS, ↓taS, ↓tsS, ↓tfT, ↓tzT, ↓tyT, ↓tzlT, ↓tylT, ↓trT_0, ↓trT_1, ↓taT_1, ↓taT_2, ↓tsT_1, ↓tsT_2, ↓tlT_2, ↓reduceIte, ↓bd_ite, ↓Option.bind_some, Option.toList_some, Option.toList_none, List.cons_append, List.nil_append, ↓tz0, ↓tz1, ↓st_z0, ↓st_z1, ↓t_is, ↓t_dv, ↓t_rm, st_us, st_uk, st_uo, nI_add, pk_mul, Nat.reduceAdd, Nat.reduceSub, Nat.reduceMul, pk_sub, nI_leI, nI_ltI, nI_eq, nn_leT, nn_leF, nn_ltT, nn_ltF, nn_eqT, nn_eqF, nm1, k_0, k_1, k_2, k_3, k_4, k_5, k_6, k_7, k_8, k_9, k_10, k_12, k_13, k_15, k_16, k_17, k_20, k_24, k_32, k_36, k_40, k_60, k_63, k_64, k_128, k_192, k_194, k_195, k_196, k_208, k_215, k_216, k_217, k_218, k_219, k_221, k_224, k_239, k_240, k_254, k_255, k_256, k_273, k_309, k_936, k_1600, k_2000, k_2304, k_4800, k_5980, k_6000, k_6912, k_12000, k_16383, k_32767, k_32768, k_65474, k_65475, k_65476, k_65496, k_65497, k_65498, k_65501, k_65535, k_65536, h4]
    rcases (show m / 2 ^ c % 2 = 0 ∨ m / 2 ^ c % 2 = 1 by omega) with hb | hb
    · obtain ⟨X', i1, i2, i3⟩ := mv_lp hq hm n3 n (c + 1) (.int (nI (c * 2304))) X (by omega) h4 h0 h5
      refine ⟨X', fun d M => ?_, i2, fun c' j h1 h2 => ?_⟩
      · rw [← i1 d M, st d M, eb38_21]
        simp (disch := omega) only [↓tf_0, ↓tp_0, ↓tz_0, ↓ty_0, ↓tzl_0, ↓tyl_0, ↓tv_0, ↓tf_1, ↓tp_1, ↓tz_1, ↓ty_1, ↓tzl_1, ↓tyl_1, ↓tv_1, ↓ta_2, ↓tb_2, ↓ts_2, ↓tl_2, ↓ta_3, ↓tb_3, ↓ts_3, ↓tl_3, ↓tf_4, ↓tp_4, ↓tz_4, ↓ty_4, ↓tzl_4, ↓tyl_4, ↓tv_4, ↓ta_5, ↓tb_5, ↓ts_5, ↓tl_5, ↓tf_6, ↓tp_6, ↓tz_6, ↓ty_6, ↓tzl_6, ↓tyl_6, ↓tv_6, ↓ta_7, ↓tb_7, ↓ts_7, ↓tl_7, ↓ta_8, ↓tb_8, ↓ts_8, ↓tl_8, ↓tf_9, ↓tp_9, ↓tz_9, ↓ty_9, ↓tzl_9, ↓tyl_9, ↓tv_9, ↓ta_10, ↓tb_10, ↓ts_10, ↓tl_10, ↓ta_11, ↓tb_11, ↓ts_11, ↓tl_11, ↓tf_12, ↓tp_12, ↓tz_12, ↓ty_12, ↓tzl_12, ↓tyl_12, ↓tv_12, ↓tf_13, ↓tp_13, ↓tz_13, ↓ty_13, ↓tzl_13, ↓tyl_13, ↓tv_13, ↓ta_14, ↓tb_14, ↓ts_14, ↓tl_14, ↓tf_15, ↓tp_15, ↓tz_15, ↓ty_15, ↓tzl_15, ↓tyl_15, ↓tv_15, ↓ta_16, ↓tb_16, ↓ts_16, ↓tl_16, ↓ta_17, ↓tb_17, ↓ts_17, ↓tl_17, ↓ta_19, ↓tb_19, ↓ts_19, ↓tl_19, ↓tf_44, ↓tp_44, ↓tz_44, ↓ty_44, ↓tzl_44, ↓tyl_44, ↓tv_44, ↓ta_45, ↓tb_45, ↓ts_45, ↓tl_45, ↓ta_46, ↓tb_46, ↓ts_46, ↓tl_46, ↓ta_47, ↓tb_47, ↓ts_47, ↓tl_47, ↓ta_18, ↓tr_0_0, ↓tr_0_1, ↓tr_0_2, ↓tr_0_3, ↓tr_0_4, ↓tr_1_0, ↓tr_1_1, ↓tr_4_0, ↓tr_6_0, ↓tr_6_1, ↓tr_9_6, ↓tr_9_7, ↓tr_12_0, ↓tr_12_1, ↓tr_12_2, ↓tr_12_3, ↓tr_12_4, ↓tr_13_0, ↓tr_13_1, ↓tr_13_2, ↓tr_15_6, ↓tr_15_7, ↓tr_44_0, ↓tr_44_1, ↓tr_44_2, ↓tr_44_3, ↓tr_0_5, ↓tr_0_6, ↓tr_0_7, ↓tr_0_8, ↓tr_12_5, ↓tu_12_5, ↓tr_13_3, ↓tu_13_3, ↓tr_13_4, ↓tu_13_4, ↓tr_13_5, ↓tu_13_5, ↓tr_44_4, ↓tu_44_4, ↓tr_44_5, ↓tu_44_5, ↓tr_44_6, ↓tu_44_6, ↓tu_0_5, ↓tu_0_6, ↓tu_0_7, ↓tu_0_8, ↓tfP, ↓tpP, ↓tvP, ↓trP_7, ↓trP_8, ↓trP_9, ↓trP_10, ↓trP_11, ↓trP_12, ↓trP_13, ↓trP_14, ↓taP_1, ↓taP_2, ↓taP_3, ↓taP_4, ↓taP_5, ↓taP_6, ↓taP_7, ↓taP_8, ↓tsP_1, ↓tsP_2, ↓tsP_3, ↓tsP_4, ↓tsP_5, ↓tsP_6, ↓tsP_7, ↓tsP_8, ↓tlP_7, ↓tlP_8, ↓tfS, ↓tpS, ↓tvS, ↓trS, ↓taS, ↓tsS, ↓tfT, ↓tzT, ↓tyT, ↓tzlT, ↓tylT, ↓trT_0, ↓trT_1, ↓taT_1, ↓taT_2, ↓tsT_1, ↓tsT_2, ↓tlT_2, ↓reduceIte, ↓bd_ite, ↓Option.bind_some, Option.toList_some, Option.toList_none, List.cons_append, List.nil_append, ↓tz0, ↓tz1, ↓st_z0, ↓st_z1, ↓t_is, ↓t_dv, ↓t_rm, st_us, st_uk, st_uo, nI_add, pk_mul, Nat.reduceAdd, Nat.reduceSub, Nat.reduceMul, pk_sub, nI_leI, nI_ltI, nI_eq, nn_leT, nn_leF, nn_ltT, nn_ltF, nn_eqT, nn_eqF, nm1, k_0, k_1, k_2, k_3, k_4, k_5, k_6, k_7, k_8, k_9, k_10, k_12, k_13, k_15, k_16, k_17, k_20, k_24, k_32, k_36, k_40, k_60, k_63, k_64, k_128, k_192, k_194, k_195, k_196, k_208, k_215, k_216, k_217, k_218, k_219, k_221, k_224, k_239, k_240, k_254, k_255, k_256, k_273, k_309, k_936, k_1600, k_2000, k_2304, k_4800, k_5980, k_6000, k_6912, k_12000, k_16383, k_32767, k_32768, k_65474, k_65475, k_65476, k_65496, k_65497, k_65498, k_65501, k_65535, k_65536, hh, hb, ↓eb38_26, ↓eb38_66]
      · rw [i3 c' j h1 h2]
        by_cases e : c' = c
        · subst e
          rw [if_neg (by omega), if_neg (by omega)]
        · by_cases h3 : c ≤ c' ∧ c' < F 4 ∧ m / 2 ^ c' % 2 = 1
          · rw [if_pos (by omega), if_pos h3]
          · rw [if_neg (by omega), if_neg h3]
    · obtain ⟨X1, k1, k2, k3, k4⟩ := mv_i z a b w v p (l := l) hq hm (show c < 3 by omega) hb 2304 0 X (by omega) h0 h5
      obtain ⟨X', i1, i2, i3⟩ := mv_lp hq hm n3 n (c + 1) (.int (nI (c * 2304 + 2304))) X1 (by omega) (by rw [k2 q (by omega)]; exact h4) (by rw [k2 15 (by omega)]; exact h0) (by rw [k2 15 (by omega)]; exact h5)
      refine ⟨X', fun d M => ?_, fun r hr => (i2 r hr).trans (k2 r hr), fun c' j h1 h2 => ?_⟩
      · have hk := k1 d M
        rw [Nat.add_zero (c * 2304)] at hk
        rw [st d M, ← i1 d M, hk]
      · rw [i3 c' j h1 h2]
        by_cases e : c' = c
        · subst e
          rw [if_neg (by omega), if_pos ⟨Nat.le_refl _, by omega, hb⟩, k4 _ (by omega) (by omega)]
        · rw [k3 _ (by omega)]
          by_cases h3 : c ≤ c' ∧ c' < F 4 ∧ m / 2 ^ c' % 2 = 1
          · rw [if_pos (by omega), if_pos h3]
          · rw [if_neg (by omega), if_neg h3]
theorem mv_X {q m l : Nat} {F : Nat → Nat} {X : Nat → Nat → Int32} (hq : q = 48 ∨ q = 57) (hm : m < 8) (n3 : F 4 ≤ 3) (h4 : X q 4 = nI (F 4)) (h0 : X 15 0 = nI m) (h5 : X 15 5 = nI l) : ∃ X' : Nat → Nat → Int32, (∀ d M, mm_ev pg_mt (d + 2) 38 [.ref q, .ref 15] (st_h z X M (st_R a b w v p)) = some (none, (st_h z (X') M (st_R a b w v p)))) ∧ (∀ r, r ≠ q + 7 → X' r = X r) ∧ ∀ c' j, c' < 3 → j < 2304 → X' (q + 7) (2304 * c' + j) = if c' < F 4 ∧ m / 2 ^ c' % 2 = 1 then (X (q + 7) (2304 * c' + j) <<< (nI l &&& 31)) &&& nI 65535 else X (q + 7) (2304 * c' + j) := by
  obtain ⟨X', i1, i2, i3⟩ := mv_lp z a b w v p (l := l) hq hm n3 (F 4) 0 (.retAddr 0) X (by omega) h4 h0 h5
  refine ⟨X', fun d M => ?_, i2, fun c' j h1 h2 => ?_⟩
  · rw [en38, eb38_0]
    exact i1 d M
  · rw [i3 c' j h1 h2]
    by_cases h3 : c' < F 4 ∧ m / 2 ^ c' % 2 = 1
    · rw [if_pos ⟨Nat.zero_le _, h3⟩, if_pos h3]
    · rw [if_neg (fun h => h3 h.2), if_neg h3]
end
