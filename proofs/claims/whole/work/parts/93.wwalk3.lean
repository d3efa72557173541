/-! ===== WRITING: an MCU of more components; the walk over them ===== -/
section
variable (z a b w v : Nat) (p : Nat → Option Nat)
theorem mcuW_lp {q qa u h l m iv Wb K : Nat} {F : Nat → Nat} (hq : q = 66 ∨ q = 68) (ha : qa = 48 ∨ qa = 57) (hp4 : p 4 = some qa) (hp5 : p 5 = some 9) (hp6 : p 6 = some q) (hF : FF F) (hk1 : F 0 = 1) (hm : m < 8) (hP0 : 1 ≤ fU F m (F 4)) (hP : fU F m (F 4) ≤ 10) (hl : l ≤ 13) (hh : h ≤ 14) (hiv : iv < 65536) (hu : u < fD F * fA F) (hWb : Wb + 20000 < 2 ^ 29) (hK : 8000 ≤ K) (I : Int32) : ∀ (n' c : Nat) (f : Bool) (W R : Nat) (y8 : Value) (X M : Nat → Nat → Int32), c + n' = F 4 → AL q W R 0 X M → SW2 X M qa F m h l iv → (f = true ↔ fU F m c = 0) → W + K * (fU F m (F 4) - fU F m c) ≤ Wb → R + (fU F m (F 4) - fU F m c) ≤ 5000 → ∃ (X' M' : Nat → Nat → Int32) (t' : Nat) (y8' : Value), (∀ d M, (if f = true then mm_rx (mm_ev pg_mt (d + 5)) pg_c56 (93, [.ref 44, .ref qa, .ref 9, .int I, .ref q, .int (nI (spn (fD F * fA F * fU F m (F 4)) iv (fU F m (F 4)))), .int (nI (wyP 0 h)), .int (nI (u * fU F m (F 4) + fU F m c)), .int (nI ((u * fU F m (F 4) + fU F m c) % spn (fD F * fA F * fU F m (F 4)) iv (fU F m (F 4))))], [], (st_h z X M (st_R a b w v p))) else mm_rx (mm_ev pg_mt (d + 5)) pg_c56 (53, [.ref 44, .ref qa, .ref 9, .int I, .ref q, .int (nI (spn (fD F * fA F * fU F m (F 4)) iv (fU F m (F 4)))), .int (nI (wyP 0 h)), .int (nI (u * fU F m (F 4) + fU F m c)), y8], [], (st_h z X M (st_R a b w v p)))) = mm_rx (mm_ev pg_mt (d + 5)) pg_c56 (53, [.ref 44, .ref qa, .ref 9, .int I, .ref q, .int (nI (spn (fD F * fA F * fU F m (F 4)) iv (fU F m (F 4)))), .int (nI (wyP 0 h)), .int (nI t'), y8'], [], (st_h z (X') M (st_R a b w v p)))) ∧ (∀ d X a b w v p, mm_rx (mm_ev pg_mt (d + 8)) pg_c183 (135, [.ref 70, .int (nI u), .int (nI (fA F)), .int (-nI 1), .int (nI c)], [], (st_h z X M (st_R a b w v p))) = some (none, (st_h z X (M') (st_R a b w v p)))) ∧ WV q (W + K * (fU F m (F 4) - fU F m c)) (R + (fU F m (F 4) - fU F m c)) 0 X M X' M' ∧ t' ≤ fD F * fA F * fU F m (F 4) ∧ (X' 44 10 = nI 1 → t' = (u + 1) * fU F m (F 4))
  | 0, c, f, W, R, y8, X, M, e1, hA, hS, hf, hW, hR => by
    have e1 : c = F 4 := e1
    subst e1
    have n3 := hF.2.2.2.2.2.1
    have hf : f = false := by
      cases f with
      | false => rfl
      | true =>
        have := hf.1 rfl
        omega
    subst hf
    have hltt : u * fU F m (F 4) + fU F m (F 4) ≤ fD F * fA F * fU F m (F 4) := by
      have := Nat.mul_le_mul_right (fU F m (F 4)) (show u + 1 ≤ fD F * fA F by omega)
      rw [Nat.succ_mul] at this
      exact this
    obtain ⟨hPX, hPM, -, -, -, -, m21, -⟩ := hS
    have m77 := hPM.2.2.2.2.2.1
    refine ⟨X, M, u * fU F m (F 4) + fU F m (F 4), y8, fun d M => if_neg (by decide), fun d X a b w v p => ?_, ⟨gX_r q X, gM_r M, Or.inl ⟨rfl, W, R, 0, Nat.le_add_right _ _, Nat.le_add_right _ _, Nat.le_refl _, hA⟩⟩, hltt, fun e => by rw [Nat.succ_mul]⟩
    rw [eb183_135]
    simp (disch := omega) only [↓tf_70, ↓tp_70, ↓tz_70, ↓ty_70, ↓tzl_70, ↓tyl_70, ↓tv_70, ↓ta_71, ↓tb_71, ↓ts_71, ↓tl_71, ↓ta_72, ↓tb_72, ↓ts_72, ↓tl_72, ↓ta_73, ↓tb_73, ↓ts_73, ↓tl_73, ↓ta_74, ↓tb_74, ↓ts_74, ↓tl_74, ↓ta_75, ↓tb_75, ↓ts_75, ↓tl_75, ↓ta_76, ↓tb_76, ↓ts_76, ↓tl_76, ↓ta_77, ↓tb_77, ↓ts_77, ↓tl_77, ↓ta_78, ↓tb_78, ↓ts_78, ↓tl_78, ↓ta_79, ↓tb_79, ↓ts_79, ↓tl_79, ↓ta_80, ↓tb_80, ↓ts_80, ↓tl_80, ↓ta_81, ↓tb_81, ↓ts_81, ↓tl_81, ↓ta_82, ↓tb_82, ↓ts_82, ↓tl_82, ↓ta_83, ↓tb_83, ↓ts_83, ↓tl_83, ↓ta_84, ↓tb_84, ↓ts_84, ↓tl_84, ↓ta_85, ↓tb_85, ↓ts_85, ↓tl_85, ↓ta_86, ↓tb_86, ↓ts_86, ↓tl_86, ↓ta_87, ↓tb_87, ↓ts_87, ↓tl_87, ↓ta_88, ↓tb_88, ↓ts_88, ↓tl_88, ↓ta_89, ↓tb_89, ↓ts_89, ↓tl_89, ↓ta_90, ↓tb_90, ↓ts_90, ↓tl_90, ↓ta_91, ↓tb_91, ↓ts_91, ↓tl_91, ↓ta_92, ↓tb_92, ↓ts_92, ↓tl_92, ↓ta_93, ↓tb_93, ↓ts_93, ↓tl_93, ↓ta_94, ↓tb_94, ↓ts_94, ↓tl_94, ↓tr_70_1, ↓tr_70_3, ↓tr_70_5, ↓tr_70_6, ↓tr_70_7, ↓tr_70_8, ↓tr_70_9, ↓tr_70_10, ↓tr_70_11, ↓tr_70_12, ↓tr_70_13, ↓tr_70_14, ↓tr_70_15, ↓tr_70_17, ↓tr_70_19, ↓tr_70_29, ↓tr_70_41, ↓tr_70_44, ↓tr_70_45, ↓tr_70_46, ↓tr_70_47, ↓tr_70_49, ↓tr_70_51, ↓tr_70_53, ↓reduceIte, ↓bd_ite, ↓Option.bind_some, Option.toList_some, Option.toList_none, List.cons_append, List.nil_append, ↓tz0, ↓tz1, ↓st_z0, ↓st_z1, ↓t_is, ↓t_dv, ↓t_rm, st_us, st_uk, st_uo, nI_add, pk_mul, Nat.reduceAdd, Nat.reduceSub, Nat.reduceMul, pk_sub, nI_leI, nI_ltI, nI_eq, nn_leT, nn_leF, nn_ltT, nn_ltF, nn_eqT, nn_eqF, nm1, k_0, k_1, k_2, k_3, k_4, k_5, k_6, k_7, k_8, k_9, k_10, k_12, k_13, k_15, k_16, k_17, k_20, k_24, k_32, k_36, k_40, k_60, k_63, k_64, k_128, k_192, k_194, k_195, k_196, k_208, k_215, k_216, k_217, k_218, k_219, k_221, k_224, k_239, k_240, k_254, k_255, k_256, k_273, k_309, k_936, k_1600, k_2000, k_2304, k_4800, k_5980, k_6000, k_6912, k_12000, k_16383, k_32767, k_32768, k_65474, k_65475, k_65476, k_65496, k_65497, k_65498, k_65501, k_65535, k_65536, m21, m77, ↓eb183_179]
  | n' + 1, c, f, W, R, y8, X, M, e1, hA, hS, hff, hW, hR => by
    have n3 := hF.2.2.2.2.2.1
    have had := FF_ad hF
    have hN2 := Nat.mul_le_mul had.2.2.2 had.2.1
    have hf10 := hF.2.2.2.2.2.2.2.2.2 c (by omega)
    have hS' := hS
    obtain ⟨hPX, hPM, hOL, hOW, x2, hBW, m21, m23, m24, m26, m28, m37⟩ := hS'
    have m77 := hPM.2.2.2.2.2.1
    have mc := hPM.2.2.2.2.2.2 c (by omega)
    have hL : X 1 3 = nI (fD F * fA F * fU F m (F 4)) := by rw [hOL.1, allu_len]
    rcases (show m / 2 ^ c % 2 = 0 ∨ m / 2 ^ c % 2 = 1 by omega) with hb | hb
    · have hfu : fU F m (c + 1) = fU F m c := if_neg (by omega)
      obtain ⟨X', M', t', y8', i1, i2, i3⟩ := mcuW_lp hq ha hp4 hp5 hp6 hF hk1 hm hP0 hP hl hh hiv hu hWb hK I n' (c + 1) f W R y8 X M (by omega) hA hS (by rw [hfu]; exact hff) (by rw [hfu]; exact hW) (by rw [hfu]; exact hR)
      rw [hfu] at i1 i3
      refine ⟨X', M', t', y8', i1, fun d X a b w v p => ?_, i3⟩
      rw [← i2 d X a b w v p, eb183_135]
      simp (disch := omega) only [↓tf_70, ↓tp_70, ↓tz_70, ↓ty_70, ↓tzl_70, ↓tyl_70, ↓tv_70, ↓ta_71, ↓tb_71, ↓ts_71, ↓tl_71, ↓ta_72, ↓tb_72, ↓ts_72, ↓tl_72, ↓ta_73, ↓tb_73, ↓ts_73, ↓tl_73, ↓ta_74, ↓tb_74, ↓ts_74, ↓tl_74, ↓ta_75, ↓tb_75, ↓ts_75, ↓tl_75, ↓ta_76, ↓tb_76, ↓ts_76, ↓tl_76, ↓ta_77, ↓tb_77, ↓ts_77, ↓tl_77, ↓ta_78, ↓tb_78, ↓ts_78, ↓tl_78, ↓ta_79, ↓tb_79, ↓ts_79, ↓tl_79, ↓ta_80, ↓tb_80, ↓ts_80, ↓tl_80, ↓ta_81, ↓tb_81, ↓ts_81, ↓tl_81, ↓ta_82, ↓tb_82, ↓ts_82, ↓tl_82, ↓ta_83, ↓tb_83, ↓ts_83, ↓tl_83, ↓ta_84, ↓tb_84, ↓ts_84, ↓tl_84, ↓ta_85, ↓tb_85, ↓ts_85, ↓tl_85, ↓ta_86, ↓tb_86, ↓ts_86, ↓tl_86, ↓ta_87, ↓tb_87, ↓ts_87, ↓tl_87, ↓ta_88, ↓tb_88, ↓ts_88, ↓tl_88, ↓ta_89, ↓tb_89, ↓ts_89, ↓tl_89, ↓ta_90, ↓tb_90, ↓ts_90, ↓tl_90, ↓ta_91, ↓tb_91, ↓ts_91, ↓tl_91, ↓ta_92, ↓tb_92, ↓ts_92, ↓tl_92, ↓ta_93, ↓tb_93, ↓ts_93, ↓tl_93, ↓ta_94, ↓tb_94, ↓ts_94, ↓tl_94, ↓tr_70_1, ↓tr_70_3, ↓tr_70_5, ↓tr_70_6, ↓tr_70_7, ↓tr_70_8, ↓tr_70_9, ↓tr_70_10, ↓tr_70_11, ↓tr_70_12, ↓tr_70_13, ↓tr_70_14, ↓tr_70_15, ↓tr_70_17, ↓tr_70_19, ↓tr_70_29, ↓tr_70_41, ↓tr_70_44, ↓tr_70_45, ↓tr_70_46, ↓tr_70_47, ↓tr_70_49, ↓tr_70_51, ↓tr_70_53, ↓reduceIte, ↓bd_ite, ↓Option.bind_some, Option.toList_some, Option.toList_none, List.cons_append, List.nil_append, ↓tz0, ↓tz1, ↓st_z0, ↓st_z1, ↓t_is, ↓t_dv, ↓t_rm, st_us, st_uk, st_uo, nI_add, pk_mul, Nat.reduceAdd, Nat.reduceSub, Nat.reduceMul, pk_sub, nI_leI, nI_ltI, nI_eq, nn_leT, nn_leF, nn_ltT, nn_ltF, nn_eqT, nn_eqF, nm1, k_0, k_1, k_2, k_3, k_4, k_5, k_6, k_7, k_8, k_9, k_10, k_12, k_13, k_15, k_16, k_17, k_20, k_24, k_32, k_36, k_40, k_60, k_63, k_64, k_128, k_192, k_194, k_195, k_196, k_208, k_215, k_216, k_217, k_218, k_219, k_221, k_224, k_239, k_240, k_254, k_255, k_256, k_273, k_309, k_936, k_1600, k_2000, k_2304, k_4800, k_5980, k_6000, k_6912, k_12000, k_16383, k_32767, k_32768, k_65474, k_65475, k_65476, k_65496, k_65497, k_65498, k_65501, k_65535, k_65536, m21, m77, m23, has_M, hb, ↓eb183_158, ↓eb183_173]
    · have hfu := bits_le F hb
      have hmn := fU_mono F m (F 4 - (c + 1)) (c + 1)
      rw [show c + 1 + (F 4 - (c + 1)) = F 4 by omega] at hmn
      have hhv1 : 1 ≤ F (10 + c) * F (20 + c) := Nat.mul_pos (by omega) (by omega)
      obtain ⟨hv, hhv⟩ : ∃ hv, hv = F (10 + c) * F (20 + c) := ⟨_, rfl⟩
      obtain ⟨r, hr⟩ : ∃ r, r = fU F m (F 4) - fU F m (c + 1) := ⟨_, rfl⟩
      have eD : fU F m (F 4) - fU F m c = hv + r := by omega
      have eK : K * (hv + r) = K * hv + K * r := Nat.mul_add K hv r
      rw [eD, eK] at hW
      rw [eD] at hR
      have eh : hv - 1 + 1 = hv := by omega
      obtain ⟨X1, M1, t1, y1, i1, i2, i3, i4, i5⟩ := compW_lp z a b w v p hq ha hp4 hp5 hp6 hF hk1 hP hl hh hiv hu (show c < F 4 by omega) hb hWb hK I (hv - 1) 0 W R X M (by omega) hA hS (by rw [eh]; omega) (by rw [eh]; omega)
      rw [Nat.add_zero] at i1
      rw [eh] at i3
      obtain ⟨Y, W3, R3, wt3, gY, g1, g2, g3, hAY, hor⟩ := WV_step (Wb := W + K * (hv + r)) (Rb := R + (hv + r)) hq i3 (by rw [eK]; omega) (by omega)
      have g3 : wt3 = 0 := by omega
      subst g3
      obtain ⟨X', M', t', y8', k1, k2, k3, k4, k5⟩ := mcuW_lp hq ha hp4 hp5 hp6 hF hk1 hm hP0 hP hl hh hiv hu hWb hK I n' (c + 1) false W3 R3 y1 Y M1 (by omega) hAY (SW2_g hq ha hS (gX_t i3.1 gY) i3.2.1) ⟨fun h => (by cases h), fun h => absurd h (by omega)⟩ (by rw [← hr]; omega) (by rw [← hr]; omega)
      rw [← hr] at k3
      have k3' : WV q (W + K * (hv + r)) (R + (hv + r)) 0 Y M1 X' M' := WV_m k3 (by rw [eK]; omega) (by omega)
      have cX : ∀ d M, (if f = true then mm_rx (mm_ev pg_mt (d + 5)) pg_c56 (93, [.ref 44, .ref qa, .ref 9, .int I, .ref q, .int (nI (spn (fD F * fA F * fU F m (F 4)) iv (fU F m (F 4)))), .int (nI (wyP 0 h)), .int (nI (u * fU F m (F 4) + fU F m c)), .int (nI ((u * fU F m (F 4) + fU F m c) % spn (fD F * fA F * fU F m (F 4)) iv (fU F m (F 4))))], [], (st_h z X M (st_R a b w v p))) else mm_rx (mm_ev pg_mt (d + 5)) pg_c56 (53, [.ref 44, .ref qa, .ref 9, .int I, .ref q, .int (nI (spn (fD F * fA F * fU F m (F 4)) iv (fU F m (F 4)))), .int (nI (wyP 0 h)), .int (nI (u * fU F m (F 4) + fU F m c)), y8], [], (st_h z X M (st_R a b w v p)))) = mm_rx (mm_ev pg_mt (d + 5)) pg_c56 (53, [.ref 44, .ref qa, .ref 9, .int I, .ref q, .int (nI (spn (fD F * fA F * fU F m (F 4)) iv (fU F m (F 4)))), .int (nI (wyP 0 h)), .int (nI t1), y1], [], (st_h z (X1) M (st_R a b w v p))) := fun d M => by
        rw [← i1 d M]
        cases f with
        | true => exact if_pos rfl
        | false =>
          rw [if_neg (by decide)]
          have hj : 0 < fU F m c := Nat.pos_of_ne_zero (fun e => by
            have := hff.2 e
            cases this)
          exact midW z a b w v p (q := q) (qa := qa) hA.2.2.2 hL hj (by omega) hP hu (by omega) hiv I (nI (wyP 0 h)) y8 d M
      have cM : ∀ d X a b w v p, mm_rx (mm_ev pg_mt (d + 8)) pg_c183 (135, [.ref 70, .int (nI u), .int (nI (fA F)), .int (-nI 1), .int (nI c)], [], (st_h z X M (st_R a b w v p))) = some (none, (st_h z X (M') (st_R a b w v p))) := fun d X a b w v p => by
        rw [← k2 d X a b w v p, eb183_135]
        have hbo : ∀ d X a b w v p, mm_ev pg_mt (d + 8) 184 [.ref 70, .int (nI c), .int (nI (u % fA F)), .int (nI (u / fA F))] (st_h z X M (st_R a b w v p)) = some (none, (st_h z X (M1) (st_R a b w v p))) := fun d X a b w v p => by
          rw [← i2 d X a b w v p]
          simp (disch := omega) only [↓en184, ↓eb184_0, ↓eb184_47, ↓eb184_71, ↓eb184_86, ↓eb184_92, ↓tf_70, ↓tp_70, ↓tz_70, ↓ty_70, ↓tzl_70, ↓tyl_70, ↓tv_70, ↓ta_71, ↓tb_71, ↓ts_71, ↓tl_71, ↓ta_72, ↓tb_72, ↓ts_72, ↓tl_72, ↓ta_73, ↓tb_73, ↓ts_73, ↓tl_73, ↓ta_74, ↓tb_74, ↓ts_74, ↓tl_74, ↓ta_75, ↓tb_75, ↓ts_75, ↓tl_75, ↓ta_76, ↓tb_76, ↓ts_76, ↓tl_76, ↓ta_77, ↓tb_77, ↓ts_77, ↓tl_77, ↓ta_78, ↓tb_78, ↓ts_78, ↓tl_78, ↓ta_79, ↓tb_79, ↓ts_79, ↓tl_79, ↓ta_80, ↓tb_80, ↓ts_80, ↓tl_80, ↓ta_81, ↓tb_81, ↓ts_81, ↓tl_81, ↓ta_82, ↓tb_82, ↓ts_82, ↓tl_82, ↓ta_83, ↓tb_83, ↓ts_83, ↓tl_83, ↓ta_84, ↓tb_84, ↓ts_84, ↓tl_84, ↓ta_85, ↓tb_85, ↓ts_85, ↓tl_85, ↓ta_86, ↓tb_86, ↓ts_86, ↓tl_86, ↓ta_87, ↓tb_87, ↓ts_87, ↓tl_87, ↓ta_88, ↓tb_88, ↓ts_88, ↓tl_88, ↓ta_89, ↓tb_89, ↓ts_89, ↓tl_89, ↓ta_90, ↓tb_90, ↓ts_90, ↓tl_90, ↓ta_91, ↓tb_91, ↓ts_91, ↓tl_91, ↓ta_92, ↓tb_92, ↓ts_92, ↓tl_92, ↓ta_93, ↓tb_93, ↓ts_93, ↓tl_93, ↓ta_94, ↓tb_94, ↓ts_94, ↓tl_94, ↓tr_70_1, ↓tr_70_3, ↓tr_70_5, ↓tr_70_6, ↓tr_70_7, ↓tr_70_8, ↓tr_70_9, ↓tr_70_10, ↓tr_70_11, ↓tr_70_12, ↓tr_70_13, ↓tr_70_14, ↓tr_70_15, ↓tr_70_17, ↓tr_70_19, ↓tr_70_29, ↓tr_70_41, ↓tr_70_44, ↓tr_70_45, ↓tr_70_46, ↓tr_70_47, ↓tr_70_49, ↓tr_70_51, ↓tr_70_53, ↓reduceIte, ↓bd_ite, ↓Option.bind_some, Option.toList_some, Option.toList_none, List.cons_append, List.nil_append, ↓tz0, ↓tz1, ↓st_z0, ↓st_z1, ↓t_is, ↓t_dv, ↓t_rm, st_us, st_uk, st_uo, nI_add, pk_mul, Nat.reduceAdd, Nat.reduceSub, Nat.reduceMul, pk_sub, nI_leI, nI_ltI, nI_eq, nn_leT, nn_leF, nn_ltT, nn_ltF, nn_eqT, nn_eqF, nm1, k_0, k_1, k_2, k_3, k_4, k_5, k_6, k_7, k_8, k_9, k_10, k_12, k_13, k_15, k_16, k_17, k_20, k_24, k_32, k_36, k_40, k_60, k_63, k_64, k_128, k_192, k_194, k_195, k_196, k_208, k_215, k_216, k_217, k_218, k_219, k_221, k_224, k_239, k_240, k_254, k_255, k_256, k_273, k_309, k_936, k_1600, k_2000, k_2304, k_4800, k_5980, k_6000, k_6912, k_12000, k_16383, k_32767, k_32768, k_65474, k_65475, k_65476, k_65496, k_65497, k_65498, k_65501, k_65535, k_65536, m21, mc]
        simp (disch := omega) only [↓tf_70, ↓tp_70, ↓tz_70, ↓ty_70, ↓tzl_70, ↓tyl_70, ↓tv_70, ↓ta_71, ↓tb_71, ↓ts_71, ↓tl_71, ↓ta_72, ↓tb_72, ↓ts_72, ↓tl_72, ↓ta_73, ↓tb_73, ↓ts_73, ↓tl_73, ↓ta_74, ↓tb_74, ↓ts_74, ↓tl_74, ↓ta_75, ↓tb_75, ↓ts_75, ↓tl_75, ↓ta_76, ↓tb_76, ↓ts_76, ↓tl_76, ↓ta_77, ↓tb_77, ↓ts_77, ↓tl_77, ↓ta_78, ↓tb_78, ↓ts_78, ↓tl_78, ↓ta_79, ↓tb_79, ↓ts_79, ↓tl_79, ↓ta_80, ↓tb_80, ↓ts_80, ↓tl_80, ↓ta_81, ↓tb_81, ↓ts_81, ↓tl_81, ↓ta_82, ↓tb_82, ↓ts_82, ↓tl_82, ↓ta_83, ↓tb_83, ↓ts_83, ↓tl_83, ↓ta_84, ↓tb_84, ↓ts_84, ↓tl_84, ↓ta_85, ↓tb_85, ↓ts_85, ↓tl_85, ↓ta_86, ↓tb_86, ↓ts_86, ↓tl_86, ↓ta_87, ↓tb_87, ↓ts_87, ↓tl_87, ↓ta_88, ↓tb_88, ↓ts_88, ↓tl_88, ↓ta_89, ↓tb_89, ↓ts_89, ↓tl_89, ↓ta_90, ↓tb_90, ↓ts_90, ↓tl_90, ↓ta_91, ↓tb_91, ↓ts_91, ↓tl_91, ↓ta_92, ↓tb_92, ↓ts_92, ↓tl_92, ↓ta_93, ↓tb_93, ↓ts_93, ↓tl_93, ↓ta_94, ↓tb_94, ↓ts_94, ↓tl_94, ↓tr_70_1, ↓tr_70_3, ↓tr_70_5, ↓tr_70_6, ↓tr_70_7, ↓tr_70_8, ↓tr_70_9, ↓tr_70_10, ↓tr_70_11, ↓tr_70_12, ↓tr_70_13, ↓tr_70_14, ↓tr_70_15, ↓tr_70_17, ↓tr_70_19, ↓tr_70_29, ↓tr_70_41, ↓tr_70_44, ↓tr_70_45, ↓tr_70_46, ↓tr_70_47, ↓tr_70_49, ↓tr_70_51, ↓tr_70_53, ↓reduceIte, ↓bd_ite, ↓Option.bind_some, Option.toList_some, Option.toList_none, List.cons_append, List.nil_append, ↓tz0, ↓tz1, ↓st_z0, ↓st_z1, ↓t_is, ↓t_dv, ↓t_rm, st_us, st_uk, st_uo, nI_add, pk_mul, Nat.reduceAdd, Nat.reduceSub, Nat.reduceMul, pk_sub, nI_leI, nI_ltI, nI_eq, nn_leT, nn_leF, nn_ltT, nn_ltF, nn_eqT, nn_eqF, nm1, k_0, k_1, k_2, k_3, k_4, k_5, k_6, k_7, k_8, k_9, k_10, k_12, k_13, k_15, k_16, k_17, k_20, k_24, k_32, k_36, k_40, k_60, k_63, k_64, k_128, k_192, k_194, k_195, k_196, k_208, k_215, k_216, k_217, k_218, k_219, k_221, k_224, k_239, k_240, k_254, k_255, k_256, k_273, k_309, k_936, k_1600, k_2000, k_2304, k_4800, k_5980, k_6000, k_6912, k_12000, k_16383, k_32767, k_32768, k_65474, k_65475, k_65476, k_65496, k_65497, k_65498, k_65501, k_65535, k_65536, m21, m77, m23, has_M, hb, hbo, ↓eb183_158, ↓eb183_173]
      rw [eD]
      rcases hor with ⟨h10, rfl, hWV⟩ | ⟨h10, hWV⟩
      · refine ⟨X', M', t', y8', fun d M => ?_, cM, hWV X' M' k3', k4, k5⟩
        have hk := k1 d M
        rw [if_neg (by decide)] at hk
        rw [cX d M, ← hk, i4 h10]
      · refine ⟨X1, M', t1, y1, cX, cM, hWV X' M' k3', i5, fun e => ?_⟩
        rw [h10, nI_eq (by omega) (by omega)] at e
        exact absurd e (by decide)
theorem walkW2_lp {q qa h l m iv Wb K C : Nat} {F : Nat → Nat} (hq : q = 66 ∨ q = 68) (ha : qa = 48 ∨ qa = 57) (hp4 : p 4 = some qa) (hp5 : p 5 = some 9) (hp6 : p 6 = some q) (hF : FF F) (hk1 : F 0 = 1) (hm : m < 8) (hpc : pc3 m ≠ 1) (hP0 : 1 ≤ fU F m (F 4)) (hP : fU F m (F 4) ≤ 10) (hl : l ≤ 13) (hh : h ≤ 14) (hiv : iv < 65536) (hWb : Wb + 20000 < 2 ^ 29) (hK : 8000 ≤ K) (hC : K * 10 + 20 ≤ C) (I : Int32) : ∀ (mm u W R : Nat) (y8 y4 : Value) (X M : Nat → Nat → Int32), u + mm = fD F * fA F → HW q W R 0 u X M → SW2 X M qa F m h l iv → W + C * mm ≤ Wb → R + 10 * mm ≤ 5000 → ∃ (X' M' : Nat → Nat → Int32) (u1 u2 r1 : Nat) (y8' y4' : Value), (∀ d M, mm_rx (mm_ev pg_mt (d + 5)) pg_c56 (53, [.ref 44, .ref qa, .ref 9, .int I, .ref q, .int (nI (spn (fD F * fA F * fU F m (F 4)) iv (fU F m (F 4)))), .int (nI (wyP 0 h)), .int (nI (u * fU F m (F 4))), y8], [], (st_h z X M (st_R a b w v p))) = mm_rx (mm_ev pg_mt (d + 5)) pg_c56 (132, [.ref 44, .ref qa, .ref 9, .int I, .ref q, .int (nI (spn (fD F * fA F * fU F m (F 4)) iv (fU F m (F 4)))), .int (nI (wyP 0 h)), .int (nI u1), y8'], [], (st_h z (X') M (st_R a b w v p)))) ∧ (∀ d X a b w v p, mm_rx (mm_ev pg_mt (d + 9)) pg_c179 (14, [.ref 70, .int (nI (fD F * fA F)), .int (nI ((u - 1) / iv % 8)), .int (nI u), y4], [], (st_h z X M (st_R a b w v p))) = mm_rx (mm_ev pg_mt (d + 9)) pg_c179 (111, [.ref 70, .int (nI (fD F * fA F)), .int (nI r1), .int (nI u2), y4'], [], (st_h z X (M') (st_R a b w v p)))) ∧ WV q Wb 5000 0 X M X' M'
  | mm, u, W, R, y8, y4, X, M, e1, hH, hS, hW, hR => by
    have had := FF_ad hF
    have hN2 := Nat.mul_le_mul had.2.2.2 had.2.1
    have hN1 := Nat.mul_le_mul had.2.2.1 had.1
    have n3 := hF.2.2.2.2.2.1
    have htot := FF_tot hF hP
    have hS' := hS
    obtain ⟨hPX, hPM, hOL, hOW, x2, hBW, m21, m23, m24, m26, m28, m37⟩ := hS'
    have m22 := hBW.2.2.2.2.1
    have hL : X 1 3 = nI (fD F * fA F * fU F m (F 4)) := by rw [hOL.1, allu_len]
    have huP : u * fU F m (F 4) ≤ fD F * fA F * fU F m (F 4) := Nat.mul_le_mul_right _ (by omega)
    by_cases hu : u = fD F * fA F
    · obtain ⟨hSK, h10, c3, -⟩ := hH
      obtain ⟨hRW, hdc⟩ := c3 (by omega)
      refine ⟨X, M, u * fU F m (F 4), u, (u - 1) / iv % 8, y8, y4, fun d M => ?_, fun d X a b w v p => ?_, gX_r q X, gM_r M, Or.inl ⟨rfl, W, R, 0, Nat.le_trans (Nat.le_add_right _ _) hW, Nat.le_trans (Nat.le_add_right _ _) hR, Nat.le_refl _, hSK, hRW, hdc, h10⟩⟩
      · have : u * fU F m (F 4) = fD F * fA F * fU F m (F 4) := by rw [hu]
        rw [eb56_53]
        simp (disch := omega) only [↓tf_0, ↓tp_0, ↓tz_0, ↓ty_0, ↓tzl_0, ↓tyl_0, ↓tv_0, ↓tf_1, ↓tp_1, ↓tz_1, ↓ty_1, ↓tzl_1, ↓tyl_1, ↓tv_1, ↓ta_2, ↓tb_2, ↓ts_2, ↓tl_2, ↓ta_3, ↓tb_3, ↓ts_3, ↓tl_3, ↓tf_4, ↓tp_4, ↓tz_4, ↓ty_4, ↓tzl_4, ↓tyl_4, ↓tv_4, ↓ta_5, ↓tb_5, ↓ts_5, ↓tl_5, ↓tf_6, ↓tp_6, ↓tz_6, ↓ty_6, ↓tzl_6, ↓tyl_6, ↓tv_6, ↓ta_7, ↓tb_7, ↓ts_7, ↓tl_7, ↓ta_8, ↓tb_8, ↓ts_8, ↓tl_8, ↓tf_9, ↓tp_9, ↓tz_9, ↓ty_9, ↓tzl_9, ↓tyl_9, ↓tv_9, ↓ta_10, ↓tb_10, ↓ts_10, ↓tl_10, ↓ta_11, ↓tb_11, ↓ts_11, ↓tl_11, ↓tf_12, ↓tp_12, ↓tz_12, ↓ty_12, ↓tzl_12, ↓tyl_12, ↓tv_12, ↓tf_13, ↓tp_13, ↓tz_13, ↓ty_13, ↓tzl_13, ↓tyl_13, ↓tv_13, ↓ta_14, ↓tb_14, ↓ts_14, ↓tl_14, ↓tf_15, ↓tp_15, ↓tz_15, ↓ty_15, ↓tzl_15, ↓tyl_15, ↓tv_15, ↓ta_16, ↓tb_16, ↓ts_16, ↓tl_16, ↓ta_17, ↓tb_17, ↓ts_17, ↓tl_17, ↓ta_19, ↓tb_19, ↓ts_19, ↓tl_19, ↓tf_44, ↓tp_44, ↓tz_44, ↓ty_44, ↓tzl_44, ↓tyl_44, ↓tv_44, ↓ta_45, ↓tb_45, ↓ts_45, ↓tl_45, ↓ta_46, ↓tb_46, ↓ts_46, ↓tl_46, ↓ta_47, ↓tb_47, ↓ts_47, ↓tl_47, ↓ta_18, ↓tr_0_0, ↓tr_0_1, ↓tr_0_2, ↓tr_0_3, ↓tr_0_4, ↓tr_1_0, ↓tr_1_1, ↓tr_4_0, ↓tr_6_0, ↓tr_6_1, ↓tr_9_6, ↓tr_9_7, ↓tr_12_0, ↓tr_12_1, ↓tr_12_2, ↓tr_12_3, ↓tr_12_4, ↓tr_13_0, ↓tr_13_1, ↓tr_13_2, ↓tr_15_6, ↓tr_15_7, ↓tr_44_0, ↓tr_44_1, ↓tr_44_2, ↓tr_44_3, ↓tr_0_5, ↓tr_0_6, ↓tr_0_7, ↓tr_0_8, ↓tr_12_5, ↓tu_12_5, ↓tr_13_3, ↓tu_13_3, ↓tr_13_4, ↓tu_13_4, ↓tr_13_5, ↓tu_13_5, ↓tr_44_4, ↓tu_44_4, ↓tr_44_5, ↓tu_44_5, ↓tr_44_6, ↓tu_44_6, ↓tu_0_5, ↓tu_0_6, ↓tu_0_7, ↓tu_0_8, ↓tfP, ↓tpP, ↓tvP, ↓trP_7, ↓trP_8, ↓trP_9, ↓trP_10, ↓trP_11, ↓trP_12, ↓trP_13, ↓trP_14, ↓taP_1, ↓taP_2, ↓taP_3, ↓taP_4, ↓taP_5, ↓taP_6, ↓taP_7, ↓taP_8, ↓tsP_1, ↓tsP_2, ↓tsP_3, ↓tsP_4, ↓tsP_5, ↓tsP_6, ↓tsP_7, ↓tsP_8, ↓tlP_7, ↓tlP_8, ↓tfS, ↓tpS, ↓tvS, ↓trS, ↓taS, ↓tsS, ↓tfT, ↓tzT, ↓tyT, ↓tzlT, ↓tylT, ↓trT_0, ↓trT_1, ↓taT_1, ↓taT_2, ↓tsT_1, ↓tsT_2, ↓tlT_2, ↓reduceIte, ↓bd_ite, ↓Option.bind_some, Option.toList_some, Option.toList_none, List.cons_append, List.nil_append, ↓tz0, ↓tz1, ↓st_z0, ↓st_z1, ↓t_is, ↓t_dv, ↓t_rm, st_us, st_uk, st_uo, nI_add, pk_mul, Nat.reduceAdd, Nat.reduceSub, Nat.reduceMul, pk_sub, nI_leI, nI_ltI, nI_eq, nn_leT, nn_leF, nn_ltT, nn_ltF, nn_eqT, nn_eqF, nm1, k_0, k_1, k_2, k_3, k_4, k_5, k_6, k_7, k_8, k_9, k_10, k_12, k_13, k_15, k_16, k_17, k_20, k_24, k_32, k_36, k_40, k_60, k_63, k_64, k_128, k_192, k_194, k_195, k_196, k_208, k_215, k_216, k_217, k_218, k_219, k_221, k_224, k_239, k_240, k_254, k_255, k_256, k_273, k_309, k_936, k_1600, k_2000, k_2304, k_4800, k_5980, k_6000, k_6912, k_12000, k_16383, k_32767, k_32768, k_65474, k_65475, k_65476, k_65496, k_65497, k_65498, k_65501, k_65535, k_65536, hL]
      · rw [eb179_14]
        simp (disch := omega) only [↓tf_70, ↓tp_70, ↓tz_70, ↓ty_70, ↓tzl_70, ↓tyl_70, ↓tv_70, ↓ta_71, ↓tb_71, ↓ts_71, ↓tl_71, ↓ta_72, ↓tb_72, ↓ts_72, ↓tl_72, ↓ta_73, ↓tb_73, ↓ts_73, ↓tl_73, ↓ta_74, ↓tb_74, ↓ts_74, ↓tl_74, ↓ta_75, ↓tb_75, ↓ts_75, ↓tl_75, ↓ta_76, ↓tb_76, ↓ts_76, ↓tl_76, ↓ta_77, ↓tb_77, ↓ts_77, ↓tl_77, ↓ta_78, ↓tb_78, ↓ts_78, ↓tl_78, ↓ta_79, ↓tb_79, ↓ts_79, ↓tl_79, ↓ta_80, ↓tb_80, ↓ts_80, ↓tl_80, ↓ta_81, ↓tb_81, ↓ts_81, ↓tl_81, ↓ta_82, ↓tb_82, ↓ts_82, ↓tl_82, ↓ta_83, ↓tb_83, ↓ts_83, ↓tl_83, ↓ta_84, ↓tb_84, ↓ts_84, ↓tl_84, ↓ta_85, ↓tb_85, ↓ts_85, ↓tl_85, ↓ta_86, ↓tb_86, ↓ts_86, ↓tl_86, ↓ta_87, ↓tb_87, ↓ts_87, ↓tl_87, ↓ta_88, ↓tb_88, ↓ts_88, ↓tl_88, ↓ta_89, ↓tb_89, ↓ts_89, ↓tl_89, ↓ta_90, ↓tb_90, ↓ts_90, ↓tl_90, ↓ta_91, ↓tb_91, ↓ts_91, ↓tl_91, ↓ta_92, ↓tb_92, ↓ts_92, ↓tl_92, ↓ta_93, ↓tb_93, ↓ts_93, ↓tl_93, ↓ta_94, ↓tb_94, ↓ts_94, ↓tl_94, ↓tr_70_1, ↓tr_70_3, ↓tr_70_5, ↓tr_70_6, ↓tr_70_7, ↓tr_70_8, ↓tr_70_9, ↓tr_70_10, ↓tr_70_11, ↓tr_70_12, ↓tr_70_13, ↓tr_70_14, ↓tr_70_15, ↓tr_70_17, ↓tr_70_19, ↓tr_70_29, ↓tr_70_41, ↓tr_70_44, ↓tr_70_45, ↓tr_70_46, ↓tr_70_47, ↓tr_70_49, ↓tr_70_51, ↓tr_70_53, ↓reduceIte, ↓bd_ite, ↓Option.bind_some, Option.toList_some, Option.toList_none, List.cons_append, List.nil_append, ↓tz0, ↓tz1, ↓st_z0, ↓st_z1, ↓t_is, ↓t_dv, ↓t_rm, st_us, st_uk, st_uo, nI_add, pk_mul, Nat.reduceAdd, Nat.reduceSub, Nat.reduceMul, pk_sub, nI_leI, nI_ltI, nI_eq, nn_leT, nn_leF, nn_ltT, nn_ltF, nn_eqT, nn_eqF, nm1, k_0, k_1, k_2, k_3, k_4, k_5, k_6, k_7, k_8, k_9, k_10, k_12, k_13, k_15, k_16, k_17, k_20, k_24, k_32, k_36, k_40, k_60, k_63, k_64, k_128, k_192, k_194, k_195, k_196, k_208, k_215, k_216, k_217, k_218, k_219, k_221, k_224, k_239, k_240, k_254, k_255, k_256, k_273, k_309, k_936, k_1600, k_2000, k_2304, k_4800, k_5980, k_6000, k_6912, k_12000, k_16383, k_32767, k_32768, k_65474, k_65475, k_65476, k_65496, k_65497, k_65498, k_65501, k_65535, k_65536]
    · obtain ⟨mm, rfl⟩ : ∃ m', mm = m' + 1 := ⟨mm - 1, by omega⟩
      have hlt : u < fD F * fA F := by omega
      rw [Nat.mul_succ] at hW
      obtain ⟨X1, M1, i1, i2, ⟨W1, R1, wt1, a1, a2, a3, a4⟩, gX1, gM1, h39, -⟩ := headW z a b w v p (qa := qa) (P := fU F m (F 4)) (N := fD F * fA F) (iv := iv) hq hp6 hH (by omega) (by omega) (by omega) hlt (by omega) hP0 hP hiv hL m22 m28 m37 I (nI (wyP 0 h)) y8 y4
      have a3 : wt1 = 0 := by omega
      subst a3
      obtain ⟨M2, hM2⟩ : ∃ M2, M2 = st_u M1 70 31 (nI (lfv (fD F * fA F) iv u)) := ⟨_, rfl⟩
      have gM2 : gM M M2 := by rw [hM2]; exact gM_s gM1 (by omega) _
      have h392 : M2 70 39 = M 70 39 := by rw [hM2, st_uk _ _ _ _ _ (by decide)]; exact h39
      have hA2 : AL q W1 R1 0 X1 M2 := by rw [hM2]; exact AL_31 a4 _
      have hS2 := SW2_g hq ha hS gX1 gM2
      have hK10 : K * fU F m (F 4) ≤ K * 10 := Nat.mul_le_mul_left K hP
      have hf0 : fU F m 0 = 0 := rfl
      obtain ⟨X3, M3, t', y8', j1, j2, j3, j4, j5⟩ := mcuW_lp z a b w v p hq ha hp4 hp5 hp6 hF hk1 hm hP0 hP hl hh hiv hlt hWb hK I (F 4) 0 true W1 R1 (.retAddr 0) X1 M2 (by omega) hA2 hS2 ⟨fun _ => rfl, fun _ => rfl⟩ (by rw [hf0, Nat.sub_zero]; omega) (by rw [hf0, Nat.sub_zero]; omega)
      rw [hf0, Nat.sub_zero] at j3
      have hQ' := WV_t gX1 gM2 h392 j3
      obtain ⟨Y, W3, R3, wt3, gY, y1, y2, y3, hAY, hor⟩ := WV_step (Wb := Wb) (Rb := 5000) hq hQ' (by omega) (by omega)
      have y3 : wt3 = 0 := by omega
      subst y3
      have hSY := SW2_g hq ha hS (gX_t hQ'.1 gY) hQ'.2.1
      obtain ⟨X', M', u1, u2, r1, z8, z4, k1, k2, kW⟩ := walkW2_lp hq ha hp4 hp5 hp6 hF hk1 hm hpc hP0 hP hl hh hiv hWb hK hC I mm (u + 1) W3 R3 y8' (.int (nI (fD F * fA F - u))) Y M3 (by omega) (HW_A hAY (by omega)) hSY (by omega) (by omega)
      have cX : ∀ d M, mm_rx (mm_ev pg_mt (d + 5)) pg_c56 (53, [.ref 44, .ref qa, .ref 9, .int I, .ref q, .int (nI (spn (fD F * fA F * fU F m (F 4)) iv (fU F m (F 4)))), .int (nI (wyP 0 h)), .int (nI (u * fU F m (F 4))), y8], [], (st_h z X M (st_R a b w v p))) = mm_rx (mm_ev pg_mt (d + 5)) pg_c56 (53, [.ref 44, .ref qa, .ref 9, .int I, .ref q, .int (nI (spn (fD F * fA F * fU F m (F 4)) iv (fU F m (F 4)))), .int (nI (wyP 0 h)), .int (nI t'), y8'], [], (st_h z (X3) M (st_R a b w v p))) := fun d M => by
        have := j1 d M
        rw [if_pos rfl, hf0, Nat.add_zero (u * fU F m (F 4))] at this
        exact (i1 d M).trans this
      have cM : ∀ d X a b w v p, mm_rx (mm_ev pg_mt (d + 9)) pg_c179 (14, [.ref 70, .int (nI (fD F * fA F)), .int (nI ((u - 1) / iv % 8)), .int (nI u), y4], [], (st_h z X M (st_R a b w v p))) = mm_rx (mm_ev pg_mt (d + 9)) pg_c179 (14, [.ref 70, .int (nI (fD F * fA F)), .int (nI ((u + 1 - 1) / iv % 8)), .int (nI (u + 1)), .int (nI (fD F * fA F - u))], [], (st_h z X (M3) (st_R a b w v p))) := fun d X a b w v p => by
        have hUM : ∀ d X a b w v p, mm_ev pg_mt (d + 9) 183 [.ref 70, .int (nI u)] (st_h z X (M2) (st_R a b w v p)) = some (none, (st_h z X (M3) (st_R a b w v p))) := fun d X a b w v p => by
          obtain ⟨-, hPM2, -, -, -, -, o21, o23, -⟩ := hS2
          have a1 := fun d X a b w v p => across_M (d := d) (z := z) (a := a) (b := b) (w := w) (v := v) (p := p) (X := X) hF hPM2
          have a4 := fun d X a b w v p => lone2_M (d := d) (z := z) (a := a) (b := b) (w := w) (v := v) (p := p) (X := X) hm hpc o23
          have o73 : M2 73 0 = nI 1 := by rw [hPM2.2.1, hk1]
          rw [← j2 d X a b w v p]
          simp (disch := omega) only [↓en183, ↓eb183_0, ↓eb183_8, ↓eb183_13, ↓tf_70, ↓tp_70, ↓tz_70, ↓ty_70, ↓tzl_70, ↓tyl_70, ↓tv_70, ↓ta_71, ↓tb_71, ↓ts_71, ↓tl_71, ↓ta_72, ↓tb_72, ↓ts_72, ↓tl_72, ↓ta_73, ↓tb_73, ↓ts_73, ↓tl_73, ↓ta_74, ↓tb_74, ↓ts_74, ↓tl_74, ↓ta_75, ↓tb_75, ↓ts_75, ↓tl_75, ↓ta_76, ↓tb_76, ↓ts_76, ↓tl_76, ↓ta_77, ↓tb_77, ↓ts_77, ↓tl_77, ↓ta_78, ↓tb_78, ↓ts_78, ↓tl_78, ↓ta_79, ↓tb_79, ↓ts_79, ↓tl_79, ↓ta_80, ↓tb_80, ↓ts_80, ↓tl_80, ↓ta_81, ↓tb_81, ↓ts_81, ↓tl_81, ↓ta_82, ↓tb_82, ↓ts_82, ↓tl_82, ↓ta_83, ↓tb_83, ↓ts_83, ↓tl_83, ↓ta_84, ↓tb_84, ↓ts_84, ↓tl_84, ↓ta_85, ↓tb_85, ↓ts_85, ↓tl_85, ↓ta_86, ↓tb_86, ↓ts_86, ↓tl_86, ↓ta_87, ↓tb_87, ↓ts_87, ↓tl_87, ↓ta_88, ↓tb_88, ↓ts_88, ↓tl_88, ↓ta_89, ↓tb_89, ↓ts_89, ↓tl_89, ↓ta_90, ↓tb_90, ↓ts_90, ↓tl_90, ↓ta_91, ↓tb_91, ↓ts_91, ↓tl_91, ↓ta_92, ↓tb_92, ↓ts_92, ↓tl_92, ↓ta_93, ↓tb_93, ↓ts_93, ↓tl_93, ↓ta_94, ↓tb_94, ↓ts_94, ↓tl_94, ↓tr_70_1, ↓tr_70_3, ↓tr_70_5, ↓tr_70_6, ↓tr_70_7, ↓tr_70_8, ↓tr_70_9, ↓tr_70_10, ↓tr_70_11, ↓tr_70_12, ↓tr_70_13, ↓tr_70_14, ↓tr_70_15, ↓tr_70_17, ↓tr_70_19, ↓tr_70_29, ↓tr_70_41, ↓tr_70_44, ↓tr_70_45, ↓tr_70_46, ↓tr_70_47, ↓tr_70_49, ↓tr_70_51, ↓tr_70_53, ↓reduceIte, ↓bd_ite, ↓Option.bind_some, Option.toList_some, Option.toList_none, List.cons_append, List.nil_append, ↓tz0, ↓tz1, ↓st_z0, ↓st_z1, ↓t_is, ↓t_dv, ↓t_rm, st_us, st_uk, st_uo, nI_add, pk_mul, Nat.reduceAdd, Nat.reduceSub, Nat.reduceMul, pk_sub, nI_leI, nI_ltI, nI_eq, nn_leT, nn_leF, nn_ltT, nn_ltF, nn_eqT, nn_eqF, nm1, k_0, k_1, k_2, k_3, k_4, k_5, k_6, k_7, k_8, k_9, k_10, k_12, k_13, k_15, k_16, k_17, k_20, k_24, k_32, k_36, k_40, k_60, k_63, k_64, k_128, k_192, k_194, k_195, k_196, k_208, k_215, k_216, k_217, k_218, k_219, k_221, k_224, k_239, k_240, k_254, k_255, k_256, k_273, k_309, k_936, k_1600, k_2000, k_2304, k_4800, k_5980, k_6000, k_6912, k_12000, k_16383, k_32767, k_32768, k_65474, k_65475, k_65476, k_65496, k_65497, k_65498, k_65501, k_65535, k_65536, o21, a1, a4, o73]
        have m28' : M1 70 28 = nI iv := by rw [gM_k gM1 (by omega)]; exact m28
        have hsub : u + 1 - 1 = u := by omega
        rw [i2 d X a b w v p, eb179_63, hsub]
        by_cases iv0 : iv = 0
        · have hlf : lfv (fD F * fA F) iv u = fD F * fA F - u := if_pos iv0
          rw [hlf] at hM2
          simp (disch := omega) only [↓tf_70, ↓tp_70, ↓tz_70, ↓ty_70, ↓tzl_70, ↓tyl_70, ↓tv_70, ↓ta_71, ↓tb_71, ↓ts_71, ↓tl_71, ↓ta_72, ↓tb_72, ↓ts_72, ↓tl_72, ↓ta_73, ↓tb_73, ↓ts_73, ↓tl_73, ↓ta_74, ↓tb_74, ↓ts_74, ↓tl_74, ↓ta_75, ↓tb_75, ↓ts_75, ↓tl_75, ↓ta_76, ↓tb_76, ↓ts_76, ↓tl_76, ↓ta_77, ↓tb_77, ↓ts_77, ↓tl_77, ↓ta_78, ↓tb_78, ↓ts_78, ↓tl_78, ↓ta_79, ↓tb_79, ↓ts_79, ↓tl_79, ↓ta_80, ↓tb_80, ↓ts_80, ↓tl_80, ↓ta_81, ↓tb_81, ↓ts_81, ↓tl_81, ↓ta_82, ↓tb_82, ↓ts_82, ↓tl_82, ↓ta_83, ↓tb_83, ↓ts_83, ↓tl_83, ↓ta_84, ↓tb_84, ↓ts_84, ↓tl_84, ↓ta_85, ↓tb_85, ↓ts_85, ↓tl_85, ↓ta_86, ↓tb_86, ↓ts_86, ↓tl_86, ↓ta_87, ↓tb_87, ↓ts_87, ↓tl_87, ↓ta_88, ↓tb_88, ↓ts_88, ↓tl_88, ↓ta_89, ↓tb_89, ↓ts_89, ↓tl_89, ↓ta_90, ↓tb_90, ↓ts_90, ↓tl_90, ↓ta_91, ↓tb_91, ↓ts_91, ↓tl_91, ↓ta_92, ↓tb_92, ↓ts_92, ↓tl_92, ↓ta_93, ↓tb_93, ↓ts_93, ↓tl_93, ↓ta_94, ↓tb_94, ↓ts_94, ↓tl_94, ↓tr_70_1, ↓tr_70_3, ↓tr_70_5, ↓tr_70_6, ↓tr_70_7, ↓tr_70_8, ↓tr_70_9, ↓tr_70_10, ↓tr_70_11, ↓tr_70_12, ↓tr_70_13, ↓tr_70_14, ↓tr_70_15, ↓tr_70_17, ↓tr_70_19, ↓tr_70_29, ↓tr_70_41, ↓tr_70_44, ↓tr_70_45, ↓tr_70_46, ↓tr_70_47, ↓tr_70_49, ↓tr_70_51, ↓tr_70_53, ↓reduceIte, ↓bd_ite, ↓Option.bind_some, Option.toList_some, Option.toList_none, List.cons_append, List.nil_append, ↓tz0, ↓tz1, ↓st_z0, ↓st_z1, ↓t_is, ↓t_dv, ↓t_rm, st_us, st_uk, st_uo, nI_add, pk_mul, Nat.reduceAdd, Nat.reduceSub, Nat.reduceMul, pk_sub, nI_leI, nI_ltI, nI_eq, nn_leT, nn_leF, nn_ltT, nn_ltF, nn_eqT, nn_eqF, nm1, k_0, k_1, k_2, k_3, k_4, k_5, k_6, k_7, k_8, k_9, k_10, k_12, k_13, k_15, k_16, k_17, k_20, k_24, k_32, k_36, k_40, k_60, k_63, k_64, k_128, k_192, k_194, k_195, k_196, k_208, k_215, k_216, k_217, k_218, k_219, k_221, k_224, k_239, k_240, k_254, k_255, k_256, k_273, k_309, k_936, k_1600, k_2000, k_2304, k_4800, k_5980, k_6000, k_6912, k_12000, k_16383, k_32767, k_32768, k_65474, k_65475, k_65476, k_65496, k_65497, k_65498, k_65501, k_65535, k_65536, m28', ← hM2, hUM, ↓eb179_97, ↓eb179_105]
        · have hml := Nat.mod_lt u (show 0 < iv by omega)
          have hlf : (if iv - u % iv < fD F * fA F - u then nI (iv - u % iv) else nI (fD F * fA F - u)) = nI (lfv (fD F * fA F) iv u) := by
            unfold lfv
            rw [if_neg iv0]
            by_cases hlt2 : iv - u % iv < fD F * fA F - u
            · rw [if_pos hlt2, if_neg (by omega)]
            · rw [if_neg hlt2]
              split
              · rfl
              · congr 1
                omega
          simp (disch := omega) only [↓tf_70, ↓tp_70, ↓tz_70, ↓ty_70, ↓tzl_70, ↓tyl_70, ↓tv_70, ↓ta_71, ↓tb_71, ↓ts_71, ↓tl_71, ↓ta_72, ↓tb_72, ↓ts_72, ↓tl_72, ↓ta_73, ↓tb_73, ↓ts_73, ↓tl_73, ↓ta_74, ↓tb_74, ↓ts_74, ↓tl_74, ↓ta_75, ↓tb_75, ↓ts_75, ↓tl_75, ↓ta_76, ↓tb_76, ↓ts_76, ↓tl_76, ↓ta_77, ↓tb_77, ↓ts_77, ↓tl_77, ↓ta_78, ↓tb_78, ↓ts_78, ↓tl_78, ↓ta_79, ↓tb_79, ↓ts_79, ↓tl_79, ↓ta_80, ↓tb_80, ↓ts_80, ↓tl_80, ↓ta_81, ↓tb_81, ↓ts_81, ↓tl_81, ↓ta_82, ↓tb_82, ↓ts_82, ↓tl_82, ↓ta_83, ↓tb_83, ↓ts_83, ↓tl_83, ↓ta_84, ↓tb_84, ↓ts_84, ↓tl_84, ↓ta_85, ↓tb_85, ↓ts_85, ↓tl_85, ↓ta_86, ↓tb_86, ↓ts_86, ↓tl_86, ↓ta_87, ↓tb_87, ↓ts_87, ↓tl_87, ↓ta_88, ↓tb_88, ↓ts_88, ↓tl_88, ↓ta_89, ↓tb_89, ↓ts_89, ↓tl_89, ↓ta_90, ↓tb_90, ↓ts_90, ↓tl_90, ↓ta_91, ↓tb_91, ↓ts_91, ↓tl_91, ↓ta_92, ↓tb_92, ↓ts_92, ↓tl_92, ↓ta_93, ↓tb_93, ↓ts_93, ↓tl_93, ↓ta_94, ↓tb_94, ↓ts_94, ↓tl_94, ↓tr_70_1, ↓tr_70_3, ↓tr_70_5, ↓tr_70_6, ↓tr_70_7, ↓tr_70_8, ↓tr_70_9, ↓tr_70_10, ↓tr_70_11, ↓tr_70_12, ↓tr_70_13, ↓tr_70_14, ↓tr_70_15, ↓tr_70_17, ↓tr_70_19, ↓tr_70_29, ↓tr_70_41, ↓tr_70_44, ↓tr_70_45, ↓tr_70_46, ↓tr_70_47, ↓tr_70_49, ↓tr_70_51, ↓tr_70_53, ↓reduceIte, ↓bd_ite, ↓Option.bind_some, Option.toList_some, Option.toList_none, List.cons_append, List.nil_append, ↓tz0, ↓tz1, ↓st_z0, ↓st_z1, ↓t_is, ↓t_dv, ↓t_rm, st_us, st_uk, st_uo, nI_add, pk_mul, Nat.reduceAdd, Nat.reduceSub, Nat.reduceMul, pk_sub, nI_leI, nI_ltI, nI_eq, nn_leT, nn_leF, nn_ltT, nn_ltF, nn_eqT, nn_eqF, nm1, k_0, k_1, k_2, k_3, k_4, k_5, k_6, k_7, k_8, k_9, k_10, k_12, k_13, k_15, k_16, k_17, k_20, k_24, k_32, k_36, k_40, k_60, k_63, k_64, k_128, k_192, k_194, k_195, k_196, k_208, k_215, k_216, k_217, k_218, k_219, k_221, k_224, k_239, k_240, k_254, k_255, k_256, k_273, k_309, k_936, k_1600, k_2000, k_2304, k_4800, k_5980, k_6000, k_6912, k_12000, k_16383, k_32767, k_32768, k_65474, k_65475, k_65476, k_65496, k_65497, k_65498, k_65501, k_65535, k_65536, m28', hlf, ← hM2, hUM, ↓eb179_97, ↓eb179_105]
      rcases hor with ⟨h10, rfl, hWV⟩ | ⟨h10, hWV⟩
      · have j5 := j5 h10
        subst j5
        exact ⟨X', M', u1, u2, r1, z8, z4, fun d M => (cX d M).trans (k1 d M), fun d X a b w v p => (cM d X a b w v p).trans (k2 d X a b w v p), hWV X' M' kW⟩
      · refine ⟨X3, M', t', u2, r1, y8', z4, fun d M => ?_, fun d X a b w v p => (cM d X a b w v p).trans (k2 d X a b w v p), hWV X' M' kW⟩
        rw [cX d M]
        exact stopW z a b w v p h10 (by rw [hQ'.1 1 (by omega) (by omega) (by omega) (by omega) (by omega) (by omega)]; exact hL) (by omega) j4 I _ _ _ d M
end
