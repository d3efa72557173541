/-! ===== WRITING: the walk over a lossless scan's MCUs ===== -/
def SW3 (X M : Nat → Nat → Int32) (qa : Nat) (F : Nat → Nat) (m s l iv : Nat) : Prop := PX X qa F ∧ PM M 0 F ∧ (X 1 3 = nI (F 2 * F 1 * fU F m (F 4)) ∧ X 1 2 = nI (fU F m (F 4)) ∧ ∀ c, c < F 4 → m / 2 ^ c % 2 = 1 → X 3 (fU F m c) = nI c ∧ ∀ u, u < F 2 * F 1 → X 2 (u * fU F m (F 4) + fU F m c) = nI (2304 * c + u)) ∧ (X 9 2 = nI s ∧ X 9 5 = nI l) ∧ LW qa F X M ∧ (M 70 21 = nI 0 ∧ M 70 22 = nI 1 ∧ M 70 23 = nI m ∧ M 70 24 = nI s ∧ M 70 27 = nI l ∧ M 70 28 = nI iv ∧ M 70 37 = nI 0)
theorem SW3_g {q qa m s l iv : Nat} {X X' M M' : Nat → Nat → Int32} {F : Nat → Nat} (hq : q = 66 ∨ q = 68) (ha : qa = 48 ∨ qa = 57) (hS : SW3 X M qa F m s l iv) (f : gX q X X') (g : gM M M') : SW3 X' M' qa F m s l iv := by
  obtain ⟨h1, h2, h3, h4, h5, h6⟩ := hS
  refine ⟨PX_gX hq ha h1 f, PM_gM h2 g, ?_, ?_, ?_, ?_⟩
  · rw [f 1 (by omega) (by omega) (by omega) (by omega) (by omega) (by omega), f 2 (by omega) (by omega) (by omega) (by omega) (by omega) (by omega), f 3 (by omega) (by omega) (by omega) (by omega) (by omega) (by omega)]
    exact h3
  · rw [f 9 (by omega) (by omega) (by omega) (by omega) (by omega) (by omega)]
    exact h4
  · unfold LW at *
    rw [f (qa + 7) (by omega) (by omega) (by omega) (by omega) (by omega) (by omega), g.1 82 (by decide) (by decide) (by decide) (by decide) (by decide)]
    exact h5
  · rw [gM_k g (by omega), gM_k g (by omega), gM_k g (by omega), gM_k g (by omega), gM_k g (by omega), gM_k g (by omega), gM_k g (by omega)]
    exact h6
theorem AL_SG {q W R wt k : Nat} {X M X' M' : Nat → Nat → Int32} (hq : q = 66 ∨ q = 68) (h : AL q W R wt X M) (g : SG q W k X M X' M') : ∃ W', W' ≤ W + k ∧ AL q W' R wt X' M' := by
  obtain ⟨⟨W', H', f', a1, a2, a3⟩, i4, i5⟩ := g
  exact ⟨W', a2, AL_mk h a3 (RW_c hq h.2.1 i4 i5) (i4 45 (by omega) (by omega)) (i5.1 86 (by decide) (by decide)) (by rw [i4 44 (by omega) (by omega)])⟩
section
variable (z a b w v : Nat) (p : Nat → Option Nat)
theorem mcuV_lp {q qa u k s l m iv Wb K R : Nat} {F : Nat → Nat} (hq : q = 66 ∨ q = 68) (ha : qa = 48 ∨ qa = 57) (hp4 : p 4 = some qa) (hp5 : p 5 = some 9) (hp6 : p 6 = some q) (hF : FF F) (hk2 : F 0 = 2) (hm : m < 8) (hP0 : 1 ≤ fU F m (F 4)) (hs : 1 ≤ s ∧ s ≤ 7) (hl : l < F 3) (hiv : iv < 65536) (hu : u < F 2 * F 1) (hu2 : u = F 1 * k + (if iv = 0 then u else u % iv)) (hWb : Wb + 20000 < 2 ^ 29) (hK : 8 ≤ K) (I lo : Int32) : ∀ (n' c : Nat) (f : Bool) (W : Nat) (y8 : Value) (X M : Nat → Nat → Int32), c + n' = F 4 → AL q W R 0 X M → SW3 X M qa F m s l iv → M 70 32 = nI (F 1 * k) → (f = true ↔ fU F m c = 0) → W + K * (fU F m (F 4) - fU F m c) ≤ Wb → ∃ (X' M' : Nat → Nat → Int32) (y8' : Value), (∀ d M, (if f = true then mm_rx (mm_ev pg_mt (d + 5)) pg_c56 (93, [.ref 44, .ref qa, .ref 9, .int I, .ref q, .int (nI (spn (F 2 * F 1 * fU F m (F 4)) iv (fU F m (F 4)))), .int (nI 4), .int (nI (u * fU F m (F 4) + fU F m c)), .int (nI ((u * fU F m (F 4) + fU F m c) % spn (F 2 * F 1 * fU F m (F 4)) iv (fU F m (F 4))))], [], (st_h z X M (st_R a b w v p))) else mm_rx (mm_ev pg_mt (d + 5)) pg_c56 (53, [.ref 44, .ref qa, .ref 9, .int I, .ref q, .int (nI (spn (F 2 * F 1 * fU F m (F 4)) iv (fU F m (F 4)))), .int (nI 4), .int (nI (u * fU F m (F 4) + fU F m c)), y8], [], (st_h z X M (st_R a b w v p)))) = mm_rx (mm_ev pg_mt (d + 5)) pg_c56 (53, [.ref 44, .ref qa, .ref 9, .int I, .ref q, .int (nI (spn (F 2 * F 1 * fU F m (F 4)) iv (fU F m (F 4)))), .int (nI 4), .int (nI (u * fU F m (F 4) + fU F m (F 4))), y8'], [], (st_h z (X') M (st_R a b w v p)))) ∧ (∀ d X a b w v p, mm_rx (mm_ev pg_mt (d + 8)) pg_c183 (30, [.ref 70, .int (nI u), .int (nI (F 1)), .int lo, .int (nI c)], [], (st_h z X M (st_R a b w v p))) = some (none, (st_h z X (M') (st_R a b w v p)))) ∧ (∃ W', W' ≤ W + K * (fU F m (F 4) - fU F m c) ∧ AL q W' R 0 X' M') ∧ gX q X X' ∧ gM M M' ∧ M' 70 39 = M 70 39 ∧ M' 70 32 = M 70 32
  | 0, c, f, W, y8, X, M, e1, hA, hS, h32, hf, hW => by
    have e1 : c = F 4 := e1
    subst e1
    have n3 := hF.2.2.2.2.2.1
    have hf : f = false := by
      cases f with
      | false => rfl
      | true =>
        have := hf.1 rfl
        omega
    subst hf
    obtain ⟨hPX, hPM, -, -, -, m21, -⟩ := hS
    have m77 := hPM.2.2.2.2.2.1
    refine ⟨X, M, y8, fun d M => if_neg (by decide), fun d X a b w v p => ?_, ⟨W, Nat.le_add_right _ _, hA⟩, gX_r q X, gM_r M, rfl, rfl⟩
    rw [eb183_30]
    simp (disch := omega) only [↓tf_70, ↓tp_70, ↓tz_70, ↓ty_70, ↓tzl_70, ↓tyl_70, ↓tv_70, ↓ta_71, ↓tb_71, ↓ts_71, ↓tl_71, ↓ta_72, ↓tb_72, ↓ts_72, ↓tl_72, ↓ta_73, ↓tb_73, ↓ts_73, ↓tl_73, ↓ta_74, ↓tb_74, ↓ts_74, ↓tl_74, ↓ta_75, ↓tb_75, ↓ts_75, ↓tl_75, ↓ta_76, ↓tb_76, ↓ts_76, ↓tl_76, ↓ta_77, ↓tb_77, ↓ts_77, ↓tl_77, ↓ta_78, ↓tb_78, ↓ts_78, ↓tl_78, ↓ta_79, ↓tb_79, ↓ts_79, ↓tl_79, ↓ta_80, ↓tb_80, ↓ts_80, ↓tl_80, ↓ta_81, ↓tb_81, ↓ts_81, ↓tl_81, ↓ta_82, ↓tb_82, ↓ts_82, ↓tl_82, ↓ta_83, ↓tb_83, ↓ts_83, ↓tl_83, ↓ta_84, ↓tb_84, ↓ts_84, ↓tl_84, ↓ta_85, ↓tb_85, ↓ts_85, ↓tl_85, ↓ta_86, ↓tb_86, ↓ts_86, ↓tl_86, ↓ta_87, ↓tb_87, ↓ts_87, ↓tl_87, ↓ta_88, ↓tb_88, ↓ts_88, ↓tl_88, ↓ta_89, ↓tb_89, ↓ts_89, ↓tl_89, ↓ta_90, ↓tb_90, ↓ts_90, ↓tl_90, ↓ta_91, ↓tb_91, ↓ts_91, ↓tl_91, ↓ta_92, ↓tb_92, ↓ts_92, ↓tl_92, ↓ta_93, ↓tb_93, ↓ts_93, ↓tl_93, ↓ta_94, ↓tb_94, ↓ts_94, ↓tl_94, ↓tr_70_1, ↓tr_70_3, ↓tr_70_5, ↓tr_70_6, ↓tr_70_7, ↓tr_70_8, ↓tr_70_9, ↓tr_70_10, ↓tr_70_11, ↓tr_70_12, ↓tr_70_13, ↓tr_70_14, ↓tr_70_15, ↓tr_70_17, ↓tr_70_19, ↓tr_70_29, ↓tr_70_41, ↓tr_70_44, ↓tr_70_45, ↓tr_70_46, ↓tr_70_47, ↓tr_70_49, ↓tr_70_51, ↓tr_70_53, ↓reduceIte, ↓bd_ite, ↓Option.bind_some, Option.toList_some, Option.toList_none, List.cons_append, List.nil_append, ↓tz0, ↓tz1, ↓st_z0, ↓st_z1, ↓t_is, ↓t_dv, ↓t_rm, st_us, st_uk, st_uo, nI_add, pk_mul, Nat.reduceAdd, Nat.reduceSub, Nat.reduceMul, pk_sub, nI_leI, nI_ltI, nI_eq, nn_leT, nn_leF, nn_ltT, nn_ltF, nn_eqT, nn_eqF, nm1, k_0, k_1, k_2, k_3, k_4, k_5, k_6, k_7, k_8, k_9, k_10, k_12, k_13, k_15, k_16, k_17, k_20, k_24, k_32, k_36, k_40, k_60, k_63, k_64, k_128, k_192, k_194, k_195, k_196, k_208, k_215, k_216, k_217, k_218, k_219, k_221, k_224, k_239, k_240, k_254, k_255, k_256, k_273, k_309, k_936, k_1600, k_2000, k_2304, k_4800, k_5980, k_6000, k_6912, k_12000, k_16383, k_32767, k_32768, k_65474, k_65475, k_65476, k_65496, k_65497, k_65498, k_65501, k_65535, k_65536, m21, m77, ↓eb183_81, ↓eb183_179]
  | n' + 1, c, f, W, y8, X, M, e1, hA, hS, h32, hff, hW => by
    have n3 := hF.2.2.2.2.2.1
    have w1 := hF.1
    have w2 := hF.2.1
    have g2 := hF.2.2.2.1
    have hN2 := Nat.mul_le_mul g2 w2
    have hP3 := fU_l hF hk2 m (F 4) (Nat.le_refl _)
    have hfl1 := FF_l hF hk2 (c := c) (by omega)
    have hS' := hS
    obtain ⟨hPX, hPM, ⟨hL, hPP, hord⟩, ⟨x2, x5⟩, hLW, m21, m22, m23, m24, m27, m28, m37⟩ := hS'
    have m77 := hPM.2.2.2.2.2.1
    rcases (show m / 2 ^ c % 2 = 0 ∨ m / 2 ^ c % 2 = 1 by omega) with hb | hb
    · have hfu : fU F m (c + 1) = fU F m c := if_neg (by omega)
      obtain ⟨X', M', y8', i1, i2, i3⟩ := mcuV_lp hq ha hp4 hp5 hp6 hF hk2 hm hP0 hs hl hiv hu hu2 hWb hK I lo n' (c + 1) f W y8 X M (by omega) hA hS h32 (by rw [hfu]; exact hff) (by rw [hfu]; exact hW)
      rw [hfu] at i1 i3
      refine ⟨X', M', y8', i1, fun d X a b w v p => ?_, i3⟩
      rw [← i2 d X a b w v p, eb183_30]
      simp (disch := omega) only [↓en186, ↓eb186_0, ↓eb186_12, ↓tf_70, ↓tp_70, ↓tz_70, ↓ty_70, ↓tzl_70, ↓tyl_70, ↓tv_70, ↓ta_71, ↓tb_71, ↓ts_71, ↓tl_71, ↓ta_72, ↓tb_72, ↓ts_72, ↓tl_72, ↓ta_73, ↓tb_73, ↓ts_73, ↓tl_73, ↓ta_74, ↓tb_74, ↓ts_74, ↓tl_74, ↓ta_75, ↓tb_75, ↓ts_75, ↓tl_75, ↓ta_76, ↓tb_76, ↓ts_76, ↓tl_76, ↓ta_77, ↓tb_77, ↓ts_77, ↓tl_77, ↓ta_78, ↓tb_78, ↓ts_78, ↓tl_78, ↓ta_79, ↓tb_79, ↓ts_79, ↓tl_79, ↓ta_80, ↓tb_80, ↓ts_80, ↓tl_80, ↓ta_81, ↓tb_81, ↓ts_81, ↓tl_81, ↓ta_82, ↓tb_82, ↓ts_82, ↓tl_82, ↓ta_83, ↓tb_83, ↓ts_83, ↓tl_83, ↓ta_84, ↓tb_84, ↓ts_84, ↓tl_84, ↓ta_85, ↓tb_85, ↓ts_85, ↓tl_85, ↓ta_86, ↓tb_86, ↓ts_86, ↓tl_86, ↓ta_87, ↓tb_87, ↓ts_87, ↓tl_87, ↓ta_88, ↓tb_88, ↓ts_88, ↓tl_88, ↓ta_89, ↓tb_89, ↓ts_89, ↓tl_89, ↓ta_90, ↓tb_90, ↓ts_90, ↓tl_90, ↓ta_91, ↓tb_91, ↓ts_91, ↓tl_91, ↓ta_92, ↓tb_92, ↓ts_92, ↓tl_92, ↓ta_93, ↓tb_93, ↓ts_93, ↓tl_93, ↓ta_94, ↓tb_94, ↓ts_94, ↓tl_94, ↓tr_70_1, ↓tr_70_3, ↓tr_70_5, ↓tr_70_6, ↓tr_70_7, ↓tr_70_8, ↓tr_70_9, ↓tr_70_10, ↓tr_70_11, ↓tr_70_12, ↓tr_70_13, ↓tr_70_14, ↓tr_70_15, ↓tr_70_17, ↓tr_70_19, ↓tr_70_29, ↓tr_70_41, ↓tr_70_44, ↓tr_70_45, ↓tr_70_46, ↓tr_70_47, ↓tr_70_49, ↓tr_70_51, ↓tr_70_53, ↓reduceIte, ↓bd_ite, ↓Option.bind_some, Option.toList_some, Option.toList_none, List.cons_append, List.nil_append, ↓tz0, ↓tz1, ↓st_z0, ↓st_z1, ↓t_is, ↓t_dv, ↓t_rm, st_us, st_uk, st_uo, nI_add, pk_mul, Nat.reduceAdd, Nat.reduceSub, Nat.reduceMul, pk_sub, nI_leI, nI_ltI, nI_eq, nn_leT, nn_leF, nn_ltT, nn_ltF, nn_eqT, nn_eqF, nm1, k_0, k_1, k_2, k_3, k_4, k_5, k_6, k_7, k_8, k_9, k_10, k_12, k_13, k_15, k_16, k_17, k_20, k_24, k_32, k_36, k_40, k_60, k_63, k_64, k_128, k_192, k_194, k_195, k_196, k_208, k_215, k_216, k_217, k_218, k_219, k_221, k_224, k_239, k_240, k_254, k_255, k_256, k_273, k_309, k_936, k_1600, k_2000, k_2304, k_4800, k_5980, k_6000, k_6912, k_12000, k_16383, k_32767, k_32768, k_65474, k_65475, k_65476, k_65496, k_65497, k_65498, k_65501, k_65535, k_65536, m21, m77, m37, m23, has_M, hb, ↓eb183_48, ↓eb183_60, ↓eb183_75]
    · have hfu : fU F m (c + 1) = fU F m c + 1 := by rw [bits_le F hb, hfl1.2.2.1, hfl1.2.2.2.1]
      have hmn := fU_mono F m (F 4 - (c + 1)) (c + 1)
      rw [show c + 1 + (F 4 - (c + 1)) = F 4 by omega] at hmn
      obtain ⟨how, hcl⟩ := hord c (by omega) hb
      have hcl := hcl u hu
      have hltt : u * fU F m (F 4) + fU F m (F 4) ≤ F 2 * F 1 * fU F m (F 4) := by
        have := Nat.mul_le_mul_right (fU F m (F 4)) (show u + 1 ≤ F 2 * F 1 by omega)
        rw [Nat.succ_mul] at this
        exact this
      have hNP : F 2 * F 1 * fU F m (F 4) ≤ 1600 * 3 := Nat.mul_le_mul (by omega) (by omega)
      have hsv := sv_X (N := F 2 * F 1) (P := fU F m (F 4)) (iv := iv) (u := u) (j := fU F m c) hP0 (by omega) hu
      have hsp : 0 < spn (F 2 * F 1 * fU F m (F 4)) iv (fU F m (F 4)) ∧ spn (F 2 * F 1 * fU F m (F 4)) iv (fU F m (F 4)) < 2 ^ 30 := by
        unfold spn
        split
        · omega
        · have := Nat.mul_le_mul (Nat.le_of_lt hiv) (show fU F m (F 4) ≤ 3 by omega)
          have h1 : 0 < iv * fU F m (F 4) := Nat.mul_pos (by omega) (by omega)
          omega
      have hml := Nat.mod_lt (u * fU F m (F 4) + fU F m c) hsp.1
      obtain ⟨sv, hsve⟩ : ∃ sv, sv = if iv = 0 then u else u % iv := ⟨_, rfl⟩
      have hu2' := hu2
      rw [← hsve] at hsv hu2'
      obtain ⟨r, hr⟩ : ∃ r, r = fU F m (F 4) - fU F m (c + 1) := ⟨_, rfl⟩
      have eD : fU F m (F 4) - fU F m c = r + 1 := by omega
      have eK : K * (r + 1) = K * r + K := Nat.mul_succ K r
      rw [eD, eK] at hW
      obtain ⟨X3, M3, j1, j2, jG⟩ := wsamp_pr z a b w v p (sv := sv) (k := k) hq ha hp4 hp5 hp6 (by omega) hA hF hPX hPM hLW (show c < F 4 by omega) hu hu2' x2 x5 hs hl m21 m22 m24 m27 h32
      have i4 := jG.2.1
      have i5 := jG.2.2
      obtain ⟨W3, hW3, hA3⟩ := AL_SG hq hA jG
      have gX3 := gX_T i4
      have gM3 := gM_Q i5
      have q32 : M3 70 32 = M 70 32 := i5.2 32 (by decide) (by decide) (by decide)
      have q39 : M3 70 39 = M 70 39 := i5.2 39 (by decide) (by decide) (by decide)
      obtain ⟨X', M', y8', k1, k2, ⟨W4, k3, k4⟩, k5, k6, k7, k8⟩ := mcuV_lp hq ha hp4 hp5 hp6 hF hk2 hm hP0 hs hl hiv hu hu2 hWb hK I lo n' (c + 1) false W3 (.int (nI ((u * fU F m (F 4) + fU F m c) % spn (F 2 * F 1 * fU F m (F 4)) iv (fU F m (F 4))))) X3 M3 (by omega) hA3 (SW3_g hq ha hS gX3 gM3) (by rw [q32]; exact h32) ⟨fun h => (by cases h), fun h => absurd h (by omega)⟩ (by rw [← hr]; omega)
      rw [← hr] at k3
      refine ⟨X', M', y8', fun d M => ?_, fun d X a b w v p => ?_, ⟨W4, by rw [eD, eK]; omega, k4⟩, gX_t gX3 k5, gM_t gM3 k6, k7.trans q39, k8.trans q32⟩
      · have hk := k1 d M
        rw [if_neg (by decide), hfu, ← Nat.add_assoc] at hk
        have e93 : (if f = true then mm_rx (mm_ev pg_mt (d + 5)) pg_c56 (93, [.ref 44, .ref qa, .ref 9, .int I, .ref q, .int (nI (spn (F 2 * F 1 * fU F m (F 4)) iv (fU F m (F 4)))), .int (nI 4), .int (nI (u * fU F m (F 4) + fU F m c)), .int (nI ((u * fU F m (F 4) + fU F m c) % spn (F 2 * F 1 * fU F m (F 4)) iv (fU F m (F 4))))], [], (st_h z X M (st_R a b w v p))) else mm_rx (mm_ev pg_mt (d + 5)) pg_c56 (53, [.ref 44, .ref qa, .ref 9, .int I, .ref q, .int (nI (spn (F 2 * F 1 * fU F m (F 4)) iv (fU F m (F 4)))), .int (nI 4), .int (nI (u * fU F m (F 4) + fU F m c)), y8], [], (st_h z X M (st_R a b w v p)))) = mm_rx (mm_ev pg_mt (d + 5)) pg_c56 (93, [.ref 44, .ref qa, .ref 9, .int I, .ref q, .int (nI (spn (F 2 * F 1 * fU F m (F 4)) iv (fU F m (F 4)))), .int (nI 4), .int (nI (u * fU F m (F 4) + fU F m c)), .int (nI ((u * fU F m (F 4) + fU F m c) % spn (F 2 * F 1 * fU F m (F 4)) iv (fU F m (F 4))))], [], (st_h z X M (st_R a b w v p))) := by
          cases f with
          | true => exact if_pos rfl
          | false =>
            rw [if_neg (by decide)]
            have hj : 0 < fU F m c := Nat.pos_of_ne_zero (fun e => by
              have := hff.2 e
              cases this)
            exact midW z a b w v p (q := q) (qa := qa) hA.2.2.2 hL hj (by omega) (by omega) hu (by omega) hiv I (nI 4) y8 d M
        rw [e93, ← hk, eb56_93]
        have hmP : (u * fU F m (F 4) + fU F m c) % fU F m (F 4) = fU F m c := by
          rw [Nat.mul_comm, Nat.mul_add_mod, Nat.mod_eq_of_lt (by omega)]
        simp (disch := omega) only [↓en9, ↓eb9_0, ↓eb9_21, ↓eb9_22, ↓en10, ↓eb10_0, ↓eb10_34, ↓eb10_35, ↓en12, ↓eb12_0, ↓eb12_17, ↓en58, ↓eb58_0, ↓eb58_9, ↓eb58_46, ↓eb58_61, ↓eb58_73, ↓eb58_81, ↓eb58_89, ↓eb58_99, ↓tf_0, ↓tp_0, ↓tz_0, ↓ty_0, ↓tzl_0, ↓tyl_0, ↓tv_0, ↓tf_1, ↓tp_1, ↓tz_1, ↓ty_1, ↓tzl_1, ↓tyl_1, ↓tv_1, ↓ta_2, ↓tb_2, ↓ts_2, ↓tl_2, ↓ta_3, ↓tb_3, ↓ts_3, ↓tl_3, ↓tf_4, ↓tp_4, ↓tz_4, ↓ty_4, ↓tzl_4, ↓tyl_4, ↓tv_4, ↓ta_5, ↓tb_5, ↓ts_5, ↓tl_5, ↓tf_6, ↓tp_6, ↓tz_6, ↓ty_6, ↓tzl_6, ↓tyl_6, ↓tv_6, ↓ta_7, ↓tb_7, ↓ts_7, ↓tl_7, ↓ta_8, ↓tb_8, ↓ts_8, ↓tl_8, ↓tf_9, ↓tp_9, ↓tz_9, ↓ty_9, ↓tzl_9, ↓tyl_9, ↓tv_9, ↓ta_10, ↓tb_10, ↓ts_10, ↓tl_10, ↓ta_11, ↓tb_11, ↓ts_11, ↓tl_11, ↓tf_12, ↓tp_12, ↓tz_12, ↓ty_12, ↓tzl_12, ↓tyl_12, ↓tv_12, ↓tf_13, ↓tp_13, ↓tz_13, ↓ty_13, ↓tzl_13, ↓tyl_13, ↓tv_13, ↓ta_14, ↓tb_14, ↓ts_14, ↓tl_14, ↓tf_15, ↓tp_15, ↓tz_15, ↓ty_15, ↓tzl_15, ↓tyl_15, ↓tv_15, ↓ta_16, ↓tb_16, ↓ts_16, ↓tl_16, ↓ta_17, ↓tb_17, ↓ts_17, ↓tl_17, ↓ta_19, ↓tb_19, ↓ts_19, ↓tl_19, ↓tf_44, ↓tp_44, ↓tz_44, ↓ty_44, ↓tzl_44, ↓tyl_44, ↓tv_44, ↓ta_45, ↓tb_45, ↓ts_45, ↓tl_45, ↓ta_46, ↓tb_46, ↓ts_46, ↓tl_46, ↓ta_47, ↓tb_47, ↓ts_47, ↓tl_47, ↓ta_18, ↓tr_0_0, ↓tr_0_1, ↓tr_0_2, ↓tr_0_3, ↓tr_0_4, ↓tr_1_0, ↓tr_1_1, ↓tr_4_0, ↓tr_6_0, ↓tr_6_1, ↓tr_9_6, ↓tr_9_7, ↓tr_12_0, ↓tr_12_1, ↓tr_12_2, ↓tr_12_3, ↓tr_12_4, ↓tr_13_0, ↓tr_13_1, ↓tr_13_2, ↓tr_15_6, ↓tr_15_7, ↓tr_44_0, ↓tr_44_1, ↓tr_44_2, ↓tr_44_3, ↓tr_0_5, ↓tr_0_6, ↓tr_0_7, ↓tr_0_8, ↓tr_12_5, ↓tu_12_5, ↓tr_13_3, ↓tu_13_3, ↓tr_13_4, ↓tu_13_4, ↓tr_13_5, ↓tu_13_5, ↓tr_44_4, ↓tu_44_4, ↓tr_44_5, ↓tu_44_5, ↓tr_44_6, ↓tu_44_6, ↓tu_0_5, ↓tu_0_6, ↓tu_0_7, ↓tu_0_8, ↓tfP, ↓tpP, ↓tvP, ↓trP_7, ↓trP_8, ↓trP_9, ↓trP_10, ↓trP_11, ↓trP_12, ↓trP_13, ↓trP_14, ↓taP_1, ↓taP_2, ↓taP_3, ↓taP_4, ↓taP_5, ↓taP_6, ↓taP_7, ↓taP_8, ↓tsP_1, ↓tsP_2, ↓tsP_3, ↓tsP_4, ↓tsP_5, ↓tsP_6, ↓tsP_7, ↓tsP_8, ↓tlP_7, ↓tlP_8, ↓tfS, ↓tpS, ↓tvS, ↓trS, ↓taS, ↓tsS, ↓tfT, ↓tzT, ↓tyT, ↓tzlT, ↓tylT, ↓trT_0, ↓trT_1, ↓taT_1, ↓taT_2, ↓tsT_1, ↓tsT_2, ↓tlT_2, ↓reduceIte, ↓bd_ite, ↓Option.bind_some, Option.toList_some, Option.toList_none, List.cons_append, List.nil_append, ↓tz0, ↓tz1, ↓st_z0, ↓st_z1, ↓t_is, ↓t_dv, ↓t_rm, st_us, st_uk, st_uo, nI_add, pk_mul, Nat.reduceAdd, Nat.reduceSub, Nat.reduceMul, pk_sub, nI_leI, nI_ltI, nI_eq, nn_leT, nn_leF, nn_ltT, nn_ltF, nn_eqT, nn_eqF, nm1, k_0, k_1, k_2, k_3, k_4, k_5, k_6, k_7, k_8, k_9, k_10, k_12, k_13, k_15, k_16, k_17, k_20, k_24, k_32, k_36, k_40, k_60, k_63, k_64, k_128, k_192, k_194, k_195, k_196, k_208, k_215, k_216, k_217, k_218, k_219, k_221, k_224, k_239, k_240, k_254, k_255, k_256, k_273, k_309, k_936, k_1600, k_2000, k_2304, k_4800, k_5980, k_6000, k_6912, k_12000, k_16383, k_32767, k_32768, k_65474, k_65475, k_65476, k_65496, k_65497, k_65498, k_65501, k_65535, k_65536, hL, hPP, hcl, how, hmP, hsv, j1, ↓eb56_105, ↓eb56_114, ↓eb56_123, ↓eb56_126]
      · rw [← k2 d X a b w v p, eb183_30]
        have hw := Nat.mod_lt u (show 0 < F 1 by omega)
        simp (disch := omega) only [↓en186, ↓eb186_0, ↓eb186_12, ↓tf_70, ↓tp_70, ↓tz_70, ↓ty_70, ↓tzl_70, ↓tyl_70, ↓tv_70, ↓ta_71, ↓tb_71, ↓ts_71, ↓tl_71, ↓ta_72, ↓tb_72, ↓ts_72, ↓tl_72, ↓ta_73, ↓tb_73, ↓ts_73, ↓tl_73, ↓ta_74, ↓tb_74, ↓ts_74, ↓tl_74, ↓ta_75, ↓tb_75, ↓ts_75, ↓tl_75, ↓ta_76, ↓tb_76, ↓ts_76, ↓tl_76, ↓ta_77, ↓tb_77, ↓ts_77, ↓tl_77, ↓ta_78, ↓tb_78, ↓ts_78, ↓tl_78, ↓ta_79, ↓tb_79, ↓ts_79, ↓tl_79, ↓ta_80, ↓tb_80, ↓ts_80, ↓tl_80, ↓ta_81, ↓tb_81, ↓ts_81, ↓tl_81, ↓ta_82, ↓tb_82, ↓ts_82, ↓tl_82, ↓ta_83, ↓tb_83, ↓ts_83, ↓tl_83, ↓ta_84, ↓tb_84, ↓ts_84, ↓tl_84, ↓ta_85, ↓tb_85, ↓ts_85, ↓tl_85, ↓ta_86, ↓tb_86, ↓ts_86, ↓tl_86, ↓ta_87, ↓tb_87, ↓ts_87, ↓tl_87, ↓ta_88, ↓tb_88, ↓ts_88, ↓tl_88, ↓ta_89, ↓tb_89, ↓ts_89, ↓tl_89, ↓ta_90, ↓tb_90, ↓ts_90, ↓tl_90, ↓ta_91, ↓tb_91, ↓ts_91, ↓tl_91, ↓ta_92, ↓tb_92, ↓ts_92, ↓tl_92, ↓ta_93, ↓tb_93, ↓ts_93, ↓tl_93, ↓ta_94, ↓tb_94, ↓ts_94, ↓tl_94, ↓tr_70_1, ↓tr_70_3, ↓tr_70_5, ↓tr_70_6, ↓tr_70_7, ↓tr_70_8, ↓tr_70_9, ↓tr_70_10, ↓tr_70_11, ↓tr_70_12, ↓tr_70_13, ↓tr_70_14, ↓tr_70_15, ↓tr_70_17, ↓tr_70_19, ↓tr_70_29, ↓tr_70_41, ↓tr_70_44, ↓tr_70_45, ↓tr_70_46, ↓tr_70_47, ↓tr_70_49, ↓tr_70_51, ↓tr_70_53, ↓reduceIte, ↓bd_ite, ↓Option.bind_some, Option.toList_some, Option.toList_none, List.cons_append, List.nil_append, ↓tz0, ↓tz1, ↓st_z0, ↓st_z1, ↓t_is, ↓t_dv, ↓t_rm, st_us, st_uk, st_uo, nI_add, pk_mul, Nat.reduceAdd, Nat.reduceSub, Nat.reduceMul, pk_sub, nI_leI, nI_ltI, nI_eq, nn_leT, nn_leF, nn_ltT, nn_ltF, nn_eqT, nn_eqF, nm1, k_0, k_1, k_2, k_3, k_4, k_5, k_6, k_7, k_8, k_9, k_10, k_12, k_13, k_15, k_16, k_17, k_20, k_24, k_32, k_36, k_40, k_60, k_63, k_64, k_128, k_192, k_194, k_195, k_196, k_208, k_215, k_216, k_217, k_218, k_219, k_221, k_224, k_239, k_240, k_254, k_255, k_256, k_273, k_309, k_936, k_1600, k_2000, k_2304, k_4800, k_5980, k_6000, k_6912, k_12000, k_16383, k_32767, k_32768, k_65474, k_65475, k_65476, k_65496, k_65497, k_65498, k_65501, k_65535, k_65536, m21, m77, m37, m23, has_M, hb, j2, ↓eb183_48, ↓eb183_60, ↓eb183_75]
theorem walkW3_lp {q qa s l m iv Wb K : Nat} {F : Nat → Nat} (hq : q = 66 ∨ q = 68) (ha : qa = 48 ∨ qa = 57) (hp4 : p 4 = some qa) (hp5 : p 5 = some 9) (hp6 : p 6 = some q) (hF : FF F) (hk2 : F 0 = 2) (hm : m < 8) (hP0 : 1 ≤ fU F m (F 4)) (hs : 1 ≤ s ∧ s ≤ 7) (hl : l < F 3) (hiv : iv < 65536) (hivW : iv % F 1 = 0) (hWb : Wb + 20000 < 2 ^ 29) (hK : 100 ≤ K) (I lo : Int32) (hlo : ∀ M : Nat → Nat → Int32, M 70 23 = nI m → ∀ d X a b w v p, mm_ev pg_mt (d + 1) 181 [.ref 70] (st_h z X M (st_R a b w v p)) = some (some (.int lo), (st_h z X M (st_R a b w v p)))) : ∀ (mm u W R : Nat) (y8 y4 : Value) (X M : Nat → Nat → Int32), u + mm = F 2 * F 1 → HW q W R 0 u X M → R ≤ 5000 → SW3 X M qa F m s l iv → M 70 32 = nI ((u - 1) / iv * iv) → W + K * mm ≤ Wb → ∃ (X' M' : Nat → Nat → Int32) (u1 u2 r1 : Nat) (y8' y4' : Value), (∀ d M, mm_rx (mm_ev pg_mt (d + 5)) pg_c56 (53, [.ref 44, .ref qa, .ref 9, .int I, .ref q, .int (nI (spn (F 2 * F 1 * fU F m (F 4)) iv (fU F m (F 4)))), .int (nI 4), .int (nI (u * fU F m (F 4))), y8], [], (st_h z X M (st_R a b w v p))) = mm_rx (mm_ev pg_mt (d + 5)) pg_c56 (132, [.ref 44, .ref qa, .ref 9, .int I, .ref q, .int (nI (spn (F 2 * F 1 * fU F m (F 4)) iv (fU F m (F 4)))), .int (nI 4), .int (nI u1), y8'], [], (st_h z (X') M (st_R a b w v p)))) ∧ (∀ d X a b w v p, mm_rx (mm_ev pg_mt (d + 9)) pg_c179 (14, [.ref 70, .int (nI (F 2 * F 1)), .int (nI ((u - 1) / iv % 8)), .int (nI u), y4], [], (st_h z X M (st_R a b w v p))) = mm_rx (mm_ev pg_mt (d + 9)) pg_c179 (111, [.ref 70, .int (nI (F 2 * F 1)), .int (nI r1), .int (nI u2), y4'], [], (st_h z X (M') (st_R a b w v p)))) ∧ WV q Wb 5000 0 X M X' M'
  | mm, u, W, R, y8, y4, X, M, e1, hH, hR, hS, h32, hW => by
    have n3 := hF.2.2.2.2.2.1
    have w1 := hF.1
    have w2 := hF.2.1
    have g1 := hF.2.2.1
    have g2 := hF.2.2.2.1
    have hN1 := Nat.mul_le_mul g1 w1
    have hN2 := Nat.mul_le_mul g2 w2
    have hP3 := fU_l hF hk2 m (F 4) (Nat.le_refl _)
    have hNP : F 2 * F 1 * fU F m (F 4) ≤ 1600 * 3 := Nat.mul_le_mul (by omega) (by omega)
    have hS' := hS
    obtain ⟨hPX, hPM, ⟨hL, hPP, hord⟩, ⟨x2, x5⟩, hLW, m21, m22, m23, m24, m27, m28, m37⟩ := hS'
    have huP : u * fU F m (F 4) ≤ F 2 * F 1 * fU F m (F 4) := Nat.mul_le_mul_right _ (by omega)
    by_cases hu : u = F 2 * F 1
    · obtain ⟨hSK, h10, c3, -⟩ := hH
      obtain ⟨hRW, hdc⟩ := c3 (by omega)
      refine ⟨X, M, u * fU F m (F 4), u, (u - 1) / iv % 8, y8, y4, fun d M => ?_, fun d X a b w v p => ?_, gX_r q X, gM_r M, Or.inl ⟨rfl, W, R, 0, Nat.le_trans (Nat.le_add_right _ _) hW, hR, Nat.le_refl _, hSK, hRW, hdc, h10⟩⟩
      · have : u * fU F m (F 4) = F 2 * F 1 * fU F m (F 4) := by rw [hu]
        rw [eb56_53]
        simp (disch := omega) only [↓tf_0, ↓tp_0, ↓tz_0, ↓ty_0, ↓tzl_0, ↓tyl_0, ↓tv_0, ↓tf_1, ↓tp_1, ↓tz_1, ↓ty_1, ↓tzl_1, ↓tyl_1, ↓tv_1, ↓ta_2, ↓tb_2, ↓ts_2, ↓tl_2, ↓ta_3, ↓tb_3, ↓ts_3, ↓tl_3, ↓tf_4, ↓tp_4, ↓tz_4, ↓ty_4, ↓tzl_4, ↓tyl_4, ↓tv_4, ↓ta_5, ↓tb_5, ↓ts_5, ↓tl_5, ↓tf_6, ↓tp_6, ↓tz_6, ↓ty_6, ↓tzl_6, ↓tyl_6, ↓tv_6, ↓ta_7, ↓tb_7, ↓ts_7, ↓tl_7, ↓ta_8, ↓tb_8, ↓ts_8, ↓tl_8, ↓tf_9, ↓tp_9, ↓tz_9, ↓ty_9, ↓tzl_9, ↓tyl_9, ↓tv_9, ↓ta_10, ↓tb_10, ↓ts_10, ↓tl_10, ↓ta_11, ↓tb_11, ↓ts_11, ↓tl_11, ↓tf_12, ↓tp_12, ↓tz_12, ↓ty_12, ↓tzl_12, ↓tyl_12, ↓tv_12, ↓tf_13, ↓tp_13, ↓tz_13, ↓ty_13, ↓tzl_13, ↓tyl_13, ↓tv_13, ↓ta_14, ↓tb_14, ↓ts_14, ↓tl_14, ↓tf_15, ↓tp_15, ↓tz_15, ↓ty_15, ↓tzl_15, ↓tyl_15, ↓tv_15, ↓ta_16, ↓tb_16, ↓ts_16, ↓tl_16, ↓ta_17, ↓tb_17, ↓ts_17, ↓tl_17, ↓ta_19, ↓tb_19, ↓ts_19, ↓tl_19, ↓tf_44, ↓tp_44, ↓tz_44, ↓ty_44, ↓tzl_44, ↓tyl_44, ↓tv_44, ↓ta_45, ↓tb_45, ↓ts_45, ↓tl_45, ↓ta_46, ↓tb_46, ↓ts_46, ↓tl_46, ↓ta_47, ↓tb_47, ↓ts_47, ↓tl_47, ↓ta_18, ↓tr_0_0, ↓tr_0_1, ↓tr_0_2, ↓tr_0_3, ↓tr_0_4, ↓tr_1_0, ↓tr_1_1, ↓tr_4_0, ↓tr_6_0, ↓tr_6_1, ↓tr_9_6, ↓tr_9_7, ↓tr_12_0, ↓tr_12_1, ↓tr_12_2, ↓tr_12_3, ↓tr_12_4, ↓tr_13_0, ↓tr_13_1, ↓tr_13_2, ↓tr_15_6, ↓tr_15_7, ↓tr_44_0, ↓tr_44_1, ↓tr_44_2, ↓tr_44_3, ↓tr_0_5, ↓tr_0_6, ↓tr_0_7, ↓tr_0_8, ↓tr_12_5, ↓tu_12_5, ↓tr_13_3, ↓tu_13_3, ↓tr_13_4, ↓tu_13_4, ↓tr_13_5, ↓tu_13_5, ↓tr_44_4, ↓tu_44_4, ↓tr_44_5, ↓tu_44_5, ↓tr_44_6, ↓tu_44_6, ↓tu_0_5, ↓tu_0_6, ↓tu_0_7, ↓tu_0_8, ↓tfP, ↓tpP, ↓tvP, ↓trP_7, ↓trP_8, ↓trP_9, ↓trP_10, ↓trP_11, ↓trP_12, ↓trP_13, ↓trP_14, ↓taP_1, ↓taP_2, ↓taP_3, ↓taP_4, ↓taP_5, ↓taP_6, ↓taP_7, ↓taP_8, ↓tsP_1, ↓tsP_2, ↓tsP_3, ↓tsP_4, ↓tsP_5, ↓tsP_6, ↓tsP_7, ↓tsP_8, ↓tlP_7, ↓tlP_8, ↓tfS, ↓tpS, ↓tvS, ↓trS, ↓taS, ↓tsS, ↓tfT, ↓tzT, ↓tyT, ↓tzlT, ↓tylT, ↓trT_0, ↓trT_1, ↓taT_1, ↓taT_2, ↓tsT_1, ↓tsT_2, ↓tlT_2, ↓reduceIte, ↓bd_ite, ↓Option.bind_some, Option.toList_some, Option.toList_none, List.cons_append, List.nil_append, ↓tz0, ↓tz1, ↓st_z0, ↓st_z1, ↓t_is, ↓t_dv, ↓t_rm, st_us, st_uk, st_uo, nI_add, pk_mul, Nat.reduceAdd, Nat.reduceSub, Nat.reduceMul, pk_sub, nI_leI, nI_ltI, nI_eq, nn_leT, nn_leF, nn_ltT, nn_ltF, nn_eqT, nn_eqF, nm1, k_0, k_1, k_2, k_3, k_4, k_5, k_6, k_7, k_8, k_9, k_10, k_12, k_13, k_15, k_16, k_17, k_20, k_24, k_32, k_36, k_40, k_60, k_63, k_64, k_128, k_192, k_194, k_195, k_196, k_208, k_215, k_216, k_217, k_218, k_219, k_221, k_224, k_239, k_240, k_254, k_255, k_256, k_273, k_309, k_936, k_1600, k_2000, k_2304, k_4800, k_5980, k_6000, k_6912, k_12000, k_16383, k_32767, k_32768, k_65474, k_65475, k_65476, k_65496, k_65497, k_65498, k_65501, k_65535, k_65536, hL]
      · rw [eb179_14]
        simp (disch := omega) only [↓tf_70, ↓tp_70, ↓tz_70, ↓ty_70, ↓tzl_70, ↓tyl_70, ↓tv_70, ↓ta_71, ↓tb_71, ↓ts_71, ↓tl_71, ↓ta_72, ↓tb_72, ↓ts_72, ↓tl_72, ↓ta_73, ↓tb_73, ↓ts_73, ↓tl_73, ↓ta_74, ↓tb_74, ↓ts_74, ↓tl_74, ↓ta_75, ↓tb_75, ↓ts_75, ↓tl_75, ↓ta_76, ↓tb_76, ↓ts_76, ↓tl_76, ↓ta_77, ↓tb_77, ↓ts_77, ↓tl_77, ↓ta_78, ↓tb_78, ↓ts_78, ↓tl_78, ↓ta_79, ↓tb_79, ↓ts_79, ↓tl_79, ↓ta_80, ↓tb_80, ↓ts_80, ↓tl_80, ↓ta_81, ↓tb_81, ↓ts_81, ↓tl_81, ↓ta_82, ↓tb_82, ↓ts_82, ↓tl_82, ↓ta_83, ↓tb_83, ↓ts_83, ↓tl_83, ↓ta_84, ↓tb_84, ↓ts_84, ↓tl_84, ↓ta_85, ↓tb_85, ↓ts_85, ↓tl_85, ↓ta_86, ↓tb_86, ↓ts_86, ↓tl_86, ↓ta_87, ↓tb_87, ↓ts_87, ↓tl_87, ↓ta_88, ↓tb_88, ↓ts_88, ↓tl_88, ↓ta_89, ↓tb_89, ↓ts_89, ↓tl_89, ↓ta_90, ↓tb_90, ↓ts_90, ↓tl_90, ↓ta_91, ↓tb_91, ↓ts_91, ↓tl_91, ↓ta_92, ↓tb_92, ↓ts_92, ↓tl_92, ↓ta_93, ↓tb_93, ↓ts_93, ↓tl_93, ↓ta_94, ↓tb_94, ↓ts_94, ↓tl_94, ↓tr_70_1, ↓tr_70_3, ↓tr_70_5, ↓tr_70_6, ↓tr_70_7, ↓tr_70_8, ↓tr_70_9, ↓tr_70_10, ↓tr_70_11, ↓tr_70_12, ↓tr_70_13, ↓tr_70_14, ↓tr_70_15, ↓tr_70_17, ↓tr_70_19, ↓tr_70_29, ↓tr_70_41, ↓tr_70_44, ↓tr_70_45, ↓tr_70_46, ↓tr_70_47, ↓tr_70_49, ↓tr_70_51, ↓tr_70_53, ↓reduceIte, ↓bd_ite, ↓Option.bind_some, Option.toList_some, Option.toList_none, List.cons_append, List.nil_append, ↓tz0, ↓tz1, ↓st_z0, ↓st_z1, ↓t_is, ↓t_dv, ↓t_rm, st_us, st_uk, st_uo, nI_add, pk_mul, Nat.reduceAdd, Nat.reduceSub, Nat.reduceMul, pk_sub, nI_leI, nI_ltI, nI_eq, nn_leT, nn_leF, nn_ltT, nn_ltF, nn_eqT, nn_eqF, nm1, k_0, k_1, k_2, k_3, k_4, k_5, k_6, k_7, k_8, k_9, k_10, k_12, k_13, k_15, k_16, k_17, k_20, k_24, k_32, k_36, k_40, k_60, k_63, k_64, k_128, k_192, k_194, k_195, k_196, k_208, k_215, k_216, k_217, k_218, k_219, k_221, k_224, k_239, k_240, k_254, k_255, k_256, k_273, k_309, k_936, k_1600, k_2000, k_2304, k_4800, k_5980, k_6000, k_6912, k_12000, k_16383, k_32767, k_32768, k_65474, k_65475, k_65476, k_65496, k_65497, k_65498, k_65501, k_65535, k_65536]
    · obtain ⟨mm, rfl⟩ : ∃ m', mm = m' + 1 := ⟨mm - 1, by omega⟩
      have hlt : u < F 2 * F 1 := by omega
      rw [Nat.mul_succ] at hW
      obtain ⟨k, hrf, hu2⟩ := rows_at (W := F 1) (iv := iv) (u := u) (by omega) hivW
      obtain ⟨X1, M1, i1, i2, ⟨W1, R1, wt1, a1, a2, a3, a4⟩, gX1, gM1, h39, hh32⟩ := headW z a b w v p (qa := qa) (P := fU F m (F 4)) (N := F 2 * F 1) (iv := iv) hq hp6 hH (by omega) (by omega) (by omega) hlt (by omega) hP0 (by omega) hiv hL m22 m28 m37 I (nI 4) y8 y4
      have a3 : wt1 = 0 := by omega
      subst a3
      have hh32 := hh32 h32
      rw [hrf] at hh32
      obtain ⟨M2, hM2⟩ : ∃ M2, M2 = st_u M1 70 31 (nI (lfv (F 2 * F 1) iv u)) := ⟨_, rfl⟩
      have gM2 : gM M M2 := by rw [hM2]; exact gM_s gM1 (by omega) _
      have h392 : M2 70 39 = M 70 39 := by rw [hM2, st_uk _ _ _ _ _ (by decide)]; exact h39
      have h322 : M2 70 32 = nI (F 1 * k) := by rw [hM2, st_uk _ _ _ _ _ (by decide)]; exact hh32
      have hA2 : AL q W1 R1 0 X1 M2 := by rw [hM2]; exact AL_31 a4 _
      have hS2 := SW3_g hq ha hS gX1 gM2
      have hf0 : fU F m 0 = 0 := rfl
      have h8 : 8 * (fU F m (F 4) - fU F m 0) ≤ 24 := by rw [hf0]; omega
      obtain ⟨X3, M3, y8', j1, j2, ⟨W3, j3, hA3⟩, j4, j5, j6, j7⟩ := mcuV_lp z a b w v p (k := k) (K := 8) hq ha hp4 hp5 hp6 hF hk2 hm hP0 hs hl hiv hlt hu2 hWb (Nat.le_refl _) I lo (F 4) 0 true W1 (.retAddr 0) X1 M2 (by omega) hA2 hS2 h322 ⟨fun _ => rfl, fun _ => rfl⟩ (by omega)
      have gX3 := gX_t gX1 j4
      have gM3 := gM_t gM2 j5
      have q39 : M3 70 39 = M 70 39 := j6.trans h392
      obtain ⟨X', M', u1, u2, r1, z8, z4, k1, k2, kW⟩ := walkW3_lp hq ha hp4 hp5 hp6 hF hk2 hm hP0 hs hl hiv hivW hWb hK I lo hlo mm (u + 1) W3 R1 y8' (.int (nI (F 2 * F 1 - u))) X3 M3 (by omega) (HW_A hA3 (by omega)) (by omega) (SW3_g hq ha hS gX3 gM3) (by rw [j7, h322, Nat.add_sub_cancel, hrf]) (by omega)
      refine ⟨X', M', u1, u2, r1, z8, z4, fun d M => ?_, fun d X a b w v p => ?_, WV_t gX3 gM3 q39 kW⟩
      · have := j1 d M
        rw [if_pos rfl, hf0, Nat.add_zero (u * fU F m (F 4))] at this
        have h1 := k1 d M
        rw [Nat.succ_mul] at h1
        exact (i1 d M).trans (this.trans h1)
      · have hUM : ∀ d X a b w v p, mm_ev pg_mt (d + 9) 183 [.ref 70, .int (nI u)] (st_h z X (M2) (st_R a b w v p)) = some (none, (st_h z X (M3) (st_R a b w v p))) := fun d X a b w v p => by
          obtain ⟨-, hPM2, -, -, -, o21, o22, o23, -⟩ := hS2
          have a1 := fun d X a b w v p => across_M (d := d) (z := z) (a := a) (b := b) (w := w) (v := v) (p := p) (X := X) hF hPM2
          have hA : fA F = F 1 := if_pos hk2
          rw [hA] at a1
          have a4 := hlo M2 o23
          have o73 : M2 73 0 = nI 2 := by rw [hPM2.2.1, hk2]
          rw [← j2 d X a b w v p]
          simp (disch := omega) only [↓en183, ↓eb183_0, ↓eb183_8, ↓eb183_13, ↓tf_70, ↓tp_70, ↓tz_70, ↓ty_70, ↓tzl_70, ↓tyl_70, ↓tv_70, ↓ta_71, ↓tb_71, ↓ts_71, ↓tl_71, ↓ta_72, ↓tb_72, ↓ts_72, ↓tl_72, ↓ta_73, ↓tb_73, ↓ts_73, ↓tl_73, ↓ta_74, ↓tb_74, ↓ts_74, ↓tl_74, ↓ta_75, ↓tb_75, ↓ts_75, ↓tl_75, ↓ta_76, ↓tb_76, ↓ts_76, ↓tl_76, ↓ta_77, ↓tb_77, ↓ts_77, ↓tl_77, ↓ta_78, ↓tb_78, ↓ts_78, ↓tl_78, ↓ta_79, ↓tb_79, ↓ts_79, ↓tl_79, ↓ta_80, ↓tb_80, ↓ts_80, ↓tl_80, ↓ta_81, ↓tb_81, ↓ts_81, ↓tl_81, ↓ta_82, ↓tb_82, ↓ts_82, ↓tl_82, ↓ta_83, ↓tb_83, ↓ts_83, ↓tl_83, ↓ta_84, ↓tb_84, ↓ts_84, ↓tl_84, ↓ta_85, ↓tb_85, ↓ts_85, ↓tl_85, ↓ta_86, ↓tb_86, ↓ts_86, ↓tl_86, ↓ta_87, ↓tb_87, ↓ts_87, ↓tl_87, ↓ta_88, ↓tb_88, ↓ts_88, ↓tl_88, ↓ta_89, ↓tb_89, ↓ts_89, ↓tl_89, ↓ta_90, ↓tb_90, ↓ts_90, ↓tl_90, ↓ta_91, ↓tb_91, ↓ts_91, ↓tl_91, ↓ta_92, ↓tb_92, ↓ts_92, ↓tl_92, ↓ta_93, ↓tb_93, ↓ts_93, ↓tl_93, ↓ta_94, ↓tb_94, ↓ts_94, ↓tl_94, ↓tr_70_1, ↓tr_70_3, ↓tr_70_5, ↓tr_70_6, ↓tr_70_7, ↓tr_70_8, ↓tr_70_9, ↓tr_70_10, ↓tr_70_11, ↓tr_70_12, ↓tr_70_13, ↓tr_70_14, ↓tr_70_15, ↓tr_70_17, ↓tr_70_19, ↓tr_70_29, ↓tr_70_41, ↓tr_70_44, ↓tr_70_45, ↓tr_70_46, ↓tr_70_47, ↓tr_70_49, ↓tr_70_51, ↓tr_70_53, ↓reduceIte, ↓bd_ite, ↓Option.bind_some, Option.toList_some, Option.toList_none, List.cons_append, List.nil_append, ↓tz0, ↓tz1, ↓st_z0, ↓st_z1, ↓t_is, ↓t_dv, ↓t_rm, st_us, st_uk, st_uo, nI_add, pk_mul, Nat.reduceAdd, Nat.reduceSub, Nat.reduceMul, pk_sub, nI_leI, nI_ltI, nI_eq, nn_leT, nn_leF, nn_ltT, nn_ltF, nn_eqT, nn_eqF, nm1, k_0, k_1, k_2, k_3, k_4, k_5, k_6, k_7, k_8, k_9, k_10, k_12, k_13, k_15, k_16, k_17, k_20, k_24, k_32, k_36, k_40, k_60, k_63, k_64, k_128, k_192, k_194, k_195, k_196, k_208, k_215, k_216, k_217, k_218, k_219, k_221, k_224, k_239, k_240, k_254, k_255, k_256, k_273, k_309, k_936, k_1600, k_2000, k_2304, k_4800, k_5980, k_6000, k_6912, k_12000, k_16383, k_32767, k_32768, k_65474, k_65475, k_65476, k_65496, k_65497, k_65498, k_65501, k_65535, k_65536, o21, a1, a4, o73]
        have m28' : M1 70 28 = nI iv := by rw [gM_k gM1 (by omega)]; exact m28
        have hsub : u + 1 - 1 = u := by omega
        rw [← k2 d X a b w v p, i2 d X a b w v p, eb179_63, hsub]
        by_cases iv0 : iv = 0
        · have hlf : lfv (F 2 * F 1) iv u = F 2 * F 1 - u := if_pos iv0
          rw [hlf] at hM2
          simp (disch := omega) only [↓tf_70, ↓tp_70, ↓tz_70, ↓ty_70, ↓tzl_70, ↓tyl_70, ↓tv_70, ↓ta_71, ↓tb_71, ↓ts_71, ↓tl_71, ↓ta_72, ↓tb_72, ↓ts_72, ↓tl_72, ↓ta_73, ↓tb_73, ↓ts_73, ↓tl_73, ↓ta_74, ↓tb_74, ↓ts_74, ↓tl_74, ↓ta_75, ↓tb_75, ↓ts_75, ↓tl_75, ↓ta_76, ↓tb_76, ↓ts_76, ↓tl_76, ↓ta_77, ↓tb_77, ↓ts_77, ↓tl_77, ↓ta_78, ↓tb_78, ↓ts_78, ↓tl_78, ↓ta_79, ↓tb_79, ↓ts_79, ↓tl_79, ↓ta_80, ↓tb_80, ↓ts_80, ↓tl_80, ↓ta_81, ↓tb_81, ↓ts_81, ↓tl_81, ↓ta_82, ↓tb_82, ↓ts_82, ↓tl_82, ↓ta_83, ↓tb_83, ↓ts_83, ↓tl_83, ↓ta_84, ↓tb_84, ↓ts_84, ↓tl_84, ↓ta_85, ↓tb_85, ↓ts_85, ↓tl_85, ↓ta_86, ↓tb_86, ↓ts_86, ↓tl_86, ↓ta_87, ↓tb_87, ↓ts_87, ↓tl_87, ↓ta_88, ↓tb_88, ↓ts_88, ↓tl_88, ↓ta_89, ↓tb_89, ↓ts_89, ↓tl_89, ↓ta_90, ↓tb_90, ↓ts_90, ↓tl_90, ↓ta_91, ↓tb_91, ↓ts_91, ↓tl_91, ↓ta_92, ↓tb_92, ↓ts_92, ↓tl_92, ↓ta_93, ↓tb_93, ↓ts_93, ↓tl_93, ↓ta_94, ↓tb_94, ↓ts_94, ↓tl_94, ↓tr_70_1, ↓tr_70_3, ↓tr_70_5, ↓tr_70_6, ↓tr_70_7, ↓tr_70_8, ↓tr_70_9, ↓tr_70_10, ↓tr_70_11, ↓tr_70_12, ↓tr_70_13, ↓tr_70_14, ↓tr_70_15, ↓tr_70_17, ↓tr_70_19, ↓tr_70_29, ↓tr_70_41, ↓tr_70_44, ↓tr_70_45, ↓tr_70_46, ↓tr_70_47, ↓tr_70_49, ↓tr_70_51, ↓tr_70_53, ↓reduceIte, ↓bd_ite, ↓Option.bind_some, Option.toList_some, Option.toList_none, List.cons_append, List.nil_append, ↓tz0, ↓tz1, ↓st_z0, ↓st_z1, ↓t_is, ↓t_dv, ↓t_rm, st_us, st_uk, st_uo, nI_add, pk_mul, Nat.reduceAdd, Nat.reduceSub, Nat.reduceMul, pk_sub, nI_leI, nI_ltI, nI_eq, nn_leT, nn_leF, nn_ltT, nn_ltF, nn_eqT, nn_eqF, nm1, k_0, k_1, k_2, k_3, k_4, k_5, k_6, k_7, k_8, k_9, k_10, k_12, k_13, k_15, k_16, k_17, k_20, k_24, k_32, k_36, k_40, k_60, k_63, k_64, k_128, k_192, k_194, k_195, k_196, k_208, k_215, k_216, k_217, k_218, k_219, k_221, k_224, k_239, k_240, k_254, k_255, k_256, k_273, k_309, k_936, k_1600, k_2000, k_2304, k_4800, k_5980, k_6000, k_6912, k_12000, k_16383, k_32767, k_32768, k_65474, k_65475, k_65476, k_65496, k_65497, k_65498, k_65501, k_65535, k_65536, m28', ← hM2, hUM, ↓eb179_97, ↓eb179_105]
        · have hml := Nat.mod_lt u (show 0 < iv by omega)
          have hlf : (if iv - u % iv < F 2 * F 1 - u then nI (iv - u % iv) else nI (F 2 * F 1 - u)) = nI (lfv (F 2 * F 1) iv u) := by
            unfold lfv
            rw [if_neg iv0]
            by_cases hlt2 : iv - u % iv < F 2 * F 1 - u
            · rw [if_pos hlt2, if_neg (by omega)]
            · rw [if_neg hlt2]
              split
              · rfl
              · congr 1
                omega
          simp (disch := omega) only [↓tf_70, ↓tp_70, ↓tz_70, ↓ty_70, ↓tzl_70, ↓tyl_70, ↓tv_70, ↓ta_71, ↓tb_71, ↓ts_71, ↓tl_71, ↓ta_72, ↓tb_72, ↓ts_72, ↓tl_72, ↓ta_73, ↓tb_73, ↓ts_73, ↓tl_73, ↓ta_74, ↓tb_74, ↓ts_74, ↓tl_74, ↓ta_75, ↓tb_75, ↓ts_75, ↓tl_75, ↓ta_76, ↓tb_76, ↓ts_76, ↓tl_76, ↓ta_77, ↓tb_77, ↓ts_77, ↓tl_77, ↓ta_78, ↓tb_78, ↓ts_78, ↓tl_78, ↓ta_79, ↓tb_79, ↓ts_79, ↓tl_79, ↓ta_80, ↓tb_80, ↓ts_80, ↓tl_80, ↓ta_81, ↓tb_81, ↓ts_81, ↓tl_81, ↓ta_82, ↓tb_82, ↓ts_82, ↓tl_82, ↓ta_83, ↓tb_83, ↓ts_83, ↓tl_83, ↓ta_84, ↓tb_84, ↓ts_84, ↓tl_84, ↓ta_85, ↓tb_85, ↓ts_85, ↓tl_85, ↓ta_86, ↓tb_86, ↓ts_86, ↓tl_86, ↓ta_87, ↓tb_87, ↓ts_87, ↓tl_87, ↓ta_88, ↓tb_88, ↓ts_88, ↓tl_88, ↓ta_89, ↓tb_89, ↓ts_89, ↓tl_89, ↓ta_90, ↓tb_90, ↓ts_90, ↓tl_90, ↓ta_91, ↓tb_91, ↓ts_91, ↓tl_91, ↓ta_92, ↓tb_92, ↓ts_92, ↓tl_92, ↓ta_93, ↓tb_93, ↓ts_93, ↓tl_93, ↓ta_94, ↓tb_94, ↓ts_94, ↓tl_94, ↓tr_70_1, ↓tr_70_3, ↓tr_70_5, ↓tr_70_6, ↓tr_70_7, ↓tr_70_8, ↓tr_70_9, ↓tr_70_10, ↓tr_70_11, ↓tr_70_12, ↓tr_70_13, ↓tr_70_14, ↓tr_70_15, ↓tr_70_17, ↓tr_70_19, ↓tr_70_29, ↓tr_70_41, ↓tr_70_44, ↓tr_70_45, ↓tr_70_46, ↓tr_70_47, ↓tr_70_49, ↓tr_70_51, ↓tr_70_53, ↓reduceIte, ↓bd_ite, ↓Option.bind_some, Option.toList_some, Option.toList_none, List.cons_append, List.nil_append, ↓tz0, ↓tz1, ↓st_z0, ↓st_z1, ↓t_is, ↓t_dv, ↓t_rm, st_us, st_uk, st_uo, nI_add, pk_mul, Nat.reduceAdd, Nat.reduceSub, Nat.reduceMul, pk_sub, nI_leI, nI_ltI, nI_eq, nn_leT, nn_leF, nn_ltT, nn_ltF, nn_eqT, nn_eqF, nm1, k_0, k_1, k_2, k_3, k_4, k_5, k_6, k_7, k_8, k_9, k_10, k_12, k_13, k_15, k_16, k_17, k_20, k_24, k_32, k_36, k_40, k_60, k_63, k_64, k_128, k_192, k_194, k_195, k_196, k_208, k_215, k_216, k_217, k_218, k_219, k_221, k_224, k_239, k_240, k_254, k_255, k_256, k_273, k_309, k_936, k_1600, k_2000, k_2304, k_4800, k_5980, k_6000, k_6912, k_12000, k_16383, k_32767, k_32768, k_65474, k_65475, k_65476, k_65496, k_65497, k_65498, k_65501, k_65535, k_65536, m28', hlf, ← hM2, hUM, ↓eb179_97, ↓eb179_105]
end
