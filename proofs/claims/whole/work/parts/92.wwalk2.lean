/-! ===== WRITING: the walk over MCUs of more components ===== -/
def SW2 (X M : Nat → Nat → Int32) (qa : Nat) (F : Nat → Nat) (m h l iv : Nat) : Prop := PX X qa F ∧ PM M 0 F ∧ OL X (allu F m (fD F * fA F)) ∧ OW X (ows F m (F 4)) ∧ X 9 2 = nI 0 ∧ BW qa 0 l X M ∧ (M 70 21 = nI 0 ∧ M 70 23 = nI m ∧ M 70 24 = nI 0 ∧ M 70 26 = nI h ∧ M 70 28 = nI iv ∧ M 70 37 = nI 0)
theorem SW2_g {q qa m h l iv : Nat} {X X' M M' : Nat → Nat → Int32} {F : Nat → Nat} (hq : q = 66 ∨ q = 68) (ha : qa = 48 ∨ qa = 57) (hS : SW2 X M qa F m h l iv) (f : gX q X X') (g : gM M M') : SW2 X' M' qa F m h l iv := by
  obtain ⟨h1, h2, h3, h4, h5, h6, h7⟩ := hS
  refine ⟨PX_gX hq ha h1 f, PM_gM h2 g, OL_gX hq h3 f, OW_gX hq h4 f, ?_, BW_g hq ha h6 f g, ?_⟩
  · rw [f 9 (by omega) (by omega) (by omega) (by omega) (by omega) (by omega)]
    exact h5
  · rw [gM_k g (by omega), gM_k g (by omega), gM_k g (by omega), gM_k g (by omega), gM_k g (by omega), gM_k g (by omega)]
    exact h7
theorem WV_m {q Wb Rb wb Wc Rc : Nat} {X M X' M' : Nat → Nat → Int32} (h : WV q Wb Rb wb X M X' M') (h1 : Wb ≤ Wc) (h2 : Rb ≤ Rc) : WV q Wc Rc wb X M X' M' := by
  obtain ⟨a, b, c⟩ := h
  refine ⟨a, b, ?_⟩
  rcases c with ⟨c1, W, R, wt, k1, k2, k3, k4⟩ | ⟨c1, c2, ⟨W, R, wt, k1, k2, k3, k4⟩, W', R', wt', l1, l2, l3, l4⟩
  · exact Or.inl ⟨c1, W, R, wt, Nat.le_trans k1 h1, Nat.le_trans k2 h2, k3, k4⟩
  · exact Or.inr ⟨c1, c2, ⟨W, R, wt, Nat.le_trans k1 h1, Nat.le_trans k2 h2, k3, k4⟩, W', R', wt', Nat.le_trans l1 h1, Nat.le_trans l2 h2, l3, l4⟩
theorem WV_d {q Wb Rb wb : Nat} {X M Y N X' M' : Nat → Nat → Int32} (h : WV q Wb Rb wb X M Y N) (h10 : Y 44 10 = nI 1) (g : WV q Wb Rb wb Y N X' M') : WV q Wb Rb wb X M X' M' := by
  obtain ⟨a, b, c⟩ := h
  rcases c with ⟨c1, -⟩ | ⟨c1, -⟩
  · exact WV_t a b c1 g
  · rw [c1, nI_eq (by omega) (by omega)] at h10
    exact absurd h10 (by decide)
section
variable (z a b w v : Nat) (p : Nat → Option Nat)
theorem compW_lp {q qa c u h l m iv Wb K : Nat} {F : Nat → Nat} (hq : q = 66 ∨ q = 68) (ha : qa = 48 ∨ qa = 57) (hp4 : p 4 = some qa) (hp5 : p 5 = some 9) (hp6 : p 6 = some q) (hF : FF F) (hk1 : F 0 = 1) (hP : fU F m (F 4) ≤ 10) (hl : l ≤ 13) (hh : h ≤ 14) (hiv : iv < 65536) (hu : u < fD F * fA F) (hc : c < F 4) (hb : m / 2 ^ c % 2 = 1) (hWb : Wb + 20000 < 2 ^ 29) (hK : 8000 ≤ K) (I : Int32) : ∀ (mm k W R : Nat) (X M : Nat → Nat → Int32), k + (mm + 1) = F (10 + c) * F (20 + c) → AL q W R 0 X M → SW2 X M qa F m h l iv → W + K * (mm + 1) ≤ Wb → R + (mm + 1) ≤ 5000 → ∃ (X' M' : Nat → Nat → Int32) (t' : Nat) (y8 : Value), (∀ d M, mm_rx (mm_ev pg_mt (d + 5)) pg_c56 (93, [.ref 44, .ref qa, .ref 9, .int I, .ref q, .int (nI (spn (fD F * fA F * fU F m (F 4)) iv (fU F m (F 4)))), .int (nI (wyP 0 h)), .int (nI (u * fU F m (F 4) + (fU F m c + k))), .int (nI ((u * fU F m (F 4) + (fU F m c + k)) % spn (fD F * fA F * fU F m (F 4)) iv (fU F m (F 4))))], [], (st_h z X M (st_R a b w v p))) = mm_rx (mm_ev pg_mt (d + 5)) pg_c56 (53, [.ref 44, .ref qa, .ref 9, .int I, .ref q, .int (nI (spn (fD F * fA F * fU F m (F 4)) iv (fU F m (F 4)))), .int (nI (wyP 0 h)), .int (nI t'), y8], [], (st_h z (X') M (st_R a b w v p)))) ∧ (∀ d X a b w v p, mm_rx (mm_ev pg_mt (d + 7)) pg_c184 (33, [.ref 70, .int (nI c), .int (nI (u % fA F)), .int (nI (u / fA F)), .int (nI (F (10 + c))), .int (nI (F (20 + c))), .int (nI k)], [], (st_h z X M (st_R a b w v p))) = some (none, (st_h z X (M') (st_R a b w v p)))) ∧ WV q (W + K * (mm + 1)) (R + (mm + 1)) 0 X M X' M' ∧ (X' 44 10 = nI 1 → t' = u * fU F m (F 4) + fU F m (c + 1)) ∧ t' ≤ fD F * fA F * fU F m (F 4)
  | mm, k, W, R, X, M, e1, hA, hS, hW, hR => by
    have hKm : K * 1 ≤ K * (mm + 1) := Nat.mul_le_mul_left K (by omega)
    rw [Nat.mul_one] at hKm
    have hfu := bits_le F hb
    have hmn := fU_mono F m (F 4 - (c + 1)) (c + 1)
    rw [show c + 1 + (F 4 - (c + 1)) = F 4 by omega] at hmn
    have had := FF_ad hF
    have htot := FF_tot hF hP
    have hN2 := Nat.mul_le_mul had.2.2.2 had.2.1
    have hf := hF.2.2.2.2.2.2.2.2.2 c hc
    have n3 := hF.2.2.2.2.2.1
    have hbk := bk2_lt hF hk1 (k := k) hc hu (by omega)
    have hS' := hS
    obtain ⟨hPX, hPM, hOL, hOW, x2, hBW, m21, m23, m24, m26, m28, m37⟩ := hS'
    have hL : X 1 3 = nI (fD F * fA F * fU F m (F 4)) := by rw [hOL.1, allu_len]
    have hPP : X 1 2 = nI (fU F m (F 4)) := by rw [hOW.1, ows_len]
    have hcl : X 2 (u * fU F m (F 4) + (fU F m c + k)) = nI (2304 * c + 64 * bk2 F c u k) := hOL.2 _ _ (by rw [allu_get (by omega) _ hu, sgs_get hb (by omega) _ hc, seg0_get hF hk1 hc (by omega)])
    have how : X 3 (fU F m c + k) = nI c := hOW.2 _ _ (ows_get hb (by omega) _ hc)
    generalize hNN : fD F * fA F = N at *
    generalize hPe : fU F m (F 4) = P at *
    have hNP : N * P ≤ 1600 * 10 := Nat.mul_le_mul (by omega) hP
    have hltt : u * P + P ≤ N * P := by
      have := Nat.mul_le_mul_right P (show u + 1 ≤ N by omega)
      rw [Nat.succ_mul] at this
      exact this
    have hsp : 0 < spn (N * P) iv P ∧ spn (N * P) iv P < 2 ^ 30 := by
      unfold spn
      split
      · omega
      · have := Nat.mul_le_mul (Nat.le_of_lt hiv) hP
        have h1 : 0 < iv * P := Nat.mul_pos (by omega) (by omega)
        omega
    have hml := Nat.mod_lt (u * P + (fU F m c + k)) hsp.1
    have hwb : wbP 0 h = 0 := if_neg (by omega)
    obtain ⟨X3, M3, j1, j2, hQ⟩ := unitW z a b w v p (s := 0) (e := 0) (y := nI ((u * P + (fU F m c + k)) % spn (N * P) iv P / P)) (cell := 2304 * c + 64 * bk2 F c u k) (blk := bk2 F c u k) hq ha hp4 hp5 hp6 ⟨hl, hh, Or.inl ⟨rfl, rfl⟩⟩ (by omega) rfl (by omega) (by omega) (by omega) (Nat.zero_le _) hA hBW x2 m21 m24 m26
    rw [hwb] at hQ
    have cX : ∀ d M, mm_rx (mm_ev pg_mt (d + 5)) pg_c56 (93, [.ref 44, .ref qa, .ref 9, .int I, .ref q, .int (nI (spn (N * P) iv P)), .int (nI (wyP 0 h)), .int (nI (u * P + (fU F m c + k))), .int (nI ((u * P + (fU F m c + k)) % spn (N * P) iv P))], [], (st_h z X M (st_R a b w v p))) = mm_rx (mm_ev pg_mt (d + 5)) pg_c56 (53, [.ref 44, .ref qa, .ref 9, .int I, .ref q, .int (nI (spn (N * P) iv P)), .int (nI (wyP 0 h)), .int (nI (u * P + (fU F m c + k) + 1)), .int (nI ((u * P + (fU F m c + k)) % spn (N * P) iv P))], [], (st_h z (X3) M (st_R a b w v p))) := fun d M => by
      have hmP : (u * P + (fU F m c + k)) % P = fU F m c + k := by
        rw [Nat.mul_comm, Nat.mul_add_mod, Nat.mod_eq_of_lt (by omega)]
      rw [eb56_93]
      simp (disch := omega) only [↓en9, ↓eb9_0, ↓eb9_21, ↓eb9_22, ↓en10, ↓eb10_0, ↓eb10_34, ↓eb10_35, ↓en12, ↓eb12_0, ↓eb12_17, ↓tf_0, ↓tp_0, ↓tz_0, ↓ty_0, ↓tzl_0, ↓tyl_0, ↓tv_0, ↓tf_1, ↓tp_1, ↓tz_1, ↓ty_1, ↓tzl_1, ↓tyl_1, ↓tv_1, ↓ta_2, ↓tb_2, ↓ts_2, ↓tl_2, ↓ta_3, ↓tb_3, ↓ts_3, ↓tl_3, ↓tf_4, ↓tp_4, ↓tz_4, ↓ty_4, ↓tzl_4, ↓tyl_4, ↓tv_4, ↓ta_5, ↓tb_5, ↓ts_5, ↓tl_5, ↓tf_6, ↓tp_6, ↓tz_6, ↓ty_6, ↓tzl_6, ↓tyl_6, ↓tv_6, ↓ta_7, ↓tb_7, ↓ts_7, ↓tl_7, ↓ta_8, ↓tb_8, ↓ts_8, ↓tl_8, ↓tf_9, ↓tp_9, ↓tz_9, ↓ty_9, ↓tzl_9, ↓tyl_9, ↓tv_9, ↓ta_10, ↓tb_10, ↓ts_10, ↓tl_10, ↓ta_11, ↓tb_11, ↓ts_11, ↓tl_11, ↓tf_12, ↓tp_12, ↓tz_12, ↓ty_12, ↓tzl_12, ↓tyl_12, ↓tv_12, ↓tf_13, ↓tp_13, ↓tz_13, ↓ty_13, ↓tzl_13, ↓tyl_13, ↓tv_13, ↓ta_14, ↓tb_14, ↓ts_14, ↓tl_14, ↓tf_15, ↓tp_15, ↓tz_15, ↓ty_15, ↓tzl_15, ↓tyl_15, ↓tv_15, ↓ta_16, ↓tb_16, ↓ts_16, ↓tl_16, ↓ta_17, ↓tb_17, ↓ts_17, ↓tl_17, ↓ta_19, ↓tb_19, ↓ts_19, ↓tl_19, ↓tf_44, ↓tp_44, ↓tz_44, ↓ty_44, ↓tzl_44, ↓tyl_44, ↓tv_44, ↓ta_45, ↓tb_45, ↓ts_45, ↓tl_45, ↓ta_46, ↓tb_46, ↓ts_46, ↓tl_46, ↓ta_47, ↓tb_47, ↓ts_47, ↓tl_47, ↓ta_18, ↓tr_0_0, ↓tr_0_1, ↓tr_0_2, ↓tr_0_3, ↓tr_0_4, ↓tr_1_0, ↓tr_1_1, ↓tr_4_0, ↓tr_6_0, ↓tr_6_1, ↓tr_9_6, ↓tr_9_7, ↓tr_12_0, ↓tr_12_1, ↓tr_12_2, ↓tr_12_3, ↓tr_12_4, ↓tr_13_0, ↓tr_13_1, ↓tr_13_2, ↓tr_15_6, ↓tr_15_7, ↓tr_44_0, ↓tr_44_1, ↓tr_44_2, ↓tr_44_3, ↓tr_0_5, ↓tr_0_6, ↓tr_0_7, ↓tr_0_8, ↓tr_12_5, ↓tu_12_5, ↓tr_13_3, ↓tu_13_3, ↓tr_13_4, ↓tu_13_4, ↓tr_13_5, ↓tu_13_5, ↓tr_44_4, ↓tu_44_4, ↓tr_44_5, ↓tu_44_5, ↓tr_44_6, ↓tu_44_6, ↓tu_0_5, ↓tu_0_6, ↓tu_0_7, ↓tu_0_8, ↓tfP, ↓tpP, ↓tvP, ↓trP_7, ↓trP_8, ↓trP_9, ↓trP_10, ↓trP_11, ↓trP_12, ↓trP_13, ↓trP_14, ↓taP_1, ↓taP_2, ↓taP_3, ↓taP_4, ↓taP_5, ↓taP_6, ↓taP_7, ↓taP_8, ↓tsP_1, ↓tsP_2, ↓tsP_3, ↓tsP_4, ↓tsP_5, ↓tsP_6, ↓tsP_7, ↓tsP_8, ↓tlP_7, ↓tlP_8, ↓tfS, ↓tpS, ↓tvS, ↓trS, ↓taS, ↓tsS, ↓tfT, ↓tzT, ↓tyT, ↓tzlT, ↓tylT, ↓trT_0, ↓trT_1, ↓taT_1, ↓taT_2, ↓tsT_1, ↓tsT_2, ↓tlT_2, ↓reduceIte, ↓bd_ite, ↓Option.bind_some, Option.toList_some, Option.toList_none, List.cons_append, List.nil_append, ↓tz0, ↓tz1, ↓st_z0, ↓st_z1, ↓t_is, ↓t_dv, ↓t_rm, st_us, st_uk, st_uo, nI_add, pk_mul, Nat.reduceAdd, Nat.reduceSub, Nat.reduceMul, pk_sub, nI_leI, nI_ltI, nI_eq, nn_leT, nn_leF, nn_ltT, nn_ltF, nn_eqT, nn_eqF, nm1, k_0, k_1, k_2, k_3, k_4, k_5, k_6, k_7, k_8, k_9, k_10, k_12, k_13, k_15, k_16, k_17, k_20, k_24, k_32, k_36, k_40, k_60, k_63, k_64, k_128, k_192, k_194, k_195, k_196, k_208, k_215, k_216, k_217, k_218, k_219, k_221, k_224, k_239, k_240, k_254, k_255, k_256, k_273, k_309, k_936, k_1600, k_2000, k_2304, k_4800, k_5980, k_6000, k_6912, k_12000, k_16383, k_32767, k_32768, k_65474, k_65475, k_65476, k_65496, k_65497, k_65498, k_65501, k_65535, k_65536, hL, hPP, hcl, how, hmP, j1, ↓eb56_105, ↓eb56_114, ↓eb56_123, ↓eb56_126]
    have a3 := fun d X a b w v p => bacross_M (d := d) (z := z) (a := a) (b := b) (w := w) (v := v) (p := p) (X := X) hF hPM hc
    have hbke : (F (20 + c) * (u / fA F) + k / F (10 + c)) * (fA F * F (10 + c)) + F (10 + c) * (u % fA F) + k % F (10 + c) = bk2 F c u k := rfl
    have hhv := Nat.mul_le_mul hf.2.1 hf.2.2.2.1
    have stM : ∀ d X a b w v p, mm_rx (mm_ev pg_mt (d + 7)) pg_c184 (33, [.ref 70, .int (nI c), .int (nI (u % fA F)), .int (nI (u / fA F)), .int (nI (F (10 + c))), .int (nI (F (20 + c))), .int (nI k)], [], (st_h z X M (st_R a b w v p))) = mm_rx (mm_ev pg_mt (d + 7)) pg_c184 (33, [.ref 70, .int (nI c), .int (nI (u % fA F)), .int (nI (u / fA F)), .int (nI (F (10 + c))), .int (nI (F (20 + c))), .int (nI (k + 1))], [], (st_h z X (M3) (st_R a b w v p))) := fun d X a b w v p => by
      rw [eb184_33]
      simp (disch := omega) only [↓en186, ↓eb186_0, ↓eb186_12, ↓tf_70, ↓tp_70, ↓tz_70, ↓ty_70, ↓tzl_70, ↓tyl_70, ↓tv_70, ↓ta_71, ↓tb_71, ↓ts_71, ↓tl_71, ↓ta_72, ↓tb_72, ↓ts_72, ↓tl_72, ↓ta_73, ↓tb_73, ↓ts_73, ↓tl_73, ↓ta_74, ↓tb_74, ↓ts_74, ↓tl_74, ↓ta_75, ↓tb_75, ↓ts_75, ↓tl_75, ↓ta_76, ↓tb_76, ↓ts_76, ↓tl_76, ↓ta_77, ↓tb_77, ↓ts_77, ↓tl_77, ↓ta_78, ↓tb_78, ↓ts_78, ↓tl_78, ↓ta_79, ↓tb_79, ↓ts_79, ↓tl_79, ↓ta_80, ↓tb_80, ↓ts_80, ↓tl_80, ↓ta_81, ↓tb_81, ↓ts_81, ↓tl_81, ↓ta_82, ↓tb_82, ↓ts_82, ↓tl_82, ↓ta_83, ↓tb_83, ↓ts_83, ↓tl_83, ↓ta_84, ↓tb_84, ↓ts_84, ↓tl_84, ↓ta_85, ↓tb_85, ↓ts_85, ↓tl_85, ↓ta_86, ↓tb_86, ↓ts_86, ↓tl_86, ↓ta_87, ↓tb_87, ↓ts_87, ↓tl_87, ↓ta_88, ↓tb_88, ↓ts_88, ↓tl_88, ↓ta_89, ↓tb_89, ↓ts_89, ↓tl_89, ↓ta_90, ↓tb_90, ↓ts_90, ↓tl_90, ↓ta_91, ↓tb_91, ↓ts_91, ↓tl_91, ↓ta_92, ↓tb_92, ↓ts_92, ↓tl_92, ↓ta_93, ↓tb_93, ↓ts_93, ↓tl_93, ↓ta_94, ↓tb_94, ↓ts_94, ↓tl_94, ↓tr_70_1, ↓tr_70_3, ↓tr_70_5, ↓tr_70_6, ↓tr_70_7, ↓tr_70_8, ↓tr_70_9, ↓tr_70_10, ↓tr_70_11, ↓tr_70_12, ↓tr_70_13, ↓tr_70_14, ↓tr_70_15, ↓tr_70_17, ↓tr_70_19, ↓tr_70_29, ↓tr_70_41, ↓tr_70_44, ↓tr_70_45, ↓tr_70_46, ↓tr_70_47, ↓tr_70_49, ↓tr_70_51, ↓tr_70_53, ↓reduceIte, ↓bd_ite, ↓Option.bind_some, Option.toList_some, Option.toList_none, List.cons_append, List.nil_append, ↓tz0, ↓tz1, ↓st_z0, ↓st_z1, ↓t_is, ↓t_dv, ↓t_rm, st_us, st_uk, st_uo, nI_add, pk_mul, Nat.reduceAdd, Nat.reduceSub, Nat.reduceMul, pk_sub, nI_leI, nI_ltI, nI_eq, nn_leT, nn_leF, nn_ltT, nn_ltF, nn_eqT, nn_eqF, nm1, k_0, k_1, k_2, k_3, k_4, k_5, k_6, k_7, k_8, k_9, k_10, k_12, k_13, k_15, k_16, k_17, k_20, k_24, k_32, k_36, k_40, k_60, k_63, k_64, k_128, k_192, k_194, k_195, k_196, k_208, k_215, k_216, k_217, k_218, k_219, k_221, k_224, k_239, k_240, k_254, k_255, k_256, k_273, k_309, k_936, k_1600, k_2000, k_2304, k_4800, k_5980, k_6000, k_6912, k_12000, k_16383, k_32767, k_32768, k_65474, k_65475, k_65476, k_65496, k_65497, k_65498, k_65501, k_65535, k_65536, m37, m21, a3, hbke, j2, ↓eb184_47, ↓eb184_71, ↓eb184_86]
    by_cases hmm : mm = 0
    · subst hmm
      refine ⟨X3, M3, u * P + (fU F m c + k) + 1, _, cX, fun d X a b w v p => ?_, WV_m hQ (by omega) (by omega), fun _ => by omega, by omega⟩
      rw [stM d X a b w v p, eb184_33]
      simp (disch := omega) only [↓tf_70, ↓tp_70, ↓tz_70, ↓ty_70, ↓tzl_70, ↓tyl_70, ↓tv_70, ↓ta_71, ↓tb_71, ↓ts_71, ↓tl_71, ↓ta_72, ↓tb_72, ↓ts_72, ↓tl_72, ↓ta_73, ↓tb_73, ↓ts_73, ↓tl_73, ↓ta_74, ↓tb_74, ↓ts_74, ↓tl_74, ↓ta_75, ↓tb_75, ↓ts_75, ↓tl_75, ↓ta_76, ↓tb_76, ↓ts_76, ↓tl_76, ↓ta_77, ↓tb_77, ↓ts_77, ↓tl_77, ↓ta_78, ↓tb_78, ↓ts_78, ↓tl_78, ↓ta_79, ↓tb_79, ↓ts_79, ↓tl_79, ↓ta_80, ↓tb_80, ↓ts_80, ↓tl_80, ↓ta_81, ↓tb_81, ↓ts_81, ↓tl_81, ↓ta_82, ↓tb_82, ↓ts_82, ↓tl_82, ↓ta_83, ↓tb_83, ↓ts_83, ↓tl_83, ↓ta_84, ↓tb_84, ↓ts_84, ↓tl_84, ↓ta_85, ↓tb_85, ↓ts_85, ↓tl_85, ↓ta_86, ↓tb_86, ↓ts_86, ↓tl_86, ↓ta_87, ↓tb_87, ↓ts_87, ↓tl_87, ↓ta_88, ↓tb_88, ↓ts_88, ↓tl_88, ↓ta_89, ↓tb_89, ↓ts_89, ↓tl_89, ↓ta_90, ↓tb_90, ↓ts_90, ↓tl_90, ↓ta_91, ↓tb_91, ↓ts_91, ↓tl_91, ↓ta_92, ↓tb_92, ↓ts_92, ↓tl_92, ↓ta_93, ↓tb_93, ↓ts_93, ↓tl_93, ↓ta_94, ↓tb_94, ↓ts_94, ↓tl_94, ↓tr_70_1, ↓tr_70_3, ↓tr_70_5, ↓tr_70_6, ↓tr_70_7, ↓tr_70_8, ↓tr_70_9, ↓tr_70_10, ↓tr_70_11, ↓tr_70_12, ↓tr_70_13, ↓tr_70_14, ↓tr_70_15, ↓tr_70_17, ↓tr_70_19, ↓tr_70_29, ↓tr_70_41, ↓tr_70_44, ↓tr_70_45, ↓tr_70_46, ↓tr_70_47, ↓tr_70_49, ↓tr_70_51, ↓tr_70_53, ↓reduceIte, ↓bd_ite, ↓Option.bind_some, Option.toList_some, Option.toList_none, List.cons_append, List.nil_append, ↓tz0, ↓tz1, ↓st_z0, ↓st_z1, ↓t_is, ↓t_dv, ↓t_rm, st_us, st_uk, st_uo, nI_add, pk_mul, Nat.reduceAdd, Nat.reduceSub, Nat.reduceMul, pk_sub, nI_leI, nI_ltI, nI_eq, nn_leT, nn_leF, nn_ltT, nn_ltF, nn_eqT, nn_eqF, nm1, k_0, k_1, k_2, k_3, k_4, k_5, k_6, k_7, k_8, k_9, k_10, k_12, k_13, k_15, k_16, k_17, k_20, k_24, k_32, k_36, k_40, k_60, k_63, k_64, k_128, k_192, k_194, k_195, k_196, k_208, k_215, k_216, k_217, k_218, k_219, k_221, k_224, k_239, k_240, k_254, k_255, k_256, k_273, k_309, k_936, k_1600, k_2000, k_2304, k_4800, k_5980, k_6000, k_6912, k_12000, k_16383, k_32767, k_32768, k_65474, k_65475, k_65476, k_65496, k_65497, k_65498, k_65501, k_65535, k_65536, ↓eb184_92]
    · obtain ⟨mm, rfl⟩ : ∃ m', mm = m' + 1 := ⟨mm - 1, by omega⟩
      have eW : W + K * (mm + 1 + 1) = W + K + K * (mm + 1) := by rw [Nat.mul_succ]; omega
      have eR : R + (mm + 1 + 1) = R + 1 + (mm + 1) := by omega
      obtain ⟨Y, W3, R3, wt3, gY, y1, y2, y3, hAY, hor⟩ := WV_step (Wb := W + K + K * (mm + 1)) (Rb := R + 1 + (mm + 1)) hq hQ (by omega) (by omega)
      rw [eW] at hW ⊢
      have y3 : wt3 = 0 := by omega
      subst y3
      obtain ⟨X', M', t', y8, i1, i2, i3, i4, i5⟩ := compW_lp hq ha hp4 hp5 hp6 hF hk1 (by rw [hPe]; exact hP) hl hh hiv (by rw [hNN]; exact hu) hc hb hWb hK I mm (k + 1) W3 R3 Y M3 (by omega) hAY (SW2_g hq ha hS (gX_t hQ.1 gY) hQ.2.1) (by omega) (by omega)
      rw [hNN, hPe] at i1 i5
      rw [hPe] at i4
      have i3' : WV q (W + K + K * (mm + 1)) (R + 1 + (mm + 1)) 0 Y M3 X' M' := WV_m i3 (by omega) (by omega)
      rw [eR]
      rcases hor with ⟨h10, rfl, hWV⟩ | ⟨h10, hWV⟩
      · refine ⟨X', M', t', y8, fun d M => ?_, fun d X a b w v p => (stM d X a b w v p).trans (i2 d X a b w v p), hWV X' M' i3', i4, i5⟩
        have hL3 : Y 1 3 = nI (N * P) := by rw [hQ.1 1 (by omega) (by omega) (by omega) (by omega) (by omega) (by omega)]; exact hL
        have := midW z a b w v p (q := q) (qa := qa) (N := N) (P := P) (iv := iv) (u := u) (j := fU F m c + (k + 1)) h10 hL3 (by omega) (by omega) hP (by omega) (by omega) hiv I (nI (wyP 0 h)) (.int (nI ((u * P + (fU F m c + k)) % spn (N * P) iv P))) d M
        rw [cX d M, ← i1 d M, ← this, Nat.add_assoc, Nat.add_assoc]
      · refine ⟨X3, M', u * P + (fU F m c + k) + 1, _, cX, fun d X a b w v p => (stM d X a b w v p).trans (i2 d X a b w v p), hWV X' M' i3', fun e => ?_, by omega⟩
        rw [h10, nI_eq (by omega) (by omega)] at e
        exact absurd e (by decide)
end
