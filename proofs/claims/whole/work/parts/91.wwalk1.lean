/-! ===== WRITING: the walk over one component's blocks ===== -/
def SW1 (X M : Nat → Nat → Int32) (qa : Nat) (F : Nat → Nat) (c s e h l iv : Nat) : Prop := PX X qa F ∧ PM M 0 F ∧ OL X (lone F c) ∧ OW X [c] ∧ X 9 2 = nI s ∧ BW qa e l X M ∧ (M 70 21 = nI 0 ∧ M 70 23 = nI (2 ^ c) ∧ M 70 24 = nI s ∧ M 70 26 = nI h ∧ M 70 28 = nI iv ∧ M 70 37 = nI 0)
section
variable {q qa : Nat} {X X' M M' : Nat → Nat → Int32} {F : Nat → Nat}
theorem PX_gX (hq : q = 66 ∨ q = 68) (ha : qa = 48 ∨ qa = 57) (h : PX X qa F) (f : gX q X X') : PX X' qa F := by
  refine PX_c h ?_ ?_ ?_ ?_ ?_ ?_ ?_ <;> exact f _ (by omega) (by omega) (by omega) (by omega) (by omega) (by omega)
theorem PM_gM {i : Nat} (h : PM M i F) (g : gM M M') : PM M' i F := by
  refine PM_c h ?_ ?_ ?_ ?_ ?_ ?_ ?_ <;> exact g.1 _ (by omega) (by omega) (by omega) (by omega) (by omega)
theorem OL_gX {xs : List Nat} (hq : q = 66 ∨ q = 68) (h : OL X xs) (f : gX q X X') : OL X' xs := by
  unfold OL at *
  rw [f 1 (by omega) (by omega) (by omega) (by omega) (by omega) (by omega), f 2 (by omega) (by omega) (by omega) (by omega) (by omega) (by omega)]
  exact h
theorem OW_gX {xs : List Nat} (hq : q = 66 ∨ q = 68) (h : OW X xs) (f : gX q X X') : OW X' xs := by
  unfold OW at *
  rw [f 1 (by omega) (by omega) (by omega) (by omega) (by omega) (by omega), f 3 (by omega) (by omega) (by omega) (by omega) (by omega) (by omega)]
  exact h
theorem gM_k (g : gM M M') {j : Nat} (hj : j < 30 ∨ j = 37) : M' 70 j = M 70 j := g.2 j (by omega) (by omega) (by omega) (by omega) (by omega) (by omega) (by omega) (by omega) (by omega)
theorem SW1_g {c s e h l iv : Nat} (hq : q = 66 ∨ q = 68) (ha : qa = 48 ∨ qa = 57) (hS : SW1 X M qa F c s e h l iv) (f : gX q X X') (g : gM M M') : SW1 X' M' qa F c s e h l iv := by
  obtain ⟨h1, h2, h3, h4, h5, h6, h7⟩ := hS
  refine ⟨PX_gX hq ha h1 f, PM_gM h2 g, OL_gX hq h3 f, OW_gX hq h4 f, ?_, BW_g hq ha h6 f g, ?_⟩
  · rw [f 9 (by omega) (by omega) (by omega) (by omega) (by omega) (by omega)]
    exact h5
  · rw [gM_k g (by omega), gM_k g (by omega), gM_k g (by omega), gM_k g (by omega), gM_k g (by omega), gM_k g (by omega)]
    exact h7
theorem AL_31 {W R wt : Nat} (h : AL q W R wt X M) (u : Int32) : AL q W R wt X (st_u M 70 31 u) := by
  obtain ⟨⟨H, f, hSK⟩, hRW, hdc, h10⟩ := h
  refine ⟨⟨H, f, SK_c hSK rfl rfl (fun j hj => st_uk _ _ _ _ _ (by omega)) (st_uo _ _ _ _ _ (by decide))⟩, ?_, fun c hc => by rw [st_uo _ _ _ _ _ (by decide)]; exact hdc c hc, h10⟩
  unfold RW WB at *
  rw [st_uk _ _ _ _ _ (by decide), st_uk _ _ _ _ _ (by decide), st_uo _ _ _ _ _ (by decide)]
  exact hRW
end
theorem bud {W1 W wt wb m Wb : Nat} (a1 : W1 ≤ W + (4 * wt + 20)) (h2 : wt ≤ wb) (h3 : wb ≤ 936) (hW : W + 12000 * (m + 1) ≤ Wb) : W1 + 8000 ≤ Wb := by
  have h : W + 12000 * 1 ≤ W + 12000 * (m + 1) := Nat.add_le_add_left (Nat.mul_le_mul_left _ (by omega)) _
  have h5 : 4 * wt + 20 ≤ 4000 := Nat.le_trans (Nat.add_le_add_right (Nat.mul_le_mul_left 4 (Nat.le_trans h2 h3)) 20) (by decide)
  have h6 : W1 ≤ W + 4000 := Nat.le_trans a1 (Nat.add_le_add_left h5 W)
  have h4 : W1 + 8000 ≤ W + 12000 * 1 := Nat.add_le_add_right h6 8000
  exact Nat.le_trans h4 (Nat.le_trans h hW)
section
variable (z a b w v : Nat) (p : Nat → Option Nat)
theorem walkW1_lp {q qa c s e h l iv Wb : Nat} {F : Nat → Nat} (hq : q = 66 ∨ q = 68) (ha : qa = 48 ∨ qa = 57) (hp4 : p 4 = some qa) (hp5 : p 5 = some 9) (hp6 : p 6 = some q) (hF : FF F) (hk1 : F 0 = 1) (hc : c < F 4) (hfit : fitP s e h l) (hiv : iv < 65536) (hWb : Wb + 20000 < 2 ^ 29) (I : Int32) : ∀ (m u W R wt : Nat) (y8 y4 : Value) (X M : Nat → Nat → Int32), u + m = fSD F c * fSA F c → HW q W R wt u X M → SW1 X M qa F c s e h l iv → W + 12000 * m ≤ Wb → R + m ≤ 5000 → wt ≤ wbP s h → ∃ (X' M' : Nat → Nat → Int32) (u1 u2 r1 : Nat) (y8' y4' : Value), (∀ d M, mm_rx (mm_ev pg_mt (d + 5)) pg_c56 (53, [.ref 44, .ref qa, .ref 9, .int I, .ref q, .int (nI (spn (fSD F c * fSA F c) iv 1)), .int (nI (wyP s h)), .int (nI u), y8], [], (st_h z X M (st_R a b w v p))) = mm_rx (mm_ev pg_mt (d + 5)) pg_c56 (132, [.ref 44, .ref qa, .ref 9, .int I, .ref q, .int (nI (spn (fSD F c * fSA F c) iv 1)), .int (nI (wyP s h)), .int (nI u1), y8'], [], (st_h z (X') M (st_R a b w v p)))) ∧ (∀ d X a b w v p, mm_rx (mm_ev pg_mt (d + 9)) pg_c179 (14, [.ref 70, .int (nI (fSD F c * fSA F c)), .int (nI ((u - 1) / iv % 8)), .int (nI u), y4], [], (st_h z X M (st_R a b w v p))) = mm_rx (mm_ev pg_mt (d + 9)) pg_c179 (111, [.ref 70, .int (nI (fSD F c * fSA F c)), .int (nI r1), .int (nI u2), y4'], [], (st_h z X (M') (st_R a b w v p)))) ∧ WV q Wb 5000 (wbP s h) X M X' M'
  | m, u, W, R, wt, y8, y4, X, M, e1, hH, hS, hW, hR, hwt => by
    have hsd := FF_sad hF hc
    have hN2 := Nat.mul_le_mul hsd.2.2.2 hsd.2.1
    have hN1 := Nat.mul_le_mul hsd.2.2.1 hsd.1
    have n3 := hF.2.2.2.2.2.1
    have hwb : wbP s h ≤ 936 := by
      unfold wbP
      split <;> omega
    have hS' := hS
    obtain ⟨hPX, hPM, hOL, hOW, x2, hBW, m21, m23, m24, m26, m28, m37⟩ := hS'
    have m22 := hBW.2.2.2.2.1
    have hlen : (lone F c).length = fSD F c * fSA F c := flat_len _ _
    have hL : X 1 3 = nI (fSD F c * fSA F c) := by rw [hOL.1, hlen]
    generalize hN : fSD F c * fSA F c = N at *
    by_cases hu : u = N
    · subst hu
      obtain ⟨hSK, h10, c3, -⟩ := hH
      obtain ⟨hRW, hdc⟩ := c3 (by omega)
      refine ⟨X, M, u, u, (u - 1) / iv % 8, y8, y4, fun d M => ?_, fun d X a b w v p => ?_, gX_r q X, gM_r M, Or.inl ⟨rfl, W, R, wt, by omega, by omega, hwt, hSK, hRW, hdc, h10⟩⟩
      · rw [eb56_53]
        simp (disch := omega) only [↓tf_0, ↓tp_0, ↓tz_0, ↓ty_0, ↓tzl_0, ↓tyl_0, ↓tv_0, ↓tf_1, ↓tp_1, ↓tz_1, ↓ty_1, ↓tzl_1, ↓tyl_1, ↓tv_1, ↓ta_2, ↓tb_2, ↓ts_2, ↓tl_2, ↓ta_3, ↓tb_3, ↓ts_3, ↓tl_3, ↓tf_4, ↓tp_4, ↓tz_4, ↓ty_4, ↓tzl_4, ↓tyl_4, ↓tv_4, ↓ta_5, ↓tb_5, ↓ts_5, ↓tl_5, ↓tf_6, ↓tp_6, ↓tz_6, ↓ty_6, ↓tzl_6, ↓tyl_6, ↓tv_6, ↓ta_7, ↓tb_7, ↓ts_7, ↓tl_7, ↓ta_8, ↓tb_8, ↓ts_8, ↓tl_8, ↓tf_9, ↓tp_9, ↓tz_9, ↓ty_9, ↓tzl_9, ↓tyl_9, ↓tv_9, ↓ta_10, ↓tb_10, ↓ts_10, ↓tl_10, ↓ta_11, ↓tb_11, ↓ts_11, ↓tl_11, ↓tf_12, ↓tp_12, ↓tz_12, ↓ty_12, ↓tzl_12, ↓tyl_12, ↓tv_12, ↓tf_13, ↓tp_13, ↓tz_13, ↓ty_13, ↓tzl_13, ↓tyl_13, ↓tv_13, ↓ta_14, ↓tb_14, ↓ts_14, ↓tl_14, ↓tf_15, ↓tp_15, ↓tz_15, ↓ty_15, ↓tzl_15, ↓tyl_15, ↓tv_15, ↓ta_16, ↓tb_16, ↓ts_16, ↓tl_16, ↓ta_17, ↓tb_17, ↓ts_17, ↓tl_17, ↓ta_19, ↓tb_19, ↓ts_19, ↓tl_19, ↓tf_44, ↓tp_44, ↓tz_44, ↓ty_44, ↓tzl_44, ↓tyl_44, ↓tv_44, ↓ta_45, ↓tb_45, ↓ts_45, ↓tl_45, ↓ta_46, ↓tb_46, ↓ts_46, ↓tl_46, ↓ta_47, ↓tb_47, ↓ts_47, ↓tl_47, ↓ta_18, ↓tr_0_0, ↓tr_0_1, ↓tr_0_2, ↓tr_0_3, ↓tr_0_4, ↓tr_1_0, ↓tr_1_1, ↓tr_4_0, ↓tr_6_0, ↓tr_6_1, ↓tr_9_6, ↓tr_9_7, ↓tr_12_0, ↓tr_12_1, ↓tr_12_2, ↓tr_12_3, ↓tr_12_4, ↓tr_13_0, ↓tr_13_1, ↓tr_13_2, ↓tr_15_6, ↓tr_15_7, ↓tr_44_0, ↓tr_44_1, ↓tr_44_2, ↓tr_44_3, ↓tr_0_5, ↓tr_0_6, ↓tr_0_7, ↓tr_0_8, ↓tr_12_5, ↓tu_12_5, ↓tr_13_3, ↓tu_13_3, ↓tr_13_4, ↓tu_13_4, ↓tr_13_5, ↓tu_13_5, ↓tr_44_4, ↓tu_44_4, ↓tr_44_5, ↓tu_44_5, ↓tr_44_6, ↓tu_44_6, ↓tu_0_5, ↓tu_0_6, ↓tu_0_7, ↓tu_0_8, ↓tfP, ↓tpP, ↓tvP, ↓trP_7, ↓trP_8, ↓trP_9, ↓trP_10, ↓trP_11, ↓trP_12, ↓trP_13, ↓trP_14, ↓taP_1, ↓taP_2, ↓taP_3, ↓taP_4, ↓taP_5, ↓taP_6, ↓taP_7, ↓taP_8, ↓tsP_1, ↓tsP_2, ↓tsP_3, ↓tsP_4, ↓tsP_5, ↓tsP_6, ↓tsP_7, ↓tsP_8, ↓tlP_7, ↓tlP_8, ↓tfS, ↓tpS, ↓tvS, ↓trS, ↓taS, ↓tsS, ↓tfT, ↓tzT, ↓tyT, ↓tzlT, ↓tylT, ↓trT_0, ↓trT_1, ↓taT_1, ↓taT_2, ↓tsT_1, ↓tsT_2, ↓tlT_2, ↓reduceIte, ↓bd_ite, ↓Option.bind_some, Option.toList_some, Option.toList_none, List.cons_append, List.nil_append, ↓tz0, ↓tz1, ↓st_z0, ↓st_z1, ↓t_is, ↓t_dv, ↓t_rm, st_us, st_uk, st_uo, nI_add, pk_mul, Nat.reduceAdd, Nat.reduceSub, Nat.reduceMul, pk_sub, nI_leI, nI_ltI, nI_eq, nn_leT, nn_leF, nn_ltT, nn_ltF, nn_eqT, nn_eqF, nm1, k_0, k_1, k_2, k_3, k_4, k_5, k_6, k_7, k_8, k_9, k_10, k_12, k_13, k_15, k_16, k_17, k_20, k_24, k_32, k_36, k_40, k_60, k_63, k_64, k_128, k_192, k_194, k_195, k_196, k_208, k_215, k_216, k_217, k_218, k_219, k_221, k_224, k_239, k_240, k_254, k_255, k_256, k_273, k_309, k_936, k_1600, k_2000, k_2304, k_4800, k_5980, k_6000, k_6912, k_12000, k_16383, k_32767, k_32768, k_65474, k_65475, k_65476, k_65496, k_65497, k_65498, k_65501, k_65535, k_65536, hL]
      · rw [eb179_14]
        simp (disch := omega) only [↓tf_70, ↓tp_70, ↓tz_70, ↓ty_70, ↓tzl_70, ↓tyl_70, ↓tv_70, ↓ta_71, ↓tb_71, ↓ts_71, ↓tl_71, ↓ta_72, ↓tb_72, ↓ts_72, ↓tl_72, ↓ta_73, ↓tb_73, ↓ts_73, ↓tl_73, ↓ta_74, ↓tb_74, ↓ts_74, ↓tl_74, ↓ta_75, ↓tb_75, ↓ts_75, ↓tl_75, ↓ta_76, ↓tb_76, ↓ts_76, ↓tl_76, ↓ta_77, ↓tb_77, ↓ts_77, ↓tl_77, ↓ta_78, ↓tb_78, ↓ts_78, ↓tl_78, ↓ta_79, ↓tb_79, ↓ts_79, ↓tl_79, ↓ta_80, ↓tb_80, ↓ts_80, ↓tl_80, ↓ta_81, ↓tb_81, ↓ts_81, ↓tl_81, ↓ta_82, ↓tb_82, ↓ts_82, ↓tl_82, ↓ta_83, ↓tb_83, ↓ts_83, ↓tl_83, ↓ta_84, ↓tb_84, ↓ts_84, ↓tl_84, ↓ta_85, ↓tb_85, ↓ts_85, ↓tl_85, ↓ta_86, ↓tb_86, ↓ts_86, ↓tl_86, ↓ta_87, ↓tb_87, ↓ts_87, ↓tl_87, ↓ta_88, ↓tb_88, ↓ts_88, ↓tl_88, ↓ta_89, ↓tb_89, ↓ts_89, ↓tl_89, ↓ta_90, ↓tb_90, ↓ts_90, ↓tl_90, ↓ta_91, ↓tb_91, ↓ts_91, ↓tl_91, ↓ta_92, ↓tb_92, ↓ts_92, ↓tl_92, ↓ta_93, ↓tb_93, ↓ts_93, ↓tl_93, ↓ta_94, ↓tb_94, ↓ts_94, ↓tl_94, ↓tr_70_1, ↓tr_70_3, ↓tr_70_5, ↓tr_70_6, ↓tr_70_7, ↓tr_70_8, ↓tr_70_9, ↓tr_70_10, ↓tr_70_11, ↓tr_70_12, ↓tr_70_13, ↓tr_70_14, ↓tr_70_15, ↓tr_70_17, ↓tr_70_19, ↓tr_70_29, ↓tr_70_41, ↓tr_70_44, ↓tr_70_45, ↓tr_70_46, ↓tr_70_47, ↓tr_70_49, ↓tr_70_51, ↓tr_70_53, ↓reduceIte, ↓bd_ite, ↓Option.bind_some, Option.toList_some, Option.toList_none, List.cons_append, List.nil_append, ↓tz0, ↓tz1, ↓st_z0, ↓st_z1, ↓t_is, ↓t_dv, ↓t_rm, st_us, st_uk, st_uo, nI_add, pk_mul, Nat.reduceAdd, Nat.reduceSub, Nat.reduceMul, pk_sub, nI_leI, nI_ltI, nI_eq, nn_leT, nn_leF, nn_ltT, nn_ltF, nn_eqT, nn_eqF, nm1, k_0, k_1, k_2, k_3, k_4, k_5, k_6, k_7, k_8, k_9, k_10, k_12, k_13, k_15, k_16, k_17, k_20, k_24, k_32, k_36, k_40, k_60, k_63, k_64, k_128, k_192, k_194, k_195, k_196, k_208, k_215, k_216, k_217, k_218, k_219, k_221, k_224, k_239, k_240, k_254, k_255, k_256, k_273, k_309, k_936, k_1600, k_2000, k_2304, k_4800, k_5980, k_6000, k_6912, k_12000, k_16383, k_32767, k_32768, k_65474, k_65475, k_65476, k_65496, k_65497, k_65498, k_65501, k_65535, k_65536]
    · obtain ⟨m, rfl⟩ : ∃ m', m = m' + 1 := ⟨m - 1, by omega⟩
      have hlt : u < N := by omega
      obtain ⟨X1, M1, i1, i2, ⟨W1, R1, wt1, a1, a2, a3, a4⟩, gX1, gM1, h39, -⟩ := headW z a b w v p (qa := qa) (P := 1) (N := N) (iv := iv) hq hp6 hH (by omega) (by omega) (by omega) hlt (by omega) (by omega) (by omega) hiv (by rw [Nat.mul_one]; exact hL) m22 m28 m37 I (nI (wyP s h)) y8 y4
      rw [Nat.mul_one, Nat.mul_one] at i1
      obtain ⟨M2, hM2⟩ : ∃ M2, M2 = st_u M1 70 31 (nI (lfv N iv u)) := ⟨_, rfl⟩
      have gM2 : gM M M2 := by rw [hM2]; exact gM_s gM1 (by omega) _
      have h392 : M2 70 39 = M 70 39 := by rw [hM2, st_uk _ _ _ _ _ (by decide)]; exact h39
      have hA2 : AL q W1 R1 wt1 X1 M2 := by rw [hM2]; exact AL_31 a4 _
      have hS2 := SW1_g hq ha hS gX1 gM2
      have hS2' := hS2
      obtain ⟨hPX2, hPM2, hOL2, hOW2, o2, hBW2, o21, o23, o24, o26, o28, o37⟩ := hS2'
      have hbk := bk_lt hF hk1 hc (u := u) (by rw [hN]; exact hlt)
      have hc3 : c < 3 := by omega
      obtain ⟨X3, M3, j1, j2, hQ⟩ := unitW z a b w v p (y := nI (u % spn N iv 1)) (cell := 2304 * c + 64 * bk F c u) (blk := bk F c u) hq ha hp4 hp5 hp6 hfit hc3 rfl (by omega) (by omega) (by omega) (Nat.le_trans a3 hwt) hA2 hBW2 o2 o21 o24 o26
      have hQ' := WV_t gX1 gM2 h392 hQ
      have hb1 : W1 + 8000 ≤ Wb := bud a1 hwt hwb hW
      have hb2 : R1 + 1 ≤ 5000 := by omega
      obtain ⟨Y, W3, R3, wt3, gY, y1, y2, y3, hAY, hor⟩ := WV_step (Wb := Wb) (Rb := 5000) hq hQ' hb1 hb2
      have gXY := gX_t hQ'.1 gY
      have hSY := SW1_g hq ha hS gXY hQ'.2.1
      obtain ⟨X', M', u1, u2, r1, y8', y4', k1, k2, kW⟩ := walkW1_lp hq ha hp4 hp5 hp6 hF hk1 hc hfit hiv hWb I m (u + 1) W3 R3 wt3 (.int (nI (u % spn N iv 1))) (.int (nI (N - u))) Y M3 (by omega) (HW_A hAY (by omega)) hSY (by omega) (by omega) y3
      rw [hN] at k1 k2
      have hsp : 0 < spn N iv 1 ∧ spn N iv 1 < 2 ^ 30 := by
        unfold spn
        split <;> omega
      have hml := Nat.mod_lt u hsp.1
      have cX : ∀ d M, mm_rx (mm_ev pg_mt (d + 5)) pg_c56 (53, [.ref 44, .ref qa, .ref 9, .int I, .ref q, .int (nI (spn N iv 1)), .int (nI (wyP s h)), .int (nI u), y8], [], (st_h z X M (st_R a b w v p))) = mm_rx (mm_ev pg_mt (d + 5)) pg_c56 (53, [.ref 44, .ref qa, .ref 9, .int I, .ref q, .int (nI (spn N iv 1)), .int (nI (wyP s h)), .int (nI (u + 1)), .int (nI (u % spn N iv 1))], [], (st_h z (X3) M (st_R a b w v p))) := fun d M => by
        rw [i1 d M, eb56_93]
        have hP2 : X1 1 2 = nI 1 := hOW2.1
        have hL1 : X1 1 3 = nI N := by rw [hOL2.1, hlen]
        have h30 : X1 3 0 = nI c := hOW2.2 0 c rfl
        have h2u : X1 2 u = nI (2304 * c + 64 * bk F c u) := hOL2.2 u _ (lone_get hF hk1 hc (by rw [hN]; exact hlt))
        have hm1 : u % 1 = 0 := Nat.mod_one u
        have hd1 : u % spn N iv 1 / 1 = u % spn N iv 1 := Nat.div_one _
        simp (disch := omega) only [↓en9, ↓eb9_0, ↓eb9_21, ↓eb9_22, ↓en10, ↓eb10_0, ↓eb10_34, ↓eb10_35, ↓en12, ↓eb12_0, ↓eb12_17, ↓tf_0, ↓tp_0, ↓tz_0, ↓ty_0, ↓tzl_0, ↓tyl_0, ↓tv_0, ↓tf_1, ↓tp_1, ↓tz_1, ↓ty_1, ↓tzl_1, ↓tyl_1, ↓tv_1, ↓ta_2, ↓tb_2, ↓ts_2, ↓tl_2, ↓ta_3, ↓tb_3, ↓ts_3, ↓tl_3, ↓tf_4, ↓tp_4, ↓tz_4, ↓ty_4, ↓tzl_4, ↓tyl_4, ↓tv_4, ↓ta_5, ↓tb_5, ↓ts_5, ↓tl_5, ↓tf_6, ↓tp_6, ↓tz_6, ↓ty_6, ↓tzl_6, ↓tyl_6, ↓tv_6, ↓ta_7, ↓tb_7, ↓ts_7, ↓tl_7, ↓ta_8, ↓tb_8, ↓ts_8, ↓tl_8, ↓tf_9, ↓tp_9, ↓tz_9, ↓ty_9, ↓tzl_9, ↓tyl_9, ↓tv_9, ↓ta_10, ↓tb_10, ↓ts_10, ↓tl_10, ↓ta_11, ↓tb_11, ↓ts_11, ↓tl_11, ↓tf_12, ↓tp_12, ↓tz_12, ↓ty_12, ↓tzl_12, ↓tyl_12, ↓tv_12, ↓tf_13, ↓tp_13, ↓tz_13, ↓ty_13, ↓tzl_13, ↓tyl_13, ↓tv_13, ↓ta_14, ↓tb_14, ↓ts_14, ↓tl_14, ↓tf_15, ↓tp_15, ↓tz_15, ↓ty_15, ↓tzl_15, ↓tyl_15, ↓tv_15, ↓ta_16, ↓tb_16, ↓ts_16, ↓tl_16, ↓ta_17, ↓tb_17, ↓ts_17, ↓tl_17, ↓ta_19, ↓tb_19, ↓ts_19, ↓tl_19, ↓tf_44, ↓tp_44, ↓tz_44, ↓ty_44, ↓tzl_44, ↓tyl_44, ↓tv_44, ↓ta_45, ↓tb_45, ↓ts_45, ↓tl_45, ↓ta_46, ↓tb_46, ↓ts_46, ↓tl_46, ↓ta_47, ↓tb_47, ↓ts_47, ↓tl_47, ↓ta_18, ↓tr_0_0, ↓tr_0_1, ↓tr_0_2, ↓tr_0_3, ↓tr_0_4, ↓tr_1_0, ↓tr_1_1, ↓tr_4_0, ↓tr_6_0, ↓tr_6_1, ↓tr_9_6, ↓tr_9_7, ↓tr_12_0, ↓tr_12_1, ↓tr_12_2, ↓tr_12_3, ↓tr_12_4, ↓tr_13_0, ↓tr_13_1, ↓tr_13_2, ↓tr_15_6, ↓tr_15_7, ↓tr_44_0, ↓tr_44_1, ↓tr_44_2, ↓tr_44_3, ↓tr_0_5, ↓tr_0_6, ↓tr_0_7, ↓tr_0_8, ↓tr_12_5, ↓tu_12_5, ↓tr_13_3, ↓tu_13_3, ↓tr_13_4, ↓tu_13_4, ↓tr_13_5, ↓tu_13_5, ↓tr_44_4, ↓tu_44_4, ↓tr_44_5, ↓tu_44_5, ↓tr_44_6, ↓tu_44_6, ↓tu_0_5, ↓tu_0_6, ↓tu_0_7, ↓tu_0_8, ↓tfP, ↓tpP, ↓tvP, ↓trP_7, ↓trP_8, ↓trP_9, ↓trP_10, ↓trP_11, ↓trP_12, ↓trP_13, ↓trP_14, ↓taP_1, ↓taP_2, ↓taP_3, ↓taP_4, ↓taP_5, ↓taP_6, ↓taP_7, ↓taP_8, ↓tsP_1, ↓tsP_2, ↓tsP_3, ↓tsP_4, ↓tsP_5, ↓tsP_6, ↓tsP_7, ↓tsP_8, ↓tlP_7, ↓tlP_8, ↓tfS, ↓tpS, ↓tvS, ↓trS, ↓taS, ↓tsS, ↓tfT, ↓tzT, ↓tyT, ↓tzlT, ↓tylT, ↓trT_0, ↓trT_1, ↓taT_1, ↓taT_2, ↓tsT_1, ↓tsT_2, ↓tlT_2, ↓reduceIte, ↓bd_ite, ↓Option.bind_some, Option.toList_some, Option.toList_none, List.cons_append, List.nil_append, ↓tz0, ↓tz1, ↓st_z0, ↓st_z1, ↓t_is, ↓t_dv, ↓t_rm, st_us, st_uk, st_uo, nI_add, pk_mul, Nat.reduceAdd, Nat.reduceSub, Nat.reduceMul, pk_sub, nI_leI, nI_ltI, nI_eq, nn_leT, nn_leF, nn_ltT, nn_ltF, nn_eqT, nn_eqF, nm1, k_0, k_1, k_2, k_3, k_4, k_5, k_6, k_7, k_8, k_9, k_10, k_12, k_13, k_15, k_16, k_17, k_20, k_24, k_32, k_36, k_40, k_60, k_63, k_64, k_128, k_192, k_194, k_195, k_196, k_208, k_215, k_216, k_217, k_218, k_219, k_221, k_224, k_239, k_240, k_254, k_255, k_256, k_273, k_309, k_936, k_1600, k_2000, k_2304, k_4800, k_5980, k_6000, k_6912, k_12000, k_16383, k_32767, k_32768, k_65474, k_65475, k_65476, k_65496, k_65497, k_65498, k_65501, k_65535, k_65536, hL1, hP2, h30, h2u, hm1, hd1, j1, ↓eb56_105, ↓eb56_114, ↓eb56_123, ↓eb56_126]
      have cM : ∀ d X a b w v p, mm_rx (mm_ev pg_mt (d + 9)) pg_c179 (14, [.ref 70, .int (nI N), .int (nI ((u - 1) / iv % 8)), .int (nI u), y4], [], (st_h z X M (st_R a b w v p))) = mm_rx (mm_ev pg_mt (d + 9)) pg_c179 (14, [.ref 70, .int (nI N), .int (nI ((u + 1 - 1) / iv % 8)), .int (nI (u + 1)), .int (nI (N - u))], [], (st_h z X (M3) (st_R a b w v p))) := fun d X a b w v p => by
        rw [i2 d X a b w v p, eb179_63]
        have m28' : M1 70 28 = nI iv := by rw [gM_k gM1 (by omega)]; exact m28
        have m21' : M1 70 21 = nI 0 := by rw [gM_k gM1 (by omega)]; exact m21
        have a1 := fun d X a b w v p => across_M (d := d) (z := z) (a := a) (b := b) (w := w) (v := v) (p := p) (X := X) hF hPM2
        have a2 := fun d X a b w v p => wide_M (d := d) (z := z) (a := a) (b := b) (w := w) (v := v) (p := p) (X := X) hF hPM2 hc
        have a3 := fun d X a b w v p => bacross_M (d := d) (z := z) (a := a) (b := b) (w := w) (v := v) (p := p) (X := X) hF hPM2 hc
        have a4 := fun d X a b w v p => lone_M (d := d) (z := z) (a := a) (b := b) (w := w) (v := v) (p := p) (X := X) hc3 o23
        have hfw := FF_wg hF hc
        have o73 : M2 73 0 = nI 1 := by rw [hPM2.2.1, hk1]
        have hsa : (fW F c + 8 - 1) / 8 = fSA F c := (if_neg (by omega)).symm
        have hbke : u / fSA F c * (fA F * F (10 + c)) + u % fSA F c = bk F c u := rfl
        have hsub : u + 1 - 1 = u := by omega
        rw [hsub]
        by_cases iv0 : iv = 0
        · have hlf : lfv N iv u = N - u := if_pos iv0
          rw [hlf] at hM2
          simp (disch := omega) only [↓en183, ↓eb183_0, ↓eb183_8, ↓eb183_13, ↓eb183_30, ↓eb183_48, ↓eb183_60, ↓eb183_75, ↓eb183_81, ↓eb183_98, ↓eb183_103, ↓eb183_120, ↓eb183_129, ↓eb183_135, ↓eb183_158, ↓eb183_173, ↓eb183_179, ↓tf_70, ↓tp_70, ↓tz_70, ↓ty_70, ↓tzl_70, ↓tyl_70, ↓tv_70, ↓ta_71, ↓tb_71, ↓ts_71, ↓tl_71, ↓ta_72, ↓tb_72, ↓ts_72, ↓tl_72, ↓ta_73, ↓tb_73, ↓ts_73, ↓tl_73, ↓ta_74, ↓tb_74, ↓ts_74, ↓tl_74, ↓ta_75, ↓tb_75, ↓ts_75, ↓tl_75, ↓ta_76, ↓tb_76, ↓ts_76, ↓tl_76, ↓ta_77, ↓tb_77, ↓ts_77, ↓tl_77, ↓ta_78, ↓tb_78, ↓ts_78, ↓tl_78, ↓ta_79, ↓tb_79, ↓ts_79, ↓tl_79, ↓ta_80, ↓tb_80, ↓ts_80, ↓tl_80, ↓ta_81, ↓tb_81, ↓ts_81, ↓tl_81, ↓ta_82, ↓tb_82, ↓ts_82, ↓tl_82, ↓ta_83, ↓tb_83, ↓ts_83, ↓tl_83, ↓ta_84, ↓tb_84, ↓ts_84, ↓tl_84, ↓ta_85, ↓tb_85, ↓ts_85, ↓tl_85, ↓ta_86, ↓tb_86, ↓ts_86, ↓tl_86, ↓ta_87, ↓tb_87, ↓ts_87, ↓tl_87, ↓ta_88, ↓tb_88, ↓ts_88, ↓tl_88, ↓ta_89, ↓tb_89, ↓ts_89, ↓tl_89, ↓ta_90, ↓tb_90, ↓ts_90, ↓tl_90, ↓ta_91, ↓tb_91, ↓ts_91, ↓tl_91, ↓ta_92, ↓tb_92, ↓ts_92, ↓tl_92, ↓ta_93, ↓tb_93, ↓ts_93, ↓tl_93, ↓ta_94, ↓tb_94, ↓ts_94, ↓tl_94, ↓tr_70_1, ↓tr_70_3, ↓tr_70_5, ↓tr_70_6, ↓tr_70_7, ↓tr_70_8, ↓tr_70_9, ↓tr_70_10, ↓tr_70_11, ↓tr_70_12, ↓tr_70_13, ↓tr_70_14, ↓tr_70_15, ↓tr_70_17, ↓tr_70_19, ↓tr_70_29, ↓tr_70_41, ↓tr_70_44, ↓tr_70_45, ↓tr_70_46, ↓tr_70_47, ↓tr_70_49, ↓tr_70_51, ↓tr_70_53, ↓reduceIte, ↓bd_ite, ↓Option.bind_some, Option.toList_some, Option.toList_none, List.cons_append, List.nil_append, ↓tz0, ↓tz1, ↓st_z0, ↓st_z1, ↓t_is, ↓t_dv, ↓t_rm, st_us, st_uk, st_uo, nI_add, pk_mul, Nat.reduceAdd, Nat.reduceSub, Nat.reduceMul, pk_sub, nI_leI, nI_ltI, nI_eq, nn_leT, nn_leF, nn_ltT, nn_ltF, nn_eqT, nn_eqF, nm1, k_0, k_1, k_2, k_3, k_4, k_5, k_6, k_7, k_8, k_9, k_10, k_12, k_13, k_15, k_16, k_17, k_20, k_24, k_32, k_36, k_40, k_60, k_63, k_64, k_128, k_192, k_194, k_195, k_196, k_208, k_215, k_216, k_217, k_218, k_219, k_221, k_224, k_239, k_240, k_254, k_255, k_256, k_273, k_309, k_936, k_1600, k_2000, k_2304, k_4800, k_5980, k_6000, k_6912, k_12000, k_16383, k_32767, k_32768, k_65474, k_65475, k_65476, k_65496, k_65497, k_65498, k_65501, k_65535, k_65536, m28', m21', ← hM2, o21, o73, a1, a2, a3, a4, up_M, hsa, hbke, j2, ↓eb179_97, ↓eb179_105]
        · have hml := Nat.mod_lt u (show 0 < iv by omega)
          have hlf : (if iv - u % iv < N - u then nI (iv - u % iv) else nI (N - u)) = nI (lfv N iv u) := by
            unfold lfv
            rw [if_neg iv0]
            by_cases hlt2 : iv - u % iv < N - u
            · rw [if_pos hlt2, if_neg (by omega)]
            · rw [if_neg hlt2]
              split
              · rfl
              · congr 1
                omega
          simp (disch := omega) only [↓en183, ↓eb183_0, ↓eb183_8, ↓eb183_13, ↓eb183_30, ↓eb183_48, ↓eb183_60, ↓eb183_75, ↓eb183_81, ↓eb183_98, ↓eb183_103, ↓eb183_120, ↓eb183_129, ↓eb183_135, ↓eb183_158, ↓eb183_173, ↓eb183_179, ↓tf_70, ↓tp_70, ↓tz_70, ↓ty_70, ↓tzl_70, ↓tyl_70, ↓tv_70, ↓ta_71, ↓tb_71, ↓ts_71, ↓tl_71, ↓ta_72, ↓tb_72, ↓ts_72, ↓tl_72, ↓ta_73, ↓tb_73, ↓ts_73, ↓tl_73, ↓ta_74, ↓tb_74, ↓ts_74, ↓tl_74, ↓ta_75, ↓tb_75, ↓ts_75, ↓tl_75, ↓ta_76, ↓tb_76, ↓ts_76, ↓tl_76, ↓ta_77, ↓tb_77, ↓ts_77, ↓tl_77, ↓ta_78, ↓tb_78, ↓ts_78, ↓tl_78, ↓ta_79, ↓tb_79, ↓ts_79, ↓tl_79, ↓ta_80, ↓tb_80, ↓ts_80, ↓tl_80, ↓ta_81, ↓tb_81, ↓ts_81, ↓tl_81, ↓ta_82, ↓tb_82, ↓ts_82, ↓tl_82, ↓ta_83, ↓tb_83, ↓ts_83, ↓tl_83, ↓ta_84, ↓tb_84, ↓ts_84, ↓tl_84, ↓ta_85, ↓tb_85, ↓ts_85, ↓tl_85, ↓ta_86, ↓tb_86, ↓ts_86, ↓tl_86, ↓ta_87, ↓tb_87, ↓ts_87, ↓tl_87, ↓ta_88, ↓tb_88, ↓ts_88, ↓tl_88, ↓ta_89, ↓tb_89, ↓ts_89, ↓tl_89, ↓ta_90, ↓tb_90, ↓ts_90, ↓tl_90, ↓ta_91, ↓tb_91, ↓ts_91, ↓tl_91, ↓ta_92, ↓tb_92, ↓ts_92, ↓tl_92, ↓ta_93, ↓tb_93, ↓ts_93, ↓tl_93, ↓ta_94, ↓tb_94, ↓ts_94, ↓tl_94, ↓tr_70_1, ↓tr_70_3, ↓tr_70_5, ↓tr_70_6, ↓tr_70_7, ↓tr_70_8, ↓tr_70_9, ↓tr_70_10, ↓tr_70_11, ↓tr_70_12, ↓tr_70_13, ↓tr_70_14, ↓tr_70_15, ↓tr_70_17, ↓tr_70_19, ↓tr_70_29, ↓tr_70_41, ↓tr_70_44, ↓tr_70_45, ↓tr_70_46, ↓tr_70_47, ↓tr_70_49, ↓tr_70_51, ↓tr_70_53, ↓reduceIte, ↓bd_ite, ↓Option.bind_some, Option.toList_some, Option.toList_none, List.cons_append, List.nil_append, ↓tz0, ↓tz1, ↓st_z0, ↓st_z1, ↓t_is, ↓t_dv, ↓t_rm, st_us, st_uk, st_uo, nI_add, pk_mul, Nat.reduceAdd, Nat.reduceSub, Nat.reduceMul, pk_sub, nI_leI, nI_ltI, nI_eq, nn_leT, nn_leF, nn_ltT, nn_ltF, nn_eqT, nn_eqF, nm1, k_0, k_1, k_2, k_3, k_4, k_5, k_6, k_7, k_8, k_9, k_10, k_12, k_13, k_15, k_16, k_17, k_20, k_24, k_32, k_36, k_40, k_60, k_63, k_64, k_128, k_192, k_194, k_195, k_196, k_208, k_215, k_216, k_217, k_218, k_219, k_221, k_224, k_239, k_240, k_254, k_255, k_256, k_273, k_309, k_936, k_1600, k_2000, k_2304, k_4800, k_5980, k_6000, k_6912, k_12000, k_16383, k_32767, k_32768, k_65474, k_65475, k_65476, k_65496, k_65497, k_65498, k_65501, k_65535, k_65536, m28', m21', hlf, ← hM2, o21, o73, a1, a2, a3, a4, up_M, hsa, hbke, j2, ↓eb179_97, ↓eb179_105]
      rcases hor with ⟨h10, rfl, hWV⟩ | ⟨h10, hWV⟩
      · exact ⟨X', M', u1, u2, r1, y8', y4', fun d M => (cX d M).trans (k1 d M), fun d X a b w v p => (cM d X a b w v p).trans (k2 d X a b w v p), hWV X' M' kW⟩
      · refine ⟨X3, M', u + 1, u2, r1, .int (nI (u % spn N iv 1)), y4', fun d M => ?_, fun d X a b w v p => (cM d X a b w v p).trans (k2 d X a b w v p), hWV X' M' kW⟩
        rw [cX d M]
        exact stopW z a b w v p h10 (by rw [hQ'.1 1 (by omega) (by omega) (by omega) (by omega) (by omega) (by omega)]; exact hL) (by omega) (by omega) I _ _ _ d M
end
