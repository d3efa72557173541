/-! ===== WRITING: DC, bands ===== -/
/-- the writer is alive: all sizes fitted -/
def AL (q W R wt : Nat) (X M : Nat → Nat → Int32) : Prop := (∃ H f, SK q W H f X M) ∧ RW R wt X M ∧ (∀ c, c < 3 → X 45 c = M 86 c) ∧ X 44 10 = nI 1
/-- each side goes on by itself -/
def OX (q W R wt : Nat) (X : Nat → Nat → Int32) : Prop := (∃ H f, SX q W H f X) ∧ (∀ j, j < W → j < 12000 → iv_b (X (q + 1) j)) ∧ X 44 9 = nI R ∧ X 44 7 = nI wt ∧ (R = 0 → wt = 0) ∧ ∀ j, j < wt → ∃ t, t < 2 ∧ X 46 j = nI t
def OM (W R wt : Nat) (M : Nat → Nat → Int32) : Prop := (∃ H f, SM W H f M) ∧ (∀ j, j < W → j < 12000 → iv_b (M 87 j)) ∧ M 70 30 = nI R ∧ M 70 50 = nI wt ∧ (R = 0 → wt = 0) ∧ ∀ j, j < wt → ∃ t, t < 2 ∧ M 92 j = nI t
theorem OX_of {q W H f R wt : Nat} {X M : Nat → Nat → Int32} (h : SK q W H f X M) (g : RW R wt X M) : OX q W R wt X := by
  obtain ⟨a1, a2, a3⟩ := h
  obtain ⟨b1, b2, b3, b4, b5, b6⟩ := g
  exact ⟨⟨H, f, a1⟩, fun j h1 h2 => (a3 j h1 h2).2, b1, b3, b5, fun j hj => by
    obtain ⟨t, t1, t2, t3⟩ := b6 j hj
    exact ⟨t, t1, t2⟩⟩
theorem OM_of {q W H f R wt : Nat} {X M : Nat → Nat → Int32} (h : SK q W H f X M) (g : RW R wt X M) : OM W R wt M := by
  obtain ⟨a1, a2, a3⟩ := h
  obtain ⟨b1, b2, b3, b4, b5, b6⟩ := g
  exact ⟨⟨H, f, a2⟩, fun j h1 h2 => by rw [← (a3 j h1 h2).1]; exact (a3 j h1 h2).2, b2, b4, b5, fun j hj => by
    obtain ⟨t, t1, t2, t3⟩ := b6 j hj
    exact ⟨t, t1, t3⟩⟩
theorem OX_c {q W R wt : Nat} {X X' : Nat → Nat → Int32} (h : OX q W R wt X) (h1 : X' q = X q) (h2 : X' (q + 1) = X (q + 1)) (h3 : X' 44 9 = X 44 9) (h4 : X' 44 7 = X 44 7) (h5 : X' 46 = X 46) : OX q W R wt X' := by
  unfold OX SX at *
  rw [h1, h2, h3, h4, h5]
  exact h
/-- frames of writing a unit: sink, writer; the reference's own -/
def gX (q : Nat) (X X' : Nat → Nat → Int32) : Prop := ∀ r, r ≠ q → r ≠ q + 1 → r ≠ 44 → r ≠ 45 → r ≠ 46 → r ≠ 47 → X' r = X r
def gM (M M' : Nat → Nat → Int32) : Prop := (∀ r, r ≠ 70 → r ≠ 86 → r ≠ 87 → r ≠ 92 → r ≠ 93 → M' r = M r) ∧ ∀ j, j ≠ 30 → j ≠ 31 → j ≠ 32 → j ≠ 39 → j ≠ 40 → j ≠ 42 → j ≠ 43 → j ≠ 50 → j ≠ 52 → M' 70 j = M 70 j
section
variable {q : Nat} {X X' Y M M' N : Nat → Nat → Int32}
theorem gX_r (q : Nat) (X : Nat → Nat → Int32) : gX q X X := fun _ _ _ _ _ _ _ => rfl
theorem gX_t (h : gX q X Y) (g : gX q Y X') : gX q X X' := fun r a b c d e f => (g r a b c d e f).trans (h r a b c d e f)
theorem gX_V (h : fV q X X') : gX q X X' := fun r a b c _ _ _ => h.1 r a b c
theorem gX_T (h : fT q X X') : gX q X X' := fun r a b _ _ _ _ => h r a b
theorem gX_s (h : gX q X Y) {r0 : Nat} (hr : r0 = 44 ∨ r0 = 45 ∨ r0 = 46 ∨ r0 = 47) (k : Nat) (u : Int32) : gX q X (st_u Y r0 k u) := fun r a b c d e f => (st_uo _ _ _ _ _ (by omega)).trans (h r a b c d e f)
theorem gM_r (M : Nat → Nat → Int32) : gM M M := ⟨fun _ _ _ _ _ _ => rfl, fun _ _ _ _ _ _ _ _ _ _ => rfl⟩
theorem gM_t (h : gM M N) (g : gM N M') : gM M M' := ⟨fun r a b c d e => (g.1 r a b c d e).trans (h.1 r a b c d e), fun j a b c d e f g1 h1 i => (g.2 j a b c d e f g1 h1 i).trans (h.2 j a b c d e f g1 h1 i)⟩
theorem gM_U (h : fU' M M') : gM M M' := ⟨fun r a _ c _ _ => h.1 r a c, fun j a _ _ _ b c d e _ => h.2 j a b c d e⟩
theorem gM_Q (h : fQ M M') : gM M M' := gM_U (fU_Q h)
theorem gM_s (h : gM M N) {k : Nat} (hk : k = 30 ∨ k = 31 ∨ k = 32 ∨ k = 39 ∨ k = 50 ∨ k = 52) (u : Int32) : gM M (st_u N 70 k u) := ⟨fun r a b c d e => (st_uo _ _ _ _ _ a).trans (h.1 r a b c d e), fun j a b c d e f g1 h1 i => (st_uk _ _ _ _ _ (by omega)).trans (h.2 j a b c d e f g1 h1 i)⟩
theorem gM_a (h : gM M N) {r0 : Nat} (hr : r0 = 86 ∨ r0 = 92 ∨ r0 = 93) (k : Nat) (u : Int32) : gM M (st_u N r0 k u) := ⟨fun r a b c d e => (st_uo _ _ _ _ _ (by omega)).trans (h.1 r a b c d e), fun j a b c d e f g1 h1 i => (congrFun (st_uo _ _ _ _ _ (by omega)) _).trans (h.2 j a b c d e f g1 h1 i)⟩
end
/-- a unit is written: both alive, or a size was too great -/
def WU (q W k R wt : Nat) (X M X' M' : Nat → Nat → Int32) : Prop := gX q X X' ∧ gM M M' ∧ ((M' 70 39 = M 70 39 ∧ ∃ W' R' wt', W ≤ W' ∧ W' ≤ W + k ∧ R' ≤ R + 1 ∧ wt' ≤ wt ∧ AL q W' R' wt' X' M') ∨ (X' 44 10 = nI 0 ∧ (∃ e, 16 ≤ e ∧ e ≤ 32 ∧ M' 70 39 = nI e) ∧ (∃ W' R' wt', W' ≤ W + k ∧ R' ≤ R + 1 ∧ wt' ≤ wt ∧ OX q W' R' wt' X') ∧ ∃ W' R' wt', W' ≤ W + k ∧ R' ≤ R + 1 ∧ wt' ≤ wt ∧ OM W' R' wt' M'))
section
variable (z a b w v : Nat) (p : Nat → Option Nat)
theorem wdc_pr {q qa W R wt c cell l : Nat} {X M : Nat → Nat → Int32} (hq : q = 66 ∨ q = 68) (ha : qa = 48 ∨ qa = 57) (hp4 : p 4 = some qa) (hp5 : p 5 = some 9) (hp6 : p 6 = some q) (hW : W + 5000 < 2 ^ 29) (hwt : wt ≤ 936) (h : AL q W R wt X M) (hc : c < 3) (hcell : cell < 6912) (hx : X (qa + 7) cell = M 81 cell) (x5 : X 9 5 = nI l) (m27 : M 70 27 = nI l) (m22 : M 70 22 = nI 1) : ∃ X' M' : Nat → Nat → Int32, (∀ d M, mm_ev pg_mt (d + 4) 62 [.ref 44, .int (nI cell), .int (nI c)] (st_h z X M (st_R a b w v p)) = some (none, (st_h z (X') M (st_R a b w v p)))) ∧ (∀ d X a b w v p, mm_ev pg_mt (d + 5) 200 [.ref 70, .int (nI c), .int (nI cell)] (st_h z X M (st_R a b w v p)) = some (none, (st_h z X (M') (st_R a b w v p)))) ∧ WU q W 8 R wt X M X' M' := by
  have h' := h
  obtain ⟨⟨H, f, hSK⟩, hRW, hdc, h10⟩ := h'
  obtain ⟨vv, hvv⟩ : ∃ vv : Int32, vv = M 81 cell >>> (nI l &&& 31) := ⟨_, rfl⟩
  have e45 := hdc c hc
  obtain ⟨df, hdf⟩ : ∃ df : Int32, df = vv - M 86 c := ⟨_, rfl⟩
  have s1 := fun d h => sz_X (d := d) df h
  have s2 := fun d h => sz_M (d := d) df h
  have h32 := szN_32 df
  obtain ⟨n, hn⟩ : ∃ n, n = szN df := ⟨_, rfl⟩
  rw [← hn] at s1 s2 h32
  have cx := fun d M => cell_X (d := d) (z := z) (a := a) (b := b) (w := w) (v := v) (p := p) (M := M) (X := X) ha hcell
  rw [hx] at cx
  by_cases h15 : n ≤ 15
  · have hSK1 : SK q W H f (st_u X 45 c vv) (st_u M 86 c vv) := SK_c hSK (st_uo _ _ _ _ _ (by omega)) (st_uo _ _ _ _ _ (by omega)) (fun j hj => by rw [st_uo _ _ _ _ _ (by decide)]) (st_uo _ _ _ _ _ (by decide))
    obtain ⟨X1, M1, i1, i2, ⟨W1, H1, f1, a1, a2, a3⟩, i4, i5⟩ := wdcc z a b w v p (n := n) hq (by omega) hSK1
    obtain ⟨X2, M2, j1, j2, ⟨W2, H2, f2, b1, b2, b3⟩, j4, j5⟩ := wnum z a b w v p (N := n) df hp6 (by omega) hq (by omega) a3
    have fT2 := fT_t i4 j4
    have fQ2 := fQ_t i5 j5
    refine ⟨X2, M2, fun d M => ?_, fun d X a b w v p => ?_, fun r h1 h2 h3 h4 h5 h6 => ?_, gM_t (gM_a (gM_r M) (by omega) _ _) (gM_Q fQ2), Or.inl ⟨?_, W2, R, wt, by omega, by omega, by omega, Nat.le_refl _, ⟨⟨H2, f2, b3⟩, RW_c hq ?_ fT2 fQ2, fun c' hc' => ?_, ?_⟩⟩⟩
    · simp (disch := omega) only [↓en62, ↓eb62_0, ↓eb62_8, ↓eb62_32, ↓eb62_64, ↓eb62_72, ↓tf_0, ↓tp_0, ↓tz_0, ↓ty_0, ↓tzl_0, ↓tyl_0, ↓tv_0, ↓tf_1, ↓tp_1, ↓tz_1, ↓ty_1, ↓tzl_1, ↓tyl_1, ↓tv_1, ↓ta_2, ↓tb_2, ↓ts_2, ↓tl_2, ↓ta_3, ↓tb_3, ↓ts_3, ↓tl_3, ↓tf_4, ↓tp_4, ↓tz_4, ↓ty_4, ↓tzl_4, ↓tyl_4, ↓tv_4, ↓ta_5, ↓tb_5, ↓ts_5, ↓tl_5, ↓tf_6, ↓tp_6, ↓tz_6, ↓ty_6, ↓tzl_6, ↓tyl_6, ↓tv_6, ↓ta_7, ↓tb_7, ↓ts_7, ↓tl_7, ↓ta_8, ↓tb_8, ↓ts_8, ↓tl_8, ↓tf_9, ↓tp_9, ↓tz_9, ↓ty_9, ↓tzl_9, ↓tyl_9, ↓tv_9, ↓ta_10, ↓tb_10, ↓ts_10, ↓tl_10, ↓ta_11, ↓tb_11, ↓ts_11, ↓tl_11, ↓tf_12, ↓tp_12, ↓tz_12, ↓ty_12, ↓tzl_12, ↓tyl_12, ↓tv_12, ↓tf_13, ↓tp_13, ↓tz_13, ↓ty_13, ↓tzl_13, ↓tyl_13, ↓tv_13, ↓ta_14, ↓tb_14, ↓ts_14, ↓tl_14, ↓tf_15, ↓tp_15, ↓tz_15, ↓ty_15, ↓tzl_15, ↓tyl_15, ↓tv_15, ↓ta_16, ↓tb_16, ↓ts_16, ↓tl_16, ↓ta_17, ↓tb_17, ↓ts_17, ↓tl_17, ↓ta_19, ↓tb_19, ↓ts_19, ↓tl_19, ↓tf_44, ↓tp_44, ↓tz_44, ↓ty_44, ↓tzl_44, ↓tyl_44, ↓tv_44, ↓ta_45, ↓tb_45, ↓ts_45, ↓tl_45, ↓ta_46, ↓tb_46, ↓ts_46, ↓tl_46, ↓ta_47, ↓tb_47, ↓ts_47, ↓tl_47, ↓ta_18, ↓tr_0_0, ↓tr_0_1, ↓tr_0_2, ↓tr_0_3, ↓tr_0_4, ↓tr_1_0, ↓tr_1_1, ↓tr_4_0, ↓tr_6_0, ↓tr_6_1, ↓tr_9_6, ↓tr_9_7, ↓tr_12_0, ↓tr_12_1, ↓tr_12_2, ↓tr_12_3, ↓tr_12_4, ↓tr_13_0, ↓tr_13_1, ↓tr_13_2, ↓tr_15_6, ↓tr_15_7, ↓tr_44_0, ↓tr_44_1, ↓tr_44_2, ↓tr_44_3, ↓tr_0_5, ↓tr_0_6, ↓tr_0_7, ↓tr_0_8, ↓tr_12_5, ↓tu_12_5, ↓tr_13_3, ↓tu_13_3, ↓tr_13_4, ↓tu_13_4, ↓tr_13_5, ↓tu_13_5, ↓tr_44_4, ↓tu_44_4, ↓tr_44_5, ↓tu_44_5, ↓tr_44_6, ↓tu_44_6, ↓tu_0_5, ↓tu_0_6, ↓tu_0_7, ↓tu_0_8, ↓tfP, ↓tpP, ↓tvP, ↓trP_7, ↓trP_8, ↓trP_9, ↓trP_10, ↓trP_11, ↓trP_12, ↓trP_13, ↓trP_14, ↓taP_1, ↓taP_2, ↓taP_3, ↓taP_4, ↓taP_5, ↓taP_6, ↓taP_7, ↓taP_8, ↓tsP_1, ↓tsP_2, ↓tsP_3, ↓tsP_4, ↓tsP_5, ↓tsP_6, ↓tsP_7, ↓tsP_8, ↓tlP_7, ↓tlP_8, ↓tfS, ↓tpS, ↓tvS, ↓trS, ↓taS, ↓tsS, ↓tfT, ↓tzT, ↓tyT, ↓tzlT, ↓tylT, ↓trT_0, ↓trT_1, ↓taT_1, ↓taT_2, ↓tsT_1, ↓tsT_2, ↓tlT_2, ↓reduceIte, ↓bd_ite, ↓Option.bind_some, Option.toList_some, Option.toList_none, List.cons_append, List.nil_append, ↓tz0, ↓tz1, ↓st_z0, ↓st_z1, ↓t_is, ↓t_dv, ↓t_rm, st_us, st_uk, st_uo, nI_add, pk_mul, Nat.reduceAdd, Nat.reduceSub, Nat.reduceMul, pk_sub, nI_leI, nI_ltI, nI_eq, nn_leT, nn_leF, nn_ltT, nn_ltF, nn_eqT, nn_eqF, nm1, k_0, k_1, k_2, k_3, k_4, k_5, k_6, k_7, k_8, k_9, k_10, k_12, k_13, k_15, k_16, k_17, k_20, k_24, k_32, k_36, k_40, k_60, k_63, k_64, k_128, k_192, k_194, k_195, k_196, k_208, k_215, k_216, k_217, k_218, k_219, k_221, k_224, k_239, k_240, k_254, k_255, k_256, k_273, k_309, k_936, k_1600, k_2000, k_2304, k_4800, k_5980, k_6000, k_6912, k_12000, k_16383, k_32767, k_32768, k_65474, k_65475, k_65476, k_65496, k_65497, k_65498, k_65501, k_65535, k_65536, hp4, hp5, hp6, cx, x5, ← hvv, e45, ← hdf, s1, i1, j1]
    · simp (disch := omega) only [↓en200, ↓eb200_0, ↓eb200_41, ↓eb200_56, ↓eb200_70, ↓eb200_73, ↓eb200_89, ↓eb200_92, ↓eb200_103, ↓eb200_108, ↓eb200_127, ↓eb200_131, ↓eb200_143, ↓eb200_149, ↓tf_70, ↓tp_70, ↓tz_70, ↓ty_70, ↓tzl_70, ↓tyl_70, ↓tv_70, ↓ta_71, ↓tb_71, ↓ts_71, ↓tl_71, ↓ta_72, ↓tb_72, ↓ts_72, ↓tl_72, ↓ta_73, ↓tb_73, ↓ts_73, ↓tl_73, ↓ta_74, ↓tb_74, ↓ts_74, ↓tl_74, ↓ta_75, ↓tb_75, ↓ts_75, ↓tl_75, ↓ta_76, ↓tb_76, ↓ts_76, ↓tl_76, ↓ta_77, ↓tb_77, ↓ts_77, ↓tl_77, ↓ta_78, ↓tb_78, ↓ts_78, ↓tl_78, ↓ta_79, ↓tb_79, ↓ts_79, ↓tl_79, ↓ta_80, ↓tb_80, ↓ts_80, ↓tl_80, ↓ta_81, ↓tb_81, ↓ts_81, ↓tl_81, ↓ta_82, ↓tb_82, ↓ts_82, ↓tl_82, ↓ta_83, ↓tb_83, ↓ts_83, ↓tl_83, ↓ta_84, ↓tb_84, ↓ts_84, ↓tl_84, ↓ta_85, ↓tb_85, ↓ts_85, ↓tl_85, ↓ta_86, ↓tb_86, ↓ts_86, ↓tl_86, ↓ta_87, ↓tb_87, ↓ts_87, ↓tl_87, ↓ta_88, ↓tb_88, ↓ts_88, ↓tl_88, ↓ta_89, ↓tb_89, ↓ts_89, ↓tl_89, ↓ta_90, ↓tb_90, ↓ts_90, ↓tl_90, ↓ta_91, ↓tb_91, ↓ts_91, ↓tl_91, ↓ta_92, ↓tb_92, ↓ts_92, ↓tl_92, ↓ta_93, ↓tb_93, ↓ts_93, ↓tl_93, ↓ta_94, ↓tb_94, ↓ts_94, ↓tl_94, ↓tr_70_1, ↓tr_70_3, ↓tr_70_5, ↓tr_70_6, ↓tr_70_7, ↓tr_70_8, ↓tr_70_9, ↓tr_70_10, ↓tr_70_11, ↓tr_70_12, ↓tr_70_13, ↓tr_70_14, ↓tr_70_15, ↓tr_70_17, ↓tr_70_19, ↓tr_70_29, ↓tr_70_41, ↓tr_70_44, ↓tr_70_45, ↓tr_70_46, ↓tr_70_47, ↓tr_70_49, ↓tr_70_51, ↓tr_70_53, ↓reduceIte, ↓bd_ite, ↓Option.bind_some, Option.toList_some, Option.toList_none, List.cons_append, List.nil_append, ↓tz0, ↓tz1, ↓st_z0, ↓st_z1, ↓t_is, ↓t_dv, ↓t_rm, st_us, st_uk, st_uo, nI_add, pk_mul, Nat.reduceAdd, Nat.reduceSub, Nat.reduceMul, pk_sub, nI_leI, nI_ltI, nI_eq, nn_leT, nn_leF, nn_ltT, nn_ltF, nn_eqT, nn_eqF, nm1, k_0, k_1, k_2, k_3, k_4, k_5, k_6, k_7, k_8, k_9, k_10, k_12, k_13, k_15, k_16, k_17, k_20, k_24, k_32, k_36, k_40, k_60, k_63, k_64, k_128, k_192, k_194, k_195, k_196, k_208, k_215, k_216, k_217, k_218, k_219, k_221, k_224, k_239, k_240, k_254, k_255, k_256, k_273, k_309, k_936, k_1600, k_2000, k_2304, k_4800, k_5980, k_6000, k_6912, k_12000, k_16383, k_32767, k_32768, k_65474, k_65475, k_65476, k_65496, k_65497, k_65498, k_65501, k_65535, k_65536, m22, m27, ← hvv, ← hdf, s2, i2, j2]
    · rw [fT2 r h1 h2, st_uo _ _ _ _ _ h4]
    · rw [fQ2.2 39 (by decide) (by decide) (by decide), st_uo _ _ _ _ _ (by decide)]
    · unfold RW WB at *
      rw [st_uo _ _ _ _ _ (by decide), st_uo _ _ _ _ _ (by decide), st_uo _ _ _ _ _ (by decide), st_uo _ _ _ _ _ (by decide)]
      exact hRW
    · rw [fT2 45 (by omega) (by omega), fQ2.1 86 (by decide) (by decide)]
      by_cases e : c' = c
      · subst e
        rw [st_us, st_us]
      · rw [st_uk _ _ _ _ _ e, st_uk _ _ _ _ _ e]
        exact hdc c' hc'
    · rw [fT2 44 (by omega) (by omega), st_uo _ _ _ _ _ (by decide)]
      exact h10
  · have hSK1 : SK q W H f X (st_u (st_u M 86 c vv) 70 39 (nI n)) := SK_c hSK rfl rfl (fun j hj => by rw [st_uk _ _ _ _ _ (by omega), st_uo _ _ _ _ _ (by decide)]) (by rw [st_uo _ _ _ _ _ (by decide), st_uo _ _ _ _ _ (by decide)])
    obtain ⟨X1, M1, i1, i2, ⟨W1, H1, f1, a1, a2, a3⟩, i4, i5⟩ := wdcc z a b w v p (n := 0) hq (by omega) hSK1
    obtain ⟨X2, M2, j1, j2, ⟨W2, H2, f2, b1, b2, b3⟩, j4, j5⟩ := wnum z a b w v p (N := 0) df hp6 (by omega) hq (by omega) a3
    have fT2 := fT_t i4 j4
    have fQ2 := fQ_t i5 j5
    have hO := OX_of hSK hRW
    have hOM := OM_of b3 (RW_c hq (show RW R wt X (st_u (st_u M 86 c vv) 70 39 (nI n)) by
      unfold RW WB at *
      rw [st_uk _ _ _ _ _ (by decide), st_uk _ _ _ _ _ (by decide), st_uo _ _ _ _ _ (by decide), st_uo _ _ _ _ _ (by decide), st_uo _ _ _ _ _ (by decide)]
      exact hRW) fT2 fQ2)
    refine ⟨st_u X 44 10 (nI 0), M2, fun d M => ?_, fun d X a b w v p => ?_, gX_s (gX_r q X) (by omega) _ _, gM_t (gM_s (gM_a (gM_r M) (by omega) _ _) (by omega) _) (gM_Q fQ2), Or.inr ⟨st_us _ _ _ _, ⟨n, by omega, h32, by rw [fQ2.2 39 (by decide) (by decide) (by decide), st_us]⟩, ⟨W, R, wt, by omega, by omega, Nat.le_refl _, ?_⟩, W2, R, wt, by omega, by omega, Nat.le_refl _, hOM⟩⟩
    · simp (disch := omega) only [↓en62, ↓eb62_0, ↓eb62_8, ↓eb62_32, ↓eb62_64, ↓eb62_72, ↓tf_0, ↓tp_0, ↓tz_0, ↓ty_0, ↓tzl_0, ↓tyl_0, ↓tv_0, ↓tf_1, ↓tp_1, ↓tz_1, ↓ty_1, ↓tzl_1, ↓tyl_1, ↓tv_1, ↓ta_2, ↓tb_2, ↓ts_2, ↓tl_2, ↓ta_3, ↓tb_3, ↓ts_3, ↓tl_3, ↓tf_4, ↓tp_4, ↓tz_4, ↓ty_4, ↓tzl_4, ↓tyl_4, ↓tv_4, ↓ta_5, ↓tb_5, ↓ts_5, ↓tl_5, ↓tf_6, ↓tp_6, ↓tz_6, ↓ty_6, ↓tzl_6, ↓tyl_6, ↓tv_6, ↓ta_7, ↓tb_7, ↓ts_7, ↓tl_7, ↓ta_8, ↓tb_8, ↓ts_8, ↓tl_8, ↓tf_9, ↓tp_9, ↓tz_9, ↓ty_9, ↓tzl_9, ↓tyl_9, ↓tv_9, ↓ta_10, ↓tb_10, ↓ts_10, ↓tl_10, ↓ta_11, ↓tb_11, ↓ts_11, ↓tl_11, ↓tf_12, ↓tp_12, ↓tz_12, ↓ty_12, ↓tzl_12, ↓tyl_12, ↓tv_12, ↓tf_13, ↓tp_13, ↓tz_13, ↓ty_13, ↓tzl_13, ↓tyl_13, ↓tv_13, ↓ta_14, ↓tb_14, ↓ts_14, ↓tl_14, ↓tf_15, ↓tp_15, ↓tz_15, ↓ty_15, ↓tzl_15, ↓tyl_15, ↓tv_15, ↓ta_16, ↓tb_16, ↓ts_16, ↓tl_16, ↓ta_17, ↓tb_17, ↓ts_17, ↓tl_17, ↓ta_19, ↓tb_19, ↓ts_19, ↓tl_19, ↓tf_44, ↓tp_44, ↓tz_44, ↓ty_44, ↓tzl_44, ↓tyl_44, ↓tv_44, ↓ta_45, ↓tb_45, ↓ts_45, ↓tl_45, ↓ta_46, ↓tb_46, ↓ts_46, ↓tl_46, ↓ta_47, ↓tb_47, ↓ts_47, ↓tl_47, ↓ta_18, ↓tr_0_0, ↓tr_0_1, ↓tr_0_2, ↓tr_0_3, ↓tr_0_4, ↓tr_1_0, ↓tr_1_1, ↓tr_4_0, ↓tr_6_0, ↓tr_6_1, ↓tr_9_6, ↓tr_9_7, ↓tr_12_0, ↓tr_12_1, ↓tr_12_2, ↓tr_12_3, ↓tr_12_4, ↓tr_13_0, ↓tr_13_1, ↓tr_13_2, ↓tr_15_6, ↓tr_15_7, ↓tr_44_0, ↓tr_44_1, ↓tr_44_2, ↓tr_44_3, ↓tr_0_5, ↓tr_0_6, ↓tr_0_7, ↓tr_0_8, ↓tr_12_5, ↓tu_12_5, ↓tr_13_3, ↓tu_13_3, ↓tr_13_4, ↓tu_13_4, ↓tr_13_5, ↓tu_13_5, ↓tr_44_4, ↓tu_44_4, ↓tr_44_5, ↓tu_44_5, ↓tr_44_6, ↓tu_44_6, ↓tu_0_5, ↓tu_0_6, ↓tu_0_7, ↓tu_0_8, ↓tfP, ↓tpP, ↓tvP, ↓trP_7, ↓trP_8, ↓trP_9, ↓trP_10, ↓trP_11, ↓trP_12, ↓trP_13, ↓trP_14, ↓taP_1, ↓taP_2, ↓taP_3, ↓taP_4, ↓taP_5, ↓taP_6, ↓taP_7, ↓taP_8, ↓tsP_1, ↓tsP_2, ↓tsP_3, ↓tsP_4, ↓tsP_5, ↓tsP_6, ↓tsP_7, ↓tsP_8, ↓tlP_7, ↓tlP_8, ↓tfS, ↓tpS, ↓tvS, ↓trS, ↓taS, ↓tsS, ↓tfT, ↓tzT, ↓tyT, ↓tzlT, ↓tylT, ↓trT_0, ↓trT_1, ↓taT_1, ↓taT_2, ↓tsT_1, ↓tsT_2, ↓tlT_2, ↓reduceIte, ↓bd_ite, ↓Option.bind_some, Option.toList_some, Option.toList_none, List.cons_append, List.nil_append, ↓tz0, ↓tz1, ↓st_z0, ↓st_z1, ↓t_is, ↓t_dv, ↓t_rm, st_us, st_uk, st_uo, nI_add, pk_mul, Nat.reduceAdd, Nat.reduceSub, Nat.reduceMul, pk_sub, nI_leI, nI_ltI, nI_eq, nn_leT, nn_leF, nn_ltT, nn_ltF, nn_eqT, nn_eqF, nm1, k_0, k_1, k_2, k_3, k_4, k_5, k_6, k_7, k_8, k_9, k_10, k_12, k_13, k_15, k_16, k_17, k_20, k_24, k_32, k_36, k_40, k_60, k_63, k_64, k_128, k_192, k_194, k_195, k_196, k_208, k_215, k_216, k_217, k_218, k_219, k_221, k_224, k_239, k_240, k_254, k_255, k_256, k_273, k_309, k_936, k_1600, k_2000, k_2304, k_4800, k_5980, k_6000, k_6912, k_12000, k_16383, k_32767, k_32768, k_65474, k_65475, k_65476, k_65496, k_65497, k_65498, k_65501, k_65535, k_65536, hp4, hp5, hp6, cx, x5, ← hvv, e45, ← hdf, s1]
    · simp (disch := omega) only [↓en200, ↓eb200_0, ↓eb200_41, ↓eb200_56, ↓eb200_70, ↓eb200_73, ↓eb200_89, ↓eb200_92, ↓eb200_103, ↓eb200_108, ↓eb200_127, ↓eb200_131, ↓eb200_143, ↓eb200_149, ↓tf_70, ↓tp_70, ↓tz_70, ↓ty_70, ↓tzl_70, ↓tyl_70, ↓tv_70, ↓ta_71, ↓tb_71, ↓ts_71, ↓tl_71, ↓ta_72, ↓tb_72, ↓ts_72, ↓tl_72, ↓ta_73, ↓tb_73, ↓ts_73, ↓tl_73, ↓ta_74, ↓tb_74, ↓ts_74, ↓tl_74, ↓ta_75, ↓tb_75, ↓ts_75, ↓tl_75, ↓ta_76, ↓tb_76, ↓ts_76, ↓tl_76, ↓ta_77, ↓tb_77, ↓ts_77, ↓tl_77, ↓ta_78, ↓tb_78, ↓ts_78, ↓tl_78, ↓ta_79, ↓tb_79, ↓ts_79, ↓tl_79, ↓ta_80, ↓tb_80, ↓ts_80, ↓tl_80, ↓ta_81, ↓tb_81, ↓ts_81, ↓tl_81, ↓ta_82, ↓tb_82, ↓ts_82, ↓tl_82, ↓ta_83, ↓tb_83, ↓ts_83, ↓tl_83, ↓ta_84, ↓tb_84, ↓ts_84, ↓tl_84, ↓ta_85, ↓tb_85, ↓ts_85, ↓tl_85, ↓ta_86, ↓tb_86, ↓ts_86, ↓tl_86, ↓ta_87, ↓tb_87, ↓ts_87, ↓tl_87, ↓ta_88, ↓tb_88, ↓ts_88, ↓tl_88, ↓ta_89, ↓tb_89, ↓ts_89, ↓tl_89, ↓ta_90, ↓tb_90, ↓ts_90, ↓tl_90, ↓ta_91, ↓tb_91, ↓ts_91, ↓tl_91, ↓ta_92, ↓tb_92, ↓ts_92, ↓tl_92, ↓ta_93, ↓tb_93, ↓ts_93, ↓tl_93, ↓ta_94, ↓tb_94, ↓ts_94, ↓tl_94, ↓tr_70_1, ↓tr_70_3, ↓tr_70_5, ↓tr_70_6, ↓tr_70_7, ↓tr_70_8, ↓tr_70_9, ↓tr_70_10, ↓tr_70_11, ↓tr_70_12, ↓tr_70_13, ↓tr_70_14, ↓tr_70_15, ↓tr_70_17, ↓tr_70_19, ↓tr_70_29, ↓tr_70_41, ↓tr_70_44, ↓tr_70_45, ↓tr_70_46, ↓tr_70_47, ↓tr_70_49, ↓tr_70_51, ↓tr_70_53, ↓reduceIte, ↓bd_ite, ↓Option.bind_some, Option.toList_some, Option.toList_none, List.cons_append, List.nil_append, ↓tz0, ↓tz1, ↓st_z0, ↓st_z1, ↓t_is, ↓t_dv, ↓t_rm, st_us, st_uk, st_uo, nI_add, pk_mul, Nat.reduceAdd, Nat.reduceSub, Nat.reduceMul, pk_sub, nI_leI, nI_ltI, nI_eq, nn_leT, nn_leF, nn_ltT, nn_ltF, nn_eqT, nn_eqF, nm1, k_0, k_1, k_2, k_3, k_4, k_5, k_6, k_7, k_8, k_9, k_10, k_12, k_13, k_15, k_16, k_17, k_20, k_24, k_32, k_36, k_40, k_60, k_63, k_64, k_128, k_192, k_194, k_195, k_196, k_208, k_215, k_216, k_217, k_218, k_219, k_221, k_224, k_239, k_240, k_254, k_255, k_256, k_273, k_309, k_936, k_1600, k_2000, k_2304, k_4800, k_5980, k_6000, k_6912, k_12000, k_16383, k_32767, k_32768, k_65474, k_65475, k_65476, k_65496, k_65497, k_65498, k_65501, k_65535, k_65536, m22, m27, ← hvv, ← hdf, s2, i2, j2]
    · exact OX_c hO (st_uo _ _ _ _ _ (by omega)) (st_uo _ _ _ _ _ (by omega)) (st_uk _ _ _ _ _ (by decide)) (st_uk _ _ _ _ _ (by decide)) (st_uo _ _ _ _ _ (by decide))
end
