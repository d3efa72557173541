/-! ===== the walk over one component's blocks ===== -/
def SE1 (X M : Nat → Nat → Int32) (q : Nat) (F : Nat → Nat) (c s e h l iv t1 t2 : Nat) : Prop := PX X q F ∧ PM M 1 F ∧ OL X (lone F c) ∧ OW X [c] ∧ (X 15 2 = nI s ∧ X 15 3 = nI e ∧ X 15 5 = nI l) ∧ (M 70 21 = nI 1 ∧ M 70 22 = nI 0 ∧ M 70 23 = nI (2 ^ c) ∧ M 70 24 = nI s ∧ M 70 25 = nI e ∧ M 70 26 = nI h ∧ M 70 27 = nI l ∧ M 70 28 = nI iv) ∧ (X 16 c = nI t1 ∧ M 91 c = nI t1 ∧ X 17 c = nI t2 ∧ t1 < 4 ∧ t2 < 4) ∧ (s = 0 → h = 0 → RTab X M t1) ∧ (1 ≤ s → M 70 48 = nI (4 + t2) ∧ RTab X M (4 + t2))
theorem RTab_W {q t : Nat} {X X' M M' : Nat → Nat → Int32} (hq : q = 48 ∨ q = 57) (h : RTab X M t) (f : frW q X X') (g : frN M M') : RTab X' M' t := by
  have ht := h.1
  unfold RTab at *
  rw [f.1 (21 + 3 * t) (by omega) (by omega) (by omega) (by omega), f.1 (22 + 3 * t) (by omega) (by omega) (by omega) (by omega), g.1 88 (by omega) (by omega) (by omega), g.1 89 (by omega) (by omega) (by omega)]
  exact h
theorem PX_W {q : Nat} {X X' : Nat → Nat → Int32} {F : Nat → Nat} (hq : q = 48 ∨ q = 57) (h : PX X q F) (f : frW q X X') : PX X' q F := by
  refine PX_c h ?_ ?_ ?_ ?_ ?_ ?_ ?_ <;> exact f.1 _ (by omega) (by omega) (by omega) (by omega)
theorem PM_N {i : Nat} {M M' : Nat → Nat → Int32} {F : Nat → Nat} (h : PM M i F) (g : frN M M') : PM M' i F := by
  refine PM_c h ?_ ?_ ?_ ?_ ?_ ?_ ?_ <;> exact g.1 _ (by omega) (by omega) (by omega)
theorem OL_W {q : Nat} {X X' : Nat → Nat → Int32} {xs : List Nat} (hq : q = 48 ∨ q = 57) (h : OL X xs) (f : frW q X X') : OL X' xs := by
  unfold OL at *
  rw [f.1 1 (by omega) (by omega) (by omega) (by omega), f.1 2 (by omega) (by omega) (by omega) (by omega)]
  exact h
theorem OW_W {q : Nat} {X X' : Nat → Nat → Int32} {xs : List Nat} (hq : q = 48 ∨ q = 57) (h : OW X xs) (f : frW q X X') : OW X' xs := by
  unfold OW at *
  rw [f.1 1 (by omega) (by omega) (by omega) (by omega), f.1 3 (by omega) (by omega) (by omega) (by omega)]
  exact h
theorem SE1_fr {q c s e h l iv t1 t2 : Nat} {X X' M M' : Nat → Nat → Int32} {F : Nat → Nat} (hq : q = 48 ∨ q = 57) (hS : SE1 X M q F c s e h l iv t1 t2) (f : frW q X X') (g : frN M M') : SE1 X' M' q F c s e h l iv t1 t2 := by
  obtain ⟨h1, h2, h3, h4, h5, h6, h7, h8, h9⟩ := hS
  refine ⟨PX_W hq h1 f, PM_N h2 g, OL_W hq h3 f, OW_W hq h4 f, ?_, ?_, ?_, fun a b => RTab_W hq (h8 a b) f g, fun a => ⟨?_, RTab_W hq (h9 a).2 f g⟩⟩
  · rw [f.1 15 (by omega) (by omega) (by omega) (by omega)]
    exact h5
  · rw [g.2.1 21 (by omega), g.2.1 22 (by omega), g.2.1 23 (by omega), g.2.1 24 (by omega), g.2.1 25 (by omega), g.2.1 26 (by omega), g.2.1 27 (by omega), g.2.1 28 (by omega)]
    exact h6
  · rw [f.1 16 (by omega) (by omega) (by omega) (by omega), f.1 17 (by omega) (by omega) (by omega) (by omega), g.1 91 (by omega) (by omega) (by omega)]
    exact h7
  · rw [g.2.1 48 (by omega)]
    exact (h9 a).1
def wyP (s h : Nat) : Nat := if s = 0 then (if h = 0 then 0 else 1) else (if h = 0 then 2 else 3)
def fitP (s e h l : Nat) : Prop := l ≤ 13 ∧ h ≤ 14 ∧ ((s = 0 ∧ e = 0) ∨ (1 ≤ s ∧ s ≤ e ∧ e ≤ 63))
/-- the coefficients that a scan tells -/
def BZ (m s e j : Nat) : Prop := m / 2 ^ (j / 2304) % 2 = 1 ∧ s ≤ j % 64 ∧ j % 64 ≤ e
theorem BZ_in {m c b s e j : Nat} (hb : m / 2 ^ c % 2 = 1) (hbk : b < 36) (he : e ≤ 63) (hj : ¬ BZ m s e j) : j < 2304 * c + 64 * b + s ∨ 2304 * c + 64 * b + e + 1 ≤ j := by
  apply Decidable.byContradiction
  intro hn
  apply hj
  have h1 : j / 2304 = c := by omega
  exact ⟨by rw [h1]; exact hb, by omega, by omega⟩
def bz (q : Nat) (B : Nat → Prop) (X X' : Nat → Nat → Int32) : Prop := X' 4 5 = nI 0 → ∀ j, ¬ B j → X' (q + 7) j = X (q + 7) j
theorem bz_t {q : Nat} {B : Nat → Prop} {X Y X' : Nat → Nat → Int32} (h : bz q B X Y) (g : bz q B Y X') (b : bq Y X') : bz q B X X' := fun e j hj => (g e j hj).trans (h (b e).1 j hj)
def frY (q m : Nat) (X X' : Nat → Nat → Int32) : Prop := frW q X X' ∧ bz q (BZ m 0 0) X X'
theorem frY_t {q m : Nat} {X Y X' : Nat → Nat → Int32} (h : frY q m X Y) (g : frY q m Y X') : frY q m X X' := ⟨frW_t h.1 g.1, bz_t h.2 g.2 g.1.2⟩
theorem frY_r (q m : Nat) (X : Nat → Nat → Int32) : frY q m X X := ⟨frW_r q X, fun _ _ _ => rfl⟩
section
variable (z a b w v : Nat) (p : Nat → Option Nat)
theorem unitA {q n c cell blk s e h l iv t1 t2 lf : Nat} {X M : Nat → Nat → Int32} {F : Nat → Nat} {y : Int32} (hq : q = 48 ∨ q = 57) (hp1 : p 1 = some q) (hp2 : p 2 = some 15) (hp3 : p 3 = some 18) (hU : U0 n q X M) (hc : c < 3) (hS : SE1 X M q F c s e h l iv t1 t2) (hfit : fitP s e h l) (hcl : cell = 2304 * c + 64 * blk) (hcell : cell + 64 ≤ 6912) (h6 : X 13 6 = nI lf) (h31 : M 70 31 = nI lf) (hlf : lf < 2 ^ 16) (hrun : X 4 5 ≠ nI 0 → X 13 7 = nI 0 ∧ M 70 30 = nI 0) (hZ : 1 ≤ s → h = 0 → X 4 5 = nI 0 → ∀ k', s ≤ k' → k' ≤ e → X (q + 7) (cell + k') = nI 0) : ∃ X' M' : Nat → Nat → Int32, (∀ d M, mm_ev pg_mt (d + 4) 46 [.ref 13, .int (nI (wyP s h)), .int (nI cell), .int (nI c), .int y] (st_h z X M (st_R a b w v p)) = some (none, (st_h z (X') M (st_R a b w v p)))) ∧ (∀ d X a b w v p, mm_ev pg_mt (d + 6) 185 [.ref 70, .int (nI c), .int (nI blk)] (st_h z X M (st_R a b w v p)) = some (none, (st_h z X (M') (st_R a b w v p)))) ∧ UQ n q (cell + s) (cell + e + 1) X M X' M' := by
  obtain ⟨-, -, -, -, ⟨x2, x3, x5⟩, ⟨m21, m22, m23, m24, m25, m26, m27, m28⟩, ⟨x16, m91, x17, ht1, ht2⟩, hT1, hT2⟩ := hS
  obtain ⟨hl, hh, hse⟩ := hfit
  unfold wyP
  by_cases s0 : s = 0
  · subst s0
    have e0 : e = 0 := by omega
    subst e0
    rw [if_pos rfl]
    by_cases h0 : h = 0
    · subst h0
      rw [if_pos rfl]
      exact unit0 z a b w v p hq hp1 hp2 hp3 hU hc ht1 hcl hcell x16 m91 (hT1 rfl rfl) x5 m27 m22 m21 m24 m26 (by omega)
    · rw [if_neg h0]
      exact unit1 z a b w v p hq hp1 hp2 hU hcl hcell x5 m27 m22 m21 m24 m26 (by omega) (by omega)
  · rw [if_neg s0]
    obtain ⟨m48, hT⟩ := hT2 (by omega)
    have hC : BCn X M e l lf t2 := ⟨x3, x5, h6, m25, m27, h31, m48, hT⟩
    by_cases h0 : h = 0
    · subst h0
      rw [if_pos rfl]
      exact unit2 z a b w v p hq hp1 hp2 hp3 hU hc ht2 hcl hcell x17 x2 m24 hC m22 m21 m26 (by omega) (by omega) (by omega) hl hlf hrun (hZ (by omega) rfl)
    · rw [if_neg h0]
      exact unit3 z a b w v p hq hp1 hp2 hp3 hU hc ht2 hcl hcell x17 x2 m24 hC m22 m21 m26 (by omega) (by omega) (by omega) (by omega) (by omega) hl hlf hrun
end
/-! block numbers -/
def bk (F : Nat → Nat) (c u : Nat) : Nat := u / fSA F c * (fA F * F (10 + c)) + u % fSA F c
theorem FF_sa {F : Nat → Nat} (hF : FF F) (h1 : F 0 = 1) {c : Nat} (hc : c < F 4) : fSA F c ≤ fA F * F (10 + c) ∧ fSD F c ≤ fD F * F (20 + c) := by
  have hh := FF_h hF
  have hv := FF_v hF
  have g1 := fmx_ge (F := F) (o := 10) (F 4) c hc
  have g2 := fmx_ge (F := F) (o := 20) (F 4) c hc
  obtain ⟨w1, w2, g1', g2', n1, n3, -, -, -, hb⟩ := hF
  have hb := hb c hc
  unfold fSA fSD fA fD fW fG
  rw [if_neg (by omega), if_neg (by omega), if_neg (by omega), if_neg (by omega)]
  generalize fmx F 10 (F 4) = x at *
  generalize fmx F 20 (F 4) = y at *
  generalize F (10 + c) = u at *
  generalize F (20 + c) = t at *
  generalize F 1 = W at *
  generalize F 2 = H at *
  constructor
  · rcases (show x = 1 ∨ x = 2 by omega) with rfl | rfl <;> rcases (show u = 1 ∨ u = 2 by omega) with rfl | rfl <;> omega
  · rcases (show y = 1 ∨ y = 2 by omega) with rfl | rfl <;> rcases (show t = 1 ∨ t = 2 by omega) with rfl | rfl <;> omega
theorem bk_lt {F : Nat → Nat} (hF : FF F) (h1 : F 0 = 1) {c u : Nat} (hc : c < F 4) (hu : u < fSD F c * fSA F c) : bk F c u < 36 := by
  have hs := FF_sa hF h1 hc
  have hp := FF_sad hF hc
  have hb := FF_bl hF h1 hc
  have h2 : u % fSA F c < fSA F c := Nat.mod_lt _ (by omega)
  have h3 : u / fSA F c < fSD F c := Nat.div_lt_of_lt_mul (by rw [Nat.mul_comm]; exact hu)
  unfold bk
  have := Nat.mul_le_mul (show u / fSA F c ≤ 5 by omega) hb.2.1
  omega
theorem bk_inj {F : Nat → Nat} (hF : FF F) (h1 : F 0 = 1) {c u u' : Nat} (hc : c < F 4) (h : bk F c u = bk F c u') : u = u' := by
  have hs := FF_sa hF h1 hc
  have hp := FF_sad hF hc
  have h2 : u % fSA F c < fSA F c := Nat.mod_lt _ (by omega)
  have h3 : u' % fSA F c < fSA F c := Nat.mod_lt _ (by omega)
  unfold bk at h
  have hst : 0 < fA F * F (10 + c) := by omega
  have e1 := congrArg (· / (fA F * F (10 + c))) h
  have e2 := congrArg (· % (fA F * F (10 + c))) h
  simp only [Nat.mul_comm (u / fSA F c), Nat.mul_comm (u' / fSA F c)] at e1 e2
  rw [Nat.mul_add_div hst, Nat.mul_add_div hst, Nat.div_eq_of_lt (show u % fSA F c < _ by omega), Nat.div_eq_of_lt (show u' % fSA F c < _ by omega)] at e1
  rw [Nat.mul_add_mod, Nat.mul_add_mod, Nat.mod_eq_of_lt (show u % fSA F c < _ by omega), Nat.mod_eq_of_lt (show u' % fSA F c < _ by omega)] at e2
  have e3 : u / fSA F c = u' / fSA F c := by omega
  have k1 := Nat.div_add_mod u (fSA F c)
  have k2 := Nat.div_add_mod u' (fSA F c)
  rw [e3] at k1
  omega
theorem lone_get {F : Nat → Nat} (hF : FF F) (h1 : F 0 = 1) {c u : Nat} (hc : c < F 4) (hu : u < fSD F c * fSA F c) : (lone F c)[u]? = some (2304 * c + 64 * bk F c u) := by
  have hp := FF_sad hF hc
  unfold lone
  rw [flat_get (f := fun y x => ucl F c x y) (by omega) _ _ hu]
  unfold ucl uw bk
  rw [if_neg (by omega)]
  congr 1
  generalize u / fSA F c * (fA F * F (10 + c)) + u % fSA F c = k
  omega
section
variable {d z a b w v : Nat} {p : Nat → Option Nat} {X M : Nat → Nat → Int32}
theorem lone_M {c : Nat} (hc : c < 3) (h : M 70 23 = nI (2 ^ c)) : mm_ev pg_mt (d + 1) 181 [.ref 70] (st_h z X M (st_R a b w v p)) = some (some (.int (nI c)), (st_h z X M (st_R a b w v p))) := by
  rcases (show c = 0 ∨ c = 1 ∨ c = 2 by omega) with rfl | rfl | rfl <;> simp (disch := omega) only [↓en181, ↓eb181_0, ↓eb181_37, ↓tf_70, ↓tp_70, ↓tz_70, ↓ty_70, ↓tzl_70, ↓tyl_70, ↓tv_70, ↓ta_71, ↓tb_71, ↓ts_71, ↓tl_71, ↓ta_72, ↓tb_72, ↓ts_72, ↓tl_72, ↓ta_73, ↓tb_73, ↓ts_73, ↓tl_73, ↓ta_74, ↓tb_74, ↓ts_74, ↓tl_74, ↓ta_75, ↓tb_75, ↓ts_75, ↓tl_75, ↓ta_76, ↓tb_76, ↓ts_76, ↓tl_76, ↓ta_77, ↓tb_77, ↓ts_77, ↓tl_77, ↓ta_78, ↓tb_78, ↓ts_78, ↓tl_78, ↓ta_79, ↓tb_79, ↓ts_79, ↓tl_79, ↓ta_80, ↓tb_80, ↓ts_80, ↓tl_80, ↓ta_81, ↓tb_81, ↓ts_81, ↓tl_81, ↓ta_82, ↓tb_82, ↓ts_82, ↓tl_82, ↓ta_83, ↓tb_83, ↓ts_83, ↓tl_83, ↓ta_84, ↓tb_84, ↓ts_84, ↓tl_84, ↓ta_85, ↓tb_85, ↓ts_85, ↓tl_85, ↓ta_86, ↓tb_86, ↓ts_86, ↓tl_86, ↓ta_87, ↓tb_87, ↓ts_87, ↓tl_87, ↓ta_88, ↓tb_88, ↓ts_88, ↓tl_88, ↓ta_89, ↓tb_89, ↓ts_89, ↓tl_89, ↓ta_90, ↓tb_90, ↓ts_90, ↓tl_90, ↓ta_91, ↓tb_91, ↓ts_91, ↓tl_91, ↓ta_92, ↓tb_92, ↓ts_92, ↓tl_92, ↓ta_93, ↓tb_93, ↓ts_93, ↓tl_93, ↓ta_94, ↓tb_94, ↓ts_94, ↓tl_94, ↓tr_70_1, ↓tr_70_3, ↓tr_70_5, ↓tr_70_6, ↓tr_70_7, ↓tr_70_8, ↓tr_70_9, ↓tr_70_10, ↓tr_70_11, ↓tr_70_12, ↓tr_70_13, ↓tr_70_14, ↓tr_70_15, ↓tr_70_17, ↓tr_70_19, ↓tr_70_29, ↓tr_70_41, ↓tr_70_44, ↓tr_70_45, ↓tr_70_46, ↓tr_70_47, ↓tr_70_49, ↓tr_70_51, ↓tr_70_53, ↓reduceIte, ↓bd_ite, ↓Option.bind_some, Option.toList_some, Option.toList_none, List.cons_append, List.nil_append, ↓tz0, ↓tz1, ↓st_z0, ↓st_z1, ↓t_is, ↓t_dv, ↓t_rm, st_us, st_uk, st_uo, nI_add, pk_mul, Nat.reduceAdd, Nat.reduceSub, Nat.reduceMul, pk_sub, nI_leI, nI_ltI, nI_eq, nn_leT, nn_leF, nn_ltT, nn_ltF, nn_eqT, nn_eqF, nm1, k_0, k_1, k_2, k_3, k_4, k_5, k_6, k_7, k_8, k_9, k_10, k_12, k_13, k_15, k_16, k_17, k_20, k_24, k_32, k_36, k_40, k_60, k_63, k_64, k_128, k_192, k_194, k_195, k_196, k_208, k_215, k_216, k_217, k_218, k_219, k_221, k_224, k_239, k_240, k_254, k_255, k_256, k_273, k_309, k_936, k_1600, k_2000, k_2304, k_4800, k_5980, k_6000, k_6912, k_12000, k_16383, k_32767, k_32768, k_65474, k_65475, k_65476, k_65496, k_65497, k_65498, k_65501, k_65535, k_65536, h, Nat.reducePow]
end
theorem lf_X {N iv u : Nat} (hu : u < N) (hN : N ≤ 1600) (hiv : iv < 65536) : (if N - u < spn N iv 1 - u % spn N iv 1 then nI (N - u) else nI (spn N iv 1 - u % spn N iv 1)) = nI (lfv N iv u) := by
  unfold spn lfv
  by_cases iv0 : iv = 0
  · rw [if_pos iv0, if_pos iv0, Nat.mod_eq_of_lt hu, if_neg (by omega)]
  · rw [if_neg iv0, if_neg iv0, Nat.mul_one]
    split <;> rfl
theorem lf_lt {N iv u : Nat} (hN : N ≤ 1600) : lfv N iv u < 2 ^ 16 := by
  unfold lfv
  split
  · omega
  · split <;> omega
