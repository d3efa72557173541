/-! ===== scans of more components: where their units stand ===== -/
def bk2 (F : Nat → Nat) (c u k : Nat) : Nat := (F (20 + c) * (u / fA F) + k / F (10 + c)) * (fA F * F (10 + c)) + F (10 + c) * (u % fA F) + k % F (10 + c)
theorem seg0_get {F : Nat → Nat} (hF : FF F) (h1 : F 0 = 1) {c u k : Nat} (hc : c < F 4) (hk : k < F (10 + c) * F (20 + c)) : (seg0 F c (u % fA F) (u / fA F))[k]? = some (2304 * c + 64 * bk2 F c u k) := by
  have hb := hF.2.2.2.2.2.2.2.2.2 c hc
  unfold seg0
  rw [flat_get (f := fun y x => ucl F c (u % fA F * F (10 + c) + x) (u / fA F * F (20 + c) + y)) (by omega) _ _ (by rw [Nat.mul_comm]; exact hk)]
  unfold ucl uw bk2
  rw [if_neg (by omega), Nat.mul_comm (u / fA F) (F (20 + c)), Nat.mul_comm (u % fA F) (F (10 + c)), ← Nat.add_assoc]
  congr 1
  generalize (F (20 + c) * (u / fA F) + k / F (10 + c)) * (fA F * F (10 + c)) + F (10 + c) * (u % fA F) + k % F (10 + c) = x
  omega
theorem sgs_get {F : Nat → Nat} {m col row c k : Nat} (hb : m / 2 ^ c % 2 = 1) (hk : k < F (10 + c) * F (20 + c)) : ∀ C, c < C → (sgs F m col row C)[fU F m c + k]? = (seg0 F c col row)[k]?
  | 0, h => absurd h (by omega)
  | C + 1, h => by
    have hfu := bits_le F hb
    by_cases e : c = C
    · subst e
      have hu : sgs F m col row (c + 1) = sgs F m col row c ++ seg0 F c col row := if_pos hb
      rw [hu, List.getElem?_append, sgs_len, if_neg (by omega), Nat.add_sub_cancel_left]
    · have ih := sgs_get (F := F) (col := col) (row := row) hb hk C (by omega)
      have hmn := fU_mono F m (C - (c + 1)) (c + 1)
      rw [show c + 1 + (C - (c + 1)) = C by omega] at hmn
      by_cases hC : m / 2 ^ C % 2 = 1
      · have hu : sgs F m col row (C + 1) = sgs F m col row C ++ seg0 F C col row := if_pos hC
        rw [hu, List.getElem?_append, sgs_len, if_pos (by omega)]
        exact ih
      · have hu : sgs F m col row (C + 1) = sgs F m col row C := if_neg hC
        rw [hu]
        exact ih
theorem ows_get {F : Nat → Nat} {m c k : Nat} (hb : m / 2 ^ c % 2 = 1) (hk : k < F (10 + c) * F (20 + c)) : ∀ C, c < C → (ows F m C)[fU F m c + k]? = some c
  | 0, h => absurd h (by omega)
  | C + 1, h => by
    have hfu := bits_le F hb
    by_cases e : c = C
    · subst e
      have hu : ows F m (c + 1) = ows F m c ++ List.replicate (F (10 + c) * F (20 + c)) c := if_pos hb
      rw [hu, List.getElem?_append, ows_len, if_neg (by omega), Nat.add_sub_cancel_left, List.getElem?_replicate, if_pos hk]
    · have ih := ows_get (F := F) hb hk C (by omega)
      have hmn := fU_mono F m (C - (c + 1)) (c + 1)
      rw [show c + 1 + (C - (c + 1)) = C by omega] at hmn
      by_cases hC : m / 2 ^ C % 2 = 1
      · have hu : ows F m (C + 1) = ows F m C ++ List.replicate (F (10 + C) * F (20 + C)) C := if_pos hC
        rw [hu, List.getElem?_append, ows_len, if_pos (by omega)]
        exact ih
      · have hu : ows F m (C + 1) = ows F m C := if_neg hC
        rw [hu]
        exact ih
theorem allu_get {F : Nat → Nat} {m u j : Nat} (hj : j < fU F m (F 4)) : ∀ N, u < N → (allu F m N)[u * fU F m (F 4) + j]? = (sgs F m (u % fA F) (u / fA F) (F 4))[j]?
  | 0, h => absurd h (by omega)
  | N + 1, h => by
    have hu : allu F m (N + 1) = allu F m N ++ sgs F m (N % fA F) (N / fA F) (F 4) := rfl
    by_cases e : u = N
    · subst e
      rw [hu, List.getElem?_append, allu_len, if_neg (by omega), Nat.add_sub_cancel_left]
    · have ih := allu_get (F := F) (m := m) (u := u) hj N (by omega)
      have hlt : u * fU F m (F 4) + j < N * fU F m (F 4) := by
        have := Nat.mul_le_mul_right (fU F m (F 4)) (show u + 1 ≤ N by omega)
        rw [Nat.succ_mul] at this
        omega
      rw [hu, List.getElem?_append, allu_len, if_pos hlt]
      exact ih
theorem bk2_lt {F : Nat → Nat} (hF : FF F) (h1 : F 0 = 1) {c u k : Nat} (hc : c < F 4) (hu : u < fD F * fA F) (hk : k < F (10 + c) * F (20 + c)) : bk2 F c u k < 36 := by
  have hb := FF_bl hF h1 hc
  have hf := hF.2.2.2.2.2.2.2.2.2 c hc
  have had := FF_ad hF
  have h2 : u % fA F < fA F := Nat.mod_lt _ (by omega)
  have h3 : u / fA F < fD F := Nat.div_lt_of_lt_mul (by rw [Nat.mul_comm]; exact hu)
  have h4 : k % F (10 + c) < F (10 + c) := Nat.mod_lt _ (by omega)
  have h5 : k / F (10 + c) < F (20 + c) := Nat.div_lt_of_lt_mul hk
  have e1 : F (20 + c) * (u / fA F) + k / F (10 + c) + 1 ≤ fD F * F (20 + c) := by
    have := Nat.mul_le_mul_left (F (20 + c)) (show u / fA F + 1 ≤ fD F from h3)
    rw [Nat.mul_succ, Nat.mul_comm (F (20 + c)) (fD F)] at this
    omega
  have e2 : F (10 + c) * (u % fA F) + k % F (10 + c) + 1 ≤ fA F * F (10 + c) := by
    have := Nat.mul_le_mul_left (F (10 + c)) (show u % fA F + 1 ≤ fA F from h2)
    rw [Nat.mul_succ, Nat.mul_comm (F (10 + c)) (fA F)] at this
    omega
  unfold bk2
  have := Nat.mul_le_mul (show F (20 + c) * (u / fA F) + k / F (10 + c) ≤ 5 by omega) hb.2.1
  omega
theorem mid_ne {N P iv u j : Nat} (hj : 0 < j) (hjP : j < P) (hu : u < N) : ¬ (u * P + j) % spn (N * P) iv P = 0 := by
  have hlt : u * P + j < N * P := by
    have := Nat.mul_le_mul_right P (show u + 1 ≤ N by omega)
    rw [Nat.succ_mul] at this
    omega
  unfold spn
  by_cases iv0 : iv = 0
  · rw [if_pos iv0, Nat.mod_eq_of_lt hlt]
    omega
  · rw [if_neg iv0, Nat.mul_comm iv P, Nat.mod_mul]
    have h1 : (u * P + j) % P = j := by
      rw [Nat.mul_comm, Nat.mul_add_mod, Nat.mod_eq_of_lt hjP]
    rw [h1]
    omega
/-! the surroundings of such a scan -/
def SE2 (X M : Nat → Nat → Int32) (q : Nat) (F : Nat → Nat) (m h l iv : Nat) (td : Nat → Nat) : Prop := PX X q F ∧ PM M 1 F ∧ OL X (allu F m (fD F * fA F)) ∧ OW X (ows F m (F 4)) ∧ X 15 5 = nI l ∧ (M 70 21 = nI 1 ∧ M 70 22 = nI 0 ∧ M 70 23 = nI m ∧ M 70 24 = nI 0 ∧ M 70 26 = nI h ∧ M 70 27 = nI l ∧ M 70 28 = nI iv) ∧ ∀ c, c < F 4 → m / 2 ^ c % 2 = 1 → td c < 4 ∧ X 16 c = nI (td c) ∧ M 91 c = nI (td c) ∧ (h = 0 → RTab X M (td c))
theorem SE2_fr {q m h l iv : Nat} {td : Nat → Nat} {X X' M M' : Nat → Nat → Int32} {F : Nat → Nat} (hq : q = 48 ∨ q = 57) (hS : SE2 X M q F m h l iv td) (f : frW q X X') (g : frN M M') : SE2 X' M' q F m h l iv td := by
  obtain ⟨h1, h2, h3, h4, h5, h6, h7⟩ := hS
  refine ⟨PX_W hq h1 f, PM_N h2 g, OL_W hq h3 f, OW_W hq h4 f, ?_, ?_, fun c hc hb => ?_⟩
  · rw [f.1 15 (by omega) (by omega) (by omega) (by omega)]
    exact h5
  · rw [g.2.1 21 (by omega), g.2.1 22 (by omega), g.2.1 23 (by omega), g.2.1 24 (by omega), g.2.1 26 (by omega), g.2.1 27 (by omega), g.2.1 28 (by omega)]
    exact h6
  · obtain ⟨a1, a2, a3, a4⟩ := h7 c hc hb
    rw [f.1 16 (by omega) (by omega) (by omega) (by omega), g.1 91 (by omega) (by omega) (by omega)]
    exact ⟨a1, a2, a3, fun e => RTab_W hq (a4 e) f g⟩
section
variable (z a b w v : Nat) (p : Nat → Option Nat)
theorem code_x {g t : Nat} {X : Nat → Nat → Int32} (hg : g < 9) (g0 : g ≠ 0) (h5 : X 4 5 = nI g) (ht : t < 8) (d : Nat) (M : Nat → Nat → Int32) : mm_ev pg_mt (d + 2) 118 [.ref 4, .ref (20 + 3 * t)] (st_h z X M (st_R a b w v p)) = some (some (.int (nI 0)), (st_h z X M (st_R a b w v p))) := by
  rw [en118, eb118_0, eb118_10]
  simp (disch := omega) only [↓en111, ↓eb111_0, ↓eb111_17, ↓tf_0, ↓tp_0, ↓tz_0, ↓ty_0, ↓tzl_0, ↓tyl_0, ↓tv_0, ↓tf_1, ↓tp_1, ↓tz_1, ↓ty_1, ↓tzl_1, ↓tyl_1, ↓tv_1, ↓ta_2, ↓tb_2, ↓ts_2, ↓tl_2, ↓ta_3, ↓tb_3, ↓ts_3, ↓tl_3, ↓tf_4, ↓tp_4, ↓tz_4, ↓ty_4, ↓tzl_4, ↓tyl_4, ↓tv_4, ↓ta_5, ↓tb_5, ↓ts_5, ↓tl_5, ↓tf_6, ↓tp_6, ↓tz_6, ↓ty_6, ↓tzl_6, ↓tyl_6, ↓tv_6, ↓ta_7, ↓tb_7, ↓ts_7, ↓tl_7, ↓ta_8, ↓tb_8, ↓ts_8, ↓tl_8, ↓tf_9, ↓tp_9, ↓tz_9, ↓ty_9, ↓tzl_9, ↓tyl_9, ↓tv_9, ↓ta_10, ↓tb_10, ↓ts_10, ↓tl_10, ↓ta_11, ↓tb_11, ↓ts_11, ↓tl_11, ↓tf_12, ↓tp_12, ↓tz_12, ↓ty_12, ↓tzl_12, ↓tyl_12, ↓tv_12, ↓tf_13, ↓tp_13, ↓tz_13, ↓ty_13, ↓tzl_13, ↓tyl_13, ↓tv_13, ↓ta_14, ↓tb_14, ↓ts_14, ↓tl_14, ↓tf_15, ↓tp_15, ↓tz_15, ↓ty_15, ↓tzl_15, ↓tyl_15, ↓tv_15, ↓ta_16, ↓tb_16, ↓ts_16, ↓tl_16, ↓ta_17, ↓tb_17, ↓ts_17, ↓tl_17, ↓ta_19, ↓tb_19, ↓ts_19, ↓tl_19, ↓tf_44, ↓tp_44, ↓tz_44, ↓ty_44, ↓tzl_44, ↓tyl_44, ↓tv_44, ↓ta_45, ↓tb_45, ↓ts_45, ↓tl_45, ↓ta_46, ↓tb_46, ↓ts_46, ↓tl_46, ↓ta_47, ↓tb_47, ↓ts_47, ↓tl_47, ↓ta_18, ↓tr_0_0, ↓tr_0_1, ↓tr_0_2, ↓tr_0_3, ↓tr_0_4, ↓tr_1_0, ↓tr_1_1, ↓tr_4_0, ↓tr_6_0, ↓tr_6_1, ↓tr_9_6, ↓tr_9_7, ↓tr_12_0, ↓tr_12_1, ↓tr_12_2, ↓tr_12_3, ↓tr_12_4, ↓tr_13_0, ↓tr_13_1, ↓tr_13_2, ↓tr_15_6, ↓tr_15_7, ↓tr_44_0, ↓tr_44_1, ↓tr_44_2, ↓tr_44_3, ↓tr_0_5, ↓tr_0_6, ↓tr_0_7, ↓tr_0_8, ↓tr_12_5, ↓tu_12_5, ↓tr_13_3, ↓tu_13_3, ↓tr_13_4, ↓tu_13_4, ↓tr_13_5, ↓tu_13_5, ↓tr_44_4, ↓tu_44_4, ↓tr_44_5, ↓tu_44_5, ↓tr_44_6, ↓tu_44_6, ↓tu_0_5, ↓tu_0_6, ↓tu_0_7, ↓tu_0_8, ↓tfP, ↓tpP, ↓tvP, ↓trP_7, ↓trP_8, ↓trP_9, ↓trP_10, ↓trP_11, ↓trP_12, ↓trP_13, ↓trP_14, ↓taP_1, ↓taP_2, ↓taP_3, ↓taP_4, ↓taP_5, ↓taP_6, ↓taP_7, ↓taP_8, ↓tsP_1, ↓tsP_2, ↓tsP_3, ↓tsP_4, ↓tsP_5, ↓tsP_6, ↓tsP_7, ↓tsP_8, ↓tlP_7, ↓tlP_8, ↓tfS, ↓tpS, ↓tvS, ↓trS, ↓taS, ↓tsS, ↓tfT, ↓tzT, ↓tyT, ↓tzlT, ↓tylT, ↓trT_0, ↓trT_1, ↓taT_1, ↓taT_2, ↓tsT_1, ↓tsT_2, ↓tlT_2, ↓reduceIte, ↓bd_ite, ↓Option.bind_some, Option.toList_some, Option.toList_none, List.cons_append, List.nil_append, ↓tz0, ↓tz1, ↓st_z0, ↓st_z1, ↓t_is, ↓t_dv, ↓t_rm, st_us, st_uk, st_uo, nI_add, pk_mul, Nat.reduceAdd, Nat.reduceSub, Nat.reduceMul, pk_sub, nI_leI, nI_ltI, nI_eq, nn_leT, nn_leF, nn_ltT, nn_ltF, nn_eqT, nn_eqF, nm1, k_0, k_1, k_2, k_3, k_4, k_5, k_6, k_7, k_8, k_9, k_10, k_12, k_13, k_15, k_16, k_17, k_20, k_24, k_32, k_36, k_40, k_60, k_63, k_64, k_128, k_192, k_194, k_195, k_196, k_208, k_215, k_216, k_217, k_218, k_219, k_221, k_224, k_239, k_240, k_254, k_255, k_256, k_273, k_309, k_936, k_1600, k_2000, k_2304, k_4800, k_5980, k_6000, k_6912, k_12000, k_16383, k_32767, k_32768, k_65474, k_65475, k_65476, k_65496, k_65497, k_65498, k_65501, k_65535, k_65536, h5, ↓eb118_112, ↓eb118_122, ite_self]
/-- behind a fault the class's unit does no harm -/
theorem unit_x {q g c t cell l wy : Nat} {X : Nat → Nat → Int32} {y : Int32} (hq : q = 48 ∨ q = 57) (hp1 : p 1 = some q) (hp2 : p 2 = some 15) (hp3 : p 3 = some 18) (hg : g < 9) (g0 : g ≠ 0) (h5 : X 4 5 = nI g) (hc : c < 3) (ht : t < 4) (h16 : X 16 c = nI t) (hcell : cell < 6912) (hl : X 15 5 = nI l) (hw : wy < 2) : ∃ X' : Nat → Nat → Int32, (∀ d M, mm_ev pg_mt (d + 4) 46 [.ref 13, .int (nI wy), .int (nI cell), .int (nI c), .int y] (st_h z X M (st_R a b w v p)) = some (none, (st_h z (X') M (st_R a b w v p)))) ∧ X' 4 = X 4 ∧ frU q X X' := by
  rcases (show wy = 0 ∨ wy = 1 by omega) with rfl | rfl
  · refine ⟨st_u (st_u X 14 c (X 14 c + ext 0 0)) (q + 7) cell ((X 14 c + ext 0 0) <<< (nI l &&& 31)), fun d M => ?_, by simp (disch := omega) only [↓reduceIte, ↓bd_ite, ↓Option.bind_some, Option.toList_some, Option.toList_none, List.cons_append, List.nil_append, ↓tz0, ↓tz1, ↓st_z0, ↓st_z1, ↓t_is, ↓t_dv, ↓t_rm, st_us, st_uk, st_uo, nI_add, pk_mul, Nat.reduceAdd, Nat.reduceSub, Nat.reduceMul, pk_sub, nI_leI, nI_ltI, nI_eq, nn_leT, nn_leF, nn_ltT, nn_ltF, nn_eqT, nn_eqF, nm1, k_0, k_1, k_2, k_3, k_4, k_5, k_6, k_7, k_8, k_9, k_10, k_12, k_13, k_15, k_16, k_17, k_20, k_24, k_32, k_36, k_40, k_60, k_63, k_64, k_128, k_192, k_194, k_195, k_196, k_208, k_215, k_216, k_217, k_218, k_219, k_221, k_224, k_239, k_240, k_254, k_255, k_256, k_273, k_309, k_936, k_1600, k_2000, k_2304, k_4800, k_5980, k_6000, k_6912, k_12000, k_16383, k_32767, k_32768, k_65474, k_65475, k_65476, k_65496, k_65497, k_65498, k_65501, k_65535, k_65536], frU_sq hq (frU_s14 (frU_r q X) _ _) _ _⟩
    have ee := fun d h => ext_X d (r := 0) (k := 0) (by decide) (fun _ => rfl) h
    have dcT := fun d M => dcT_X (d := d) (z := z) (a := a) (b := b) (w := w) (v := v) (p := p) (M := M) hp2 hp3 hc ht h16
    have cx := fun d M => code_x z a b w v p hg g0 h5 (show t < 8 by omega) d M
    simp (disch := omega) only [↓en46, ↓eb46_0, ↓eb46_9, ↓eb46_46, ↓eb46_62, ↓eb46_69, ↓eb46_81, ↓eb46_91, ↓eb46_94, ↓eb46_104, ↓eb46_107, ↓eb46_119, ↓eb46_122, ↓en49, ↓eb49_0, ↓eb49_9, ↓eb49_12, ↓eb49_35, ↓eb49_51, ↓eb49_55, ↓eb49_79, ↓tf_0, ↓tp_0, ↓tz_0, ↓ty_0, ↓tzl_0, ↓tyl_0, ↓tv_0, ↓tf_1, ↓tp_1, ↓tz_1, ↓ty_1, ↓tzl_1, ↓tyl_1, ↓tv_1, ↓ta_2, ↓tb_2, ↓ts_2, ↓tl_2, ↓ta_3, ↓tb_3, ↓ts_3, ↓tl_3, ↓tf_4, ↓tp_4, ↓tz_4, ↓ty_4, ↓tzl_4, ↓tyl_4, ↓tv_4, ↓ta_5, ↓tb_5, ↓ts_5, ↓tl_5, ↓tf_6, ↓tp_6, ↓tz_6, ↓ty_6, ↓tzl_6, ↓tyl_6, ↓tv_6, ↓ta_7, ↓tb_7, ↓ts_7, ↓tl_7, ↓ta_8, ↓tb_8, ↓ts_8, ↓tl_8, ↓tf_9, ↓tp_9, ↓tz_9, ↓ty_9, ↓tzl_9, ↓tyl_9, ↓tv_9, ↓ta_10, ↓tb_10, ↓ts_10, ↓tl_10, ↓ta_11, ↓tb_11, ↓ts_11, ↓tl_11, ↓tf_12, ↓tp_12, ↓tz_12, ↓ty_12, ↓tzl_12, ↓tyl_12, ↓tv_12, ↓tf_13, ↓tp_13, ↓tz_13, ↓ty_13, ↓tzl_13, ↓tyl_13, ↓tv_13, ↓ta_14, ↓tb_14, ↓ts_14, ↓tl_14, ↓tf_15, ↓tp_15, ↓tz_15, ↓ty_15, ↓tzl_15, ↓tyl_15, ↓tv_15, ↓ta_16, ↓tb_16, ↓ts_16, ↓tl_16, ↓ta_17, ↓tb_17, ↓ts_17, ↓tl_17, ↓ta_19, ↓tb_19, ↓ts_19, ↓tl_19, ↓tf_44, ↓tp_44, ↓tz_44, ↓ty_44, ↓tzl_44, ↓tyl_44, ↓tv_44, ↓ta_45, ↓tb_45, ↓ts_45, ↓tl_45, ↓ta_46, ↓tb_46, ↓ts_46, ↓tl_46, ↓ta_47, ↓tb_47, ↓ts_47, ↓tl_47, ↓ta_18, ↓tr_0_0, ↓tr_0_1, ↓tr_0_2, ↓tr_0_3, ↓tr_0_4, ↓tr_1_0, ↓tr_1_1, ↓tr_4_0, ↓tr_6_0, ↓tr_6_1, ↓tr_9_6, ↓tr_9_7, ↓tr_12_0, ↓tr_12_1, ↓tr_12_2, ↓tr_12_3, ↓tr_12_4, ↓tr_13_0, ↓tr_13_1, ↓tr_13_2, ↓tr_15_6, ↓tr_15_7, ↓tr_44_0, ↓tr_44_1, ↓tr_44_2, ↓tr_44_3, ↓tr_0_5, ↓tr_0_6, ↓tr_0_7, ↓tr_0_8, ↓tr_12_5, ↓tu_12_5, ↓tr_13_3, ↓tu_13_3, ↓tr_13_4, ↓tu_13_4, ↓tr_13_5, ↓tu_13_5, ↓tr_44_4, ↓tu_44_4, ↓tr_44_5, ↓tu_44_5, ↓tr_44_6, ↓tu_44_6, ↓tu_0_5, ↓tu_0_6, ↓tu_0_7, ↓tu_0_8, ↓tfP, ↓tpP, ↓tvP, ↓trP_7, ↓trP_8, ↓trP_9, ↓trP_10, ↓trP_11, ↓trP_12, ↓trP_13, ↓trP_14, ↓taP_1, ↓taP_2, ↓taP_3, ↓taP_4, ↓taP_5, ↓taP_6, ↓taP_7, ↓taP_8, ↓tsP_1, ↓tsP_2, ↓tsP_3, ↓tsP_4, ↓tsP_5, ↓tsP_6, ↓tsP_7, ↓tsP_8, ↓tlP_7, ↓tlP_8, ↓tfS, ↓tpS, ↓tvS, ↓trS, ↓taS, ↓tsS, ↓tfT, ↓tzT, ↓tyT, ↓tzlT, ↓tylT, ↓trT_0, ↓trT_1, ↓taT_1, ↓taT_2, ↓tsT_1, ↓tsT_2, ↓tlT_2, ↓reduceIte, ↓bd_ite, ↓Option.bind_some, Option.toList_some, Option.toList_none, List.cons_append, List.nil_append, ↓tz0, ↓tz1, ↓st_z0, ↓st_z1, ↓t_is, ↓t_dv, ↓t_rm, st_us, st_uk, st_uo, nI_add, pk_mul, Nat.reduceAdd, Nat.reduceSub, Nat.reduceMul, pk_sub, nI_leI, nI_ltI, nI_eq, nn_leT, nn_leF, nn_ltT, nn_ltF, nn_eqT, nn_eqF, nm1, k_0, k_1, k_2, k_3, k_4, k_5, k_6, k_7, k_8, k_9, k_10, k_12, k_13, k_15, k_16, k_17, k_20, k_24, k_32, k_36, k_40, k_60, k_63, k_64, k_128, k_192, k_194, k_195, k_196, k_208, k_215, k_216, k_217, k_218, k_219, k_221, k_224, k_239, k_240, k_254, k_255, k_256, k_273, k_309, k_936, k_1600, k_2000, k_2304, k_4800, k_5980, k_6000, k_6912, k_12000, k_16383, k_32767, k_32768, k_65474, k_65475, k_65476, k_65496, k_65497, k_65498, k_65501, k_65535, k_65536, hp1, hp2, hp3, dcT, cx, bits0_X, ee, hl, store_X]
  · refine ⟨st_u X (q + 7) cell (X (q + 7) cell ||| (nI 0 <<< (nI l &&& 31))), fun d M => ?_, by simp (disch := omega) only [↓reduceIte, ↓bd_ite, ↓Option.bind_some, Option.toList_some, Option.toList_none, List.cons_append, List.nil_append, ↓tz0, ↓tz1, ↓st_z0, ↓st_z1, ↓t_is, ↓t_dv, ↓t_rm, st_us, st_uk, st_uo, nI_add, pk_mul, Nat.reduceAdd, Nat.reduceSub, Nat.reduceMul, pk_sub, nI_leI, nI_ltI, nI_eq, nn_leT, nn_leF, nn_ltT, nn_ltF, nn_eqT, nn_eqF, nm1, k_0, k_1, k_2, k_3, k_4, k_5, k_6, k_7, k_8, k_9, k_10, k_12, k_13, k_15, k_16, k_17, k_20, k_24, k_32, k_36, k_40, k_60, k_63, k_64, k_128, k_192, k_194, k_195, k_196, k_208, k_215, k_216, k_217, k_218, k_219, k_221, k_224, k_239, k_240, k_254, k_255, k_256, k_273, k_309, k_936, k_1600, k_2000, k_2304, k_4800, k_5980, k_6000, k_6912, k_12000, k_16383, k_32767, k_32768, k_65474, k_65475, k_65476, k_65496, k_65497, k_65498, k_65501, k_65535, k_65536], frU_sq hq (frU_r q X) _ _⟩
    simp (disch := omega) only [↓en46, ↓eb46_0, ↓eb46_9, ↓eb46_46, ↓eb46_62, ↓eb46_69, ↓eb46_81, ↓eb46_91, ↓eb46_94, ↓eb46_104, ↓eb46_107, ↓eb46_119, ↓eb46_122, ↓en116, ↓eb116_0, ↓eb116_44, ↓eb116_57, ↓eb116_121, ↓eb116_142, ↓tf_0, ↓tp_0, ↓tz_0, ↓ty_0, ↓tzl_0, ↓tyl_0, ↓tv_0, ↓tf_1, ↓tp_1, ↓tz_1, ↓ty_1, ↓tzl_1, ↓tyl_1, ↓tv_1, ↓ta_2, ↓tb_2, ↓ts_2, ↓tl_2, ↓ta_3, ↓tb_3, ↓ts_3, ↓tl_3, ↓tf_4, ↓tp_4, ↓tz_4, ↓ty_4, ↓tzl_4, ↓tyl_4, ↓tv_4, ↓ta_5, ↓tb_5, ↓ts_5, ↓tl_5, ↓tf_6, ↓tp_6, ↓tz_6, ↓ty_6, ↓tzl_6, ↓tyl_6, ↓tv_6, ↓ta_7, ↓tb_7, ↓ts_7, ↓tl_7, ↓ta_8, ↓tb_8, ↓ts_8, ↓tl_8, ↓tf_9, ↓tp_9, ↓tz_9, ↓ty_9, ↓tzl_9, ↓tyl_9, ↓tv_9, ↓ta_10, ↓tb_10, ↓ts_10, ↓tl_10, ↓ta_11, ↓tb_11, ↓ts_11, ↓tl_11, ↓tf_12, ↓tp_12, ↓tz_12, ↓ty_12, ↓tzl_12, ↓tyl_12, ↓tv_12, ↓tf_13, ↓tp_13, ↓tz_13, ↓ty_13, ↓tzl_13, ↓tyl_13, ↓tv_13, ↓ta_14, ↓tb_14, ↓ts_14, ↓tl_14, ↓tf_15, ↓tp_15, ↓tz_15, ↓ty_15, ↓tzl_15, ↓tyl_15, ↓tv_15, ↓ta_16, ↓tb_16, ↓ts_16, ↓tl_16, ↓ta_17, ↓tb_17, ↓ts_17, ↓tl_17, ↓ta_19, ↓tb_19, ↓ts_19, ↓tl_19, ↓tf_44, ↓tp_44, ↓tz_44, ↓ty_44, ↓tzl_44, ↓tyl_44, ↓tv_44, ↓ta_45, ↓tb_45, ↓ts_45, ↓tl_45, ↓ta_46, ↓tb_46, ↓ts_46, ↓tl_46, ↓ta_47, ↓tb_47, ↓ts_47, ↓tl_47, ↓ta_18, ↓tr_0_0, ↓tr_0_1, ↓tr_0_2, ↓tr_0_3, ↓tr_0_4, ↓tr_1_0, ↓tr_1_1, ↓tr_4_0, ↓tr_6_0, ↓tr_6_1, ↓tr_9_6, ↓tr_9_7, ↓tr_12_0, ↓tr_12_1, ↓tr_12_2, ↓tr_12_3, ↓tr_12_4, ↓tr_13_0, ↓tr_13_1, ↓tr_13_2, ↓tr_15_6, ↓tr_15_7, ↓tr_44_0, ↓tr_44_1, ↓tr_44_2, ↓tr_44_3, ↓tr_0_5, ↓tr_0_6, ↓tr_0_7, ↓tr_0_8, ↓tr_12_5, ↓tu_12_5, ↓tr_13_3, ↓tu_13_3, ↓tr_13_4, ↓tu_13_4, ↓tr_13_5, ↓tu_13_5, ↓tr_44_4, ↓tu_44_4, ↓tr_44_5, ↓tu_44_5, ↓tr_44_6, ↓tu_44_6, ↓tu_0_5, ↓tu_0_6, ↓tu_0_7, ↓tu_0_8, ↓tfP, ↓tpP, ↓tvP, ↓trP_7, ↓trP_8, ↓trP_9, ↓trP_10, ↓trP_11, ↓trP_12, ↓trP_13, ↓trP_14, ↓taP_1, ↓taP_2, ↓taP_3, ↓taP_4, ↓taP_5, ↓taP_6, ↓taP_7, ↓taP_8, ↓tsP_1, ↓tsP_2, ↓tsP_3, ↓tsP_4, ↓tsP_5, ↓tsP_6, ↓tsP_7, ↓tsP_8, ↓tlP_7, ↓tlP_8, ↓tfS, ↓tpS, ↓tvS, ↓trS, ↓taS, ↓tsS, ↓tfT, ↓tzT, ↓tyT, ↓tzlT, ↓tylT, ↓trT_0, ↓trT_1, ↓taT_1, ↓taT_2, ↓tsT_1, ↓tsT_2, ↓tlT_2, ↓reduceIte, ↓bd_ite, ↓Option.bind_some, Option.toList_some, Option.toList_none, List.cons_append, List.nil_append, ↓tz0, ↓tz1, ↓st_z0, ↓st_z1, ↓t_is, ↓t_dv, ↓t_rm, st_us, st_uk, st_uo, nI_add, pk_mul, Nat.reduceAdd, Nat.reduceSub, Nat.reduceMul, pk_sub, nI_leI, nI_ltI, nI_eq, nn_leT, nn_leF, nn_ltT, nn_ltF, nn_eqT, nn_eqF, nm1, k_0, k_1, k_2, k_3, k_4, k_5, k_6, k_7, k_8, k_9, k_10, k_12, k_13, k_15, k_16, k_17, k_20, k_24, k_32, k_36, k_40, k_60, k_63, k_64, k_128, k_192, k_194, k_195, k_196, k_208, k_215, k_216, k_217, k_218, k_219, k_221, k_224, k_239, k_240, k_254, k_255, k_256, k_273, k_309, k_936, k_1600, k_2000, k_2304, k_4800, k_5980, k_6000, k_6912, k_12000, k_16383, k_32767, k_32768, k_65474, k_65475, k_65476, k_65496, k_65497, k_65498, k_65501, k_65535, k_65536, hp1, hp2, h5, hl, cell_X, store_X]
end
