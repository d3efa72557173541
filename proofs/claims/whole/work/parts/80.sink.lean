/-! ===== the bytes that are written: class's Sink, reference's puts and bit ===== -/
/-- bytes come behind the first W -/
def AP (W : Nat) (L : List Int32) (x x' : Nat → Int32) : Prop := (∀ i u, L[i]? = some u → W + i < 12000 → x' (W + i) = u) ∧ ∀ j, j < W ∨ W + L.length ≤ j → x' j = x j
theorem AP_nil (W : Nat) (x : Nat → Int32) : AP W [] x x := ⟨fun i u h => by simp at h, fun _ _ => rfl⟩
theorem AP_app {W : Nat} {L L' : List Int32} {x y x' : Nat → Int32} (h : AP W L x y) (g : AP (W + L.length) L' y x') : AP W (L ++ L') x x' := by
  refine ⟨fun i u hi hlt => ?_, fun j hj => ?_⟩
  · rw [List.getElem?_append] at hi
    by_cases hl : i < L.length
    · rw [if_pos hl] at hi
      rw [g.2 (W + i) (by omega)]
      exact h.1 i u hi hlt
    · rw [if_neg hl] at hi
      have := g.1 (i - L.length) u hi (by omega)
      rw [show W + L.length + (i - L.length) = W + i by omega] at this
      exact this
  · rw [List.length_append] at hj
    rw [g.2 j (by omega), h.2 j (by omega)]
/-- all of them bytes -/
def LB (L : List Int32) : Prop := ∀ u, u ∈ L → iv_b u
theorem LB_app {L L' : List Int32} (h : LB L) (g : LB L') : LB (L ++ L') := fun u hu => by
  rcases List.mem_append.1 hu with e | e
  · exact h u e
  · exact g u e
/-- the bytes here and there -/
def BT (W : Nat) (x m : Nat → Int32) : Prop := ∀ j, j < W → j < 12000 → x j = m j ∧ iv_b (x j)
theorem BT_app {W : Nat} {L : List Int32} {x x' m m' : Nat → Int32} (h : BT W x m) (hL : LB L) (f : AP W L x x') (g : AP W L m m') : BT (W + L.length) x' m' := fun j h1 h2 => by
  by_cases hj : j < W
  · rw [f.2 j (Or.inl hj), g.2 j (Or.inl hj)]
    exact h j hj h2
  · obtain ⟨u, hu⟩ : ∃ u, L[j - W]? = some u := ⟨L[j - W]'(by omega), List.getElem?_eq_getElem (by omega)⟩
    have a1 := f.1 (j - W) u hu (by omega)
    have a2 := g.1 (j - W) u hu (by omega)
    rw [show W + (j - W) = j by omega] at a1 a2
    rw [a1, a2]
    exact ⟨rfl, hL u (List.mem_of_getElem? hu)⟩
/-- a byte of data; behind 255 comes a 0 -/
def by1 (k : Nat) : List Int32 := if k = 255 then [u8 (nI 255), u8 (nI 0)] else [u8 (nI k)]
theorem by1_b (k : Nat) : LB (by1 k) := fun u hu => by
  unfold by1 at hu
  split at hu
  · simp only [List.mem_cons, List.not_mem_nil, or_false] at hu
    rcases hu with rfl | rfl <;> exact u8_b _
  · simp only [List.mem_cons, List.not_mem_nil, or_false] at hu
    subst hu
    exact u8_b _
theorem by1_l (k : Nat) : (by1 k).length ≤ 2 := by
  unfold by1
  split <;> simp
def em (K F : Nat) : List Int32 := if F < 8 then [] else if F < 16 then by1 (K / 2 ^ (F - 8) % 256) else by1 (K / 2 ^ (F - 8) % 256) ++ by1 (K / 2 ^ (F - 16) % 256)
theorem em_b (K F : Nat) : LB (em K F) := by
  unfold em
  split
  · intro u hu
    simp at hu
  · split
    · exact by1_b _
    · exact LB_app (by1_b _) (by1_b _)
theorem em_l (K F : Nat) : (em K F).length ≤ 4 := by
  unfold em
  split
  · simp
  · split
    · have := by1_l (K / 2 ^ (F - 8) % 256)
      omega
    · have h1 := by1_l (K / 2 ^ (F - 8) % 256)
      have h2 := by1_l (K / 2 ^ (F - 16) % 256)
      rw [List.length_append]
      omega
/-- one byte is full: what comes first, and the rest -/
theorem em_7 {H1 r n : Nat} (h1 : H1 < 256) (hn : n ≤ 15) (hr : r < 2 ^ n) : by1 H1 ++ em r n = em (H1 * 2 ^ n + r) (8 + n) ∧ r % 2 ^ (n % 8) = (H1 * 2 ^ n + r) % 2 ^ ((8 + n) % 8) := by
  have hp : 0 < 2 ^ n := Nat.pow_pos (by decide)
  have e8 : (8 + n) % 8 = n % 8 := by omega
  refine ⟨?_, ?_⟩
  · have ek : (H1 * 2 ^ n + r) / 2 ^ n % 256 = H1 := by
      rw [Nat.mul_comm, Nat.mul_add_div hp, Nat.div_eq_of_lt hr, Nat.add_zero, Nat.mod_eq_of_lt h1]
    unfold em
    rw [if_neg (show ¬ 8 + n < 8 by omega), show 8 + n - 8 = n by omega, ek]
    by_cases h8 : n < 8
    · rw [if_pos h8, if_pos (by omega), List.append_nil]
    · rw [if_neg h8, if_pos (show n < 16 by omega), if_neg (show ¬ 8 + n < 16 by omega), show 8 + n - 16 = n - 8 by omega]
      congr 2
      have e2 : 2 ^ n = 2 ^ (n - 8) * 256 := by
        rw [show (256 : Nat) = 2 ^ 8 from rfl, ← Nat.pow_add, show n - 8 + 8 = n by omega]
      have hp8 : 0 < 2 ^ (n - 8) := Nat.pow_pos (by decide)
      rw [e2, Nat.mul_comm H1, Nat.mul_assoc, Nat.mul_add_div hp8, Nat.mul_comm 256 H1, Nat.add_comm, Nat.add_mul_mod_self_right]
  · rw [e8]
    have e2 : 2 ^ n = 2 ^ (n % 8) * 2 ^ (n - n % 8) := by
      rw [← Nat.pow_add, show n % 8 + (n - n % 8) = n by omega]
    rw [e2, Nat.mul_left_comm, Nat.add_comm, Nat.add_mul_mod_self_left]
section
variable (z a b w v : Nat) (p : Nat → Option Nat)
def fS (q : Nat) (X X' : Nat → Nat → Int32) : Prop := (∀ r, r ≠ q → r ≠ q + 1 → X' r = X r) ∧ ∀ j, j ≠ 1 → X' q j = X q j
def fP (M M' : Nat → Nat → Int32) : Prop := (∀ r, r ≠ 70 → r ≠ 87 → M' r = M r) ∧ ∀ j, j ≠ 40 → M' 70 j = M 70 j
theorem put_X {q W : Nat} {X : Nat → Nat → Int32} (hq : q = 66 ∨ q = 68) (hW : W < 2 ^ 30) (h1 : X q 1 = nI W) (u : Int32) : ∃ X' : Nat → Nat → Int32, (∀ d M, mm_ev pg_mt (d + 1) 77 [.ref q, .int u] (st_h z X M (st_R a b w v p)) = some (none, (st_h z (X') M (st_R a b w v p)))) ∧ X' q 1 = nI (W + 1) ∧ AP W [u8 u] (X (q + 1)) (X' (q + 1)) ∧ fS q X X' := by
  have h2 : u.toInt8.toInt32.toInt8.toInt32 = u8 u := by_2 u
  by_cases hl : W < 12000
  · refine ⟨st_u (st_u X (q + 1) W (u8 u)) q 1 (nI (W + 1)), fun d M => ?_, st_us _ _ _ _, ⟨fun i x hi _ => ?_, fun j hj => ?_⟩, fun r h3 h4 => ?_, fun j hj => ?_⟩
    · simp (disch := omega) only [↓en77, ↓eb77_0, ↓eb77_28, ↓tf_0, ↓tp_0, ↓tz_0, ↓ty_0, ↓tzl_0, ↓tyl_0, ↓tv_0, ↓tf_1, ↓tp_1, ↓tz_1, ↓ty_1, ↓tzl_1, ↓tyl_1, ↓tv_1, ↓ta_2, ↓tb_2, ↓ts_2, ↓tl_2, ↓ta_3, ↓tb_3, ↓ts_3, ↓tl_3, ↓tf_4, ↓tp_4, ↓tz_4, ↓ty_4, ↓tzl_4, ↓tyl_4, ↓tv_4, ↓ta_5, ↓tb_5, ↓ts_5, ↓tl_5, ↓tf_6, ↓tp_6, ↓tz_6, ↓ty_6, ↓tzl_6, ↓tyl_6, ↓tv_6, ↓ta_7, ↓tb_7, ↓ts_7, ↓tl_7, ↓ta_8, ↓tb_8, ↓ts_8, ↓tl_8, ↓tf_9, ↓tp_9, ↓tz_9, ↓ty_9, ↓tzl_9, ↓tyl_9, ↓tv_9, ↓ta_10, ↓tb_10, ↓ts_10, ↓tl_10, ↓ta_11, ↓tb_11, ↓ts_11, ↓tl_11, ↓tf_12, ↓tp_12, ↓tz_12, ↓ty_12, ↓tzl_12, ↓tyl_12, ↓tv_12, ↓tf_13, ↓tp_13, ↓tz_13, ↓ty_13, ↓tzl_13, ↓tyl_13, ↓tv_13, ↓ta_14, ↓tb_14, ↓ts_14, ↓tl_14, ↓tf_15, ↓tp_15, ↓tz_15, ↓ty_15, ↓tzl_15, ↓tyl_15, ↓tv_15, ↓ta_16, ↓tb_16, ↓ts_16, ↓tl_16, ↓ta_17, ↓tb_17, ↓ts_17, ↓tl_17, ↓ta_19, ↓tb_19, ↓ts_19, ↓tl_19, ↓tf_44, ↓tp_44, ↓tz_44, ↓ty_44, ↓tzl_44, ↓tyl_44, ↓tv_44, ↓ta_45, ↓tb_45, ↓ts_45, ↓tl_45, ↓ta_46, ↓tb_46, ↓ts_46, ↓tl_46, ↓ta_47, ↓tb_47, ↓ts_47, ↓tl_47, ↓ta_18, ↓tr_0_0, ↓tr_0_1, ↓tr_0_2, ↓tr_0_3, ↓tr_0_4, ↓tr_1_0, ↓tr_1_1, ↓tr_4_0, ↓tr_6_0, ↓tr_6_1, ↓tr_9_6, ↓tr_9_7, ↓tr_12_0, ↓tr_12_1, ↓tr_12_2, ↓tr_12_3, ↓tr_12_4, ↓tr_13_0, ↓tr_13_1, ↓tr_13_2, ↓tr_15_6, ↓tr_15_7, ↓tr_44_0, ↓tr_44_1, ↓tr_44_2, ↓tr_44_3, ↓tr_0_5, ↓tr_0_6, ↓tr_0_7, ↓tr_0_8, ↓tr_12_5, ↓tu_12_5, ↓tr_13_3, ↓tu_13_3, ↓tr_13_4, ↓tu_13_4, ↓tr_13_5, ↓tu_13_5, ↓tr_44_4, ↓tu_44_4, ↓tr_44_5, ↓tu_44_5, ↓tr_44_6, ↓tu_44_6, ↓tu_0_5, ↓tu_0_6, ↓tu_0_7, ↓tu_0_8, ↓tfP, ↓tpP, ↓tvP, ↓trP_7, ↓trP_8, ↓trP_9, ↓trP_10, ↓trP_11, ↓trP_12, ↓trP_13, ↓trP_14, ↓taP_1, ↓taP_2, ↓taP_3, ↓taP_4, ↓taP_5, ↓taP_6, ↓taP_7, ↓taP_8, ↓tsP_1, ↓tsP_2, ↓tsP_3, ↓tsP_4, ↓tsP_5, ↓tsP_6, ↓tsP_7, ↓tsP_8, ↓tlP_7, ↓tlP_8, ↓tfS, ↓tpS, ↓tvS, ↓trS, ↓taS, ↓tsS, ↓tfT, ↓tzT, ↓tyT, ↓tzlT, ↓tylT, ↓trT_0, ↓trT_1, ↓taT_1, ↓taT_2, ↓tsT_1, ↓tsT_2, ↓tlT_2, ↓reduceIte, ↓bd_ite, ↓Option.bind_some, Option.toList_some, Option.toList_none, List.cons_append, List.nil_append, ↓tz0, ↓tz1, ↓st_z0, ↓st_z1, ↓t_is, ↓t_dv, ↓t_rm, st_us, st_uk, st_uo, nI_add, pk_mul, Nat.reduceAdd, Nat.reduceSub, Nat.reduceMul, pk_sub, nI_leI, nI_ltI, nI_eq, nn_leT, nn_leF, nn_ltT, nn_ltF, nn_eqT, nn_eqF, nm1, k_0, k_1, k_2, k_3, k_4, k_5, k_6, k_7, k_8, k_9, k_10, k_12, k_13, k_15, k_16, k_17, k_20, k_24, k_32, k_36, k_40, k_60, k_63, k_64, k_128, k_192, k_194, k_195, k_196, k_208, k_215, k_216, k_217, k_218, k_219, k_221, k_224, k_239, k_240, k_254, k_255, k_256, k_273, k_309, k_936, k_1600, k_2000, k_2304, k_4800, k_5980, k_6000, k_6912, k_12000, k_16383, k_32767, k_32768, k_65474, k_65475, k_65476, k_65496, k_65497, k_65498, k_65501, k_65535, k_65536, h1, h2]
    · cases i with
      | zero =>
        simp only [List.getElem?_cons_zero, Option.some.injEq] at hi
        rw [st_uo _ _ _ _ _ (by omega), Nat.add_zero W, st_us, hi]
      | succ i => simp at hi
    · simp only [List.length_cons, List.length_nil] at hj
      rw [st_uo _ _ _ _ _ (by omega), st_uk _ _ _ _ _ (by omega)]
    · rw [st_uo _ _ _ _ _ h3, st_uo _ _ _ _ _ h4]
    · rw [st_uk _ _ _ _ _ hj, st_uo _ _ _ _ _ (by omega)]
  · refine ⟨st_u X q 1 (nI (W + 1)), fun d M => ?_, st_us _ _ _ _, ⟨fun i x hi h12 => absurd h12 (by omega), fun j hj => ?_⟩, fun r h3 h4 => ?_, fun j hj => ?_⟩
    · simp (disch := omega) only [↓en77, ↓eb77_0, ↓eb77_28, ↓tf_0, ↓tp_0, ↓tz_0, ↓ty_0, ↓tzl_0, ↓tyl_0, ↓tv_0, ↓tf_1, ↓tp_1, ↓tz_1, ↓ty_1, ↓tzl_1, ↓tyl_1, ↓tv_1, ↓ta_2, ↓tb_2, ↓ts_2, ↓tl_2, ↓ta_3, ↓tb_3, ↓ts_3, ↓tl_3, ↓tf_4, ↓tp_4, ↓tz_4, ↓ty_4, ↓tzl_4, ↓tyl_4, ↓tv_4, ↓ta_5, ↓tb_5, ↓ts_5, ↓tl_5, ↓tf_6, ↓tp_6, ↓tz_6, ↓ty_6, ↓tzl_6, ↓tyl_6, ↓tv_6, ↓ta_7, ↓tb_7, ↓ts_7, ↓tl_7, ↓ta_8, ↓tb_8, ↓ts_8, ↓tl_8, ↓tf_9, ↓tp_9, ↓tz_9, ↓ty_9, ↓tzl_9, ↓tyl_9, ↓tv_9, ↓ta_10, ↓tb_10, ↓ts_10, ↓tl_10, ↓ta_11, ↓tb_11, ↓ts_11, ↓tl_11, ↓tf_12, ↓tp_12, ↓tz_12, ↓ty_12, ↓tzl_12, ↓tyl_12, ↓tv_12, ↓tf_13, ↓tp_13, ↓tz_13, ↓ty_13, ↓tzl_13, ↓tyl_13, ↓tv_13, ↓ta_14, ↓tb_14, ↓ts_14, ↓tl_14, ↓tf_15, ↓tp_15, ↓tz_15, ↓ty_15, ↓tzl_15, ↓tyl_15, ↓tv_15, ↓ta_16, ↓tb_16, ↓ts_16, ↓tl_16, ↓ta_17, ↓tb_17, ↓ts_17, ↓tl_17, ↓ta_19, ↓tb_19, ↓ts_19, ↓tl_19, ↓tf_44, ↓tp_44, ↓tz_44, ↓ty_44, ↓tzl_44, ↓tyl_44, ↓tv_44, ↓ta_45, ↓tb_45, ↓ts_45, ↓tl_45, ↓ta_46, ↓tb_46, ↓ts_46, ↓tl_46, ↓ta_47, ↓tb_47, ↓ts_47, ↓tl_47, ↓ta_18, ↓tr_0_0, ↓tr_0_1, ↓tr_0_2, ↓tr_0_3, ↓tr_0_4, ↓tr_1_0, ↓tr_1_1, ↓tr_4_0, ↓tr_6_0, ↓tr_6_1, ↓tr_9_6, ↓tr_9_7, ↓tr_12_0, ↓tr_12_1, ↓tr_12_2, ↓tr_12_3, ↓tr_12_4, ↓tr_13_0, ↓tr_13_1, ↓tr_13_2, ↓tr_15_6, ↓tr_15_7, ↓tr_44_0, ↓tr_44_1, ↓tr_44_2, ↓tr_44_3, ↓tr_0_5, ↓tr_0_6, ↓tr_0_7, ↓tr_0_8, ↓tr_12_5, ↓tu_12_5, ↓tr_13_3, ↓tu_13_3, ↓tr_13_4, ↓tu_13_4, ↓tr_13_5, ↓tu_13_5, ↓tr_44_4, ↓tu_44_4, ↓tr_44_5, ↓tu_44_5, ↓tr_44_6, ↓tu_44_6, ↓tu_0_5, ↓tu_0_6, ↓tu_0_7, ↓tu_0_8, ↓tfP, ↓tpP, ↓tvP, ↓trP_7, ↓trP_8, ↓trP_9, ↓trP_10, ↓trP_11, ↓trP_12, ↓trP_13, ↓trP_14, ↓taP_1, ↓taP_2, ↓taP_3, ↓taP_4, ↓taP_5, ↓taP_6, ↓taP_7, ↓taP_8, ↓tsP_1, ↓tsP_2, ↓tsP_3, ↓tsP_4, ↓tsP_5, ↓tsP_6, ↓tsP_7, ↓tsP_8, ↓tlP_7, ↓tlP_8, ↓tfS, ↓tpS, ↓tvS, ↓trS, ↓taS, ↓tsS, ↓tfT, ↓tzT, ↓tyT, ↓tzlT, ↓tylT, ↓trT_0, ↓trT_1, ↓taT_1, ↓taT_2, ↓tsT_1, ↓tsT_2, ↓tlT_2, ↓reduceIte, ↓bd_ite, ↓Option.bind_some, Option.toList_some, Option.toList_none, List.cons_append, List.nil_append, ↓tz0, ↓tz1, ↓st_z0, ↓st_z1, ↓t_is, ↓t_dv, ↓t_rm, st_us, st_uk, st_uo, nI_add, pk_mul, Nat.reduceAdd, Nat.reduceSub, Nat.reduceMul, pk_sub, nI_leI, nI_ltI, nI_eq, nn_leT, nn_leF, nn_ltT, nn_ltF, nn_eqT, nn_eqF, nm1, k_0, k_1, k_2, k_3, k_4, k_5, k_6, k_7, k_8, k_9, k_10, k_12, k_13, k_15, k_16, k_17, k_20, k_24, k_32, k_36, k_40, k_60, k_63, k_64, k_128, k_192, k_194, k_195, k_196, k_208, k_215, k_216, k_217, k_218, k_219, k_221, k_224, k_239, k_240, k_254, k_255, k_256, k_273, k_309, k_936, k_1600, k_2000, k_2304, k_4800, k_5980, k_6000, k_6912, k_12000, k_16383, k_32767, k_32768, k_65474, k_65475, k_65476, k_65496, k_65497, k_65498, k_65501, k_65535, k_65536, h1]
    · rw [st_uo _ _ _ _ _ (by omega)]
    · rw [st_uo _ _ _ _ _ h3]
    · rw [st_uk _ _ _ _ _ hj]
theorem put_M {W : Nat} {M : Nat → Nat → Int32} (hW : W < 2 ^ 30) (h1 : M 70 40 = nI W) (u : Int32) : ∃ M' : Nat → Nat → Int32, (∀ d X a b w v p, mm_ev pg_mt (d + 1) 188 [.ref 70, .int u] (st_h z X M (st_R a b w v p)) = some (none, (st_h z X (M') (st_R a b w v p)))) ∧ M' 70 40 = nI (W + 1) ∧ AP W [u8 u] (M 87) (M' 87) ∧ fP M M' := by
  have h2 : u.toInt8.toInt32.toInt8.toInt32 = u8 u := by_2 u
  by_cases hl : W < 12000
  · refine ⟨st_u (st_u M 87 W (u8 u)) 70 40 (nI (W + 1)), fun d X a b w v p => ?_, st_us _ _ _ _, ⟨fun i x hi _ => ?_, fun j hj => ?_⟩, fun r h3 h4 => ?_, fun j hj => ?_⟩
    · simp (disch := omega) only [↓en188, ↓eb188_0, ↓eb188_21, ↓tf_70, ↓tp_70, ↓tz_70, ↓ty_70, ↓tzl_70, ↓tyl_70, ↓tv_70, ↓ta_71, ↓tb_71, ↓ts_71, ↓tl_71, ↓ta_72, ↓tb_72, ↓ts_72, ↓tl_72, ↓ta_73, ↓tb_73, ↓ts_73, ↓tl_73, ↓ta_74, ↓tb_74, ↓ts_74, ↓tl_74, ↓ta_75, ↓tb_75, ↓ts_75, ↓tl_75, ↓ta_76, ↓tb_76, ↓ts_76, ↓tl_76, ↓ta_77, ↓tb_77, ↓ts_77, ↓tl_77, ↓ta_78, ↓tb_78, ↓ts_78, ↓tl_78, ↓ta_79, ↓tb_79, ↓ts_79, ↓tl_79, ↓ta_80, ↓tb_80, ↓ts_80, ↓tl_80, ↓ta_81, ↓tb_81, ↓ts_81, ↓tl_81, ↓ta_82, ↓tb_82, ↓ts_82, ↓tl_82, ↓ta_83, ↓tb_83, ↓ts_83, ↓tl_83, ↓ta_84, ↓tb_84, ↓ts_84, ↓tl_84, ↓ta_85, ↓tb_85, ↓ts_85, ↓tl_85, ↓ta_86, ↓tb_86, ↓ts_86, ↓tl_86, ↓ta_87, ↓tb_87, ↓ts_87, ↓tl_87, ↓ta_88, ↓tb_88, ↓ts_88, ↓tl_88, ↓ta_89, ↓tb_89, ↓ts_89, ↓tl_89, ↓ta_90, ↓tb_90, ↓ts_90, ↓tl_90, ↓ta_91, ↓tb_91, ↓ts_91, ↓tl_91, ↓ta_92, ↓tb_92, ↓ts_92, ↓tl_92, ↓ta_93, ↓tb_93, ↓ts_93, ↓tl_93, ↓ta_94, ↓tb_94, ↓ts_94, ↓tl_94, ↓tr_70_1, ↓tr_70_3, ↓tr_70_5, ↓tr_70_6, ↓tr_70_7, ↓tr_70_8, ↓tr_70_9, ↓tr_70_10, ↓tr_70_11, ↓tr_70_12, ↓tr_70_13, ↓tr_70_14, ↓tr_70_15, ↓tr_70_17, ↓tr_70_19, ↓tr_70_29, ↓tr_70_41, ↓tr_70_44, ↓tr_70_45, ↓tr_70_46, ↓tr_70_47, ↓tr_70_49, ↓tr_70_51, ↓tr_70_53, ↓reduceIte, ↓bd_ite, ↓Option.bind_some, Option.toList_some, Option.toList_none, List.cons_append, List.nil_append, ↓tz0, ↓tz1, ↓st_z0, ↓st_z1, ↓t_is, ↓t_dv, ↓t_rm, st_us, st_uk, st_uo, nI_add, pk_mul, Nat.reduceAdd, Nat.reduceSub, Nat.reduceMul, pk_sub, nI_leI, nI_ltI, nI_eq, nn_leT, nn_leF, nn_ltT, nn_ltF, nn_eqT, nn_eqF, nm1, k_0, k_1, k_2, k_3, k_4, k_5, k_6, k_7, k_8, k_9, k_10, k_12, k_13, k_15, k_16, k_17, k_20, k_24, k_32, k_36, k_40, k_60, k_63, k_64, k_128, k_192, k_194, k_195, k_196, k_208, k_215, k_216, k_217, k_218, k_219, k_221, k_224, k_239, k_240, k_254, k_255, k_256, k_273, k_309, k_936, k_1600, k_2000, k_2304, k_4800, k_5980, k_6000, k_6912, k_12000, k_16383, k_32767, k_32768, k_65474, k_65475, k_65476, k_65496, k_65497, k_65498, k_65501, k_65535, k_65536, h1, h2]
    · cases i with
      | zero =>
        simp only [List.getElem?_cons_zero, Option.some.injEq] at hi
        rw [st_uo _ _ _ _ _ (by omega), Nat.add_zero W, st_us, hi]
      | succ i => simp at hi
    · simp only [List.length_cons, List.length_nil] at hj
      rw [st_uo _ _ _ _ _ (by omega), st_uk _ _ _ _ _ (by omega)]
    · rw [st_uo _ _ _ _ _ h3, st_uo _ _ _ _ _ h4]
    · rw [st_uk _ _ _ _ _ hj, st_uo _ _ _ _ _ (by omega)]
  · refine ⟨st_u M 70 40 (nI (W + 1)), fun d X a b w v p => ?_, st_us _ _ _ _, ⟨fun i x hi h12 => absurd h12 (by omega), fun j hj => ?_⟩, fun r h3 h4 => ?_, fun j hj => ?_⟩
    · simp (disch := omega) only [↓en188, ↓eb188_0, ↓eb188_21, ↓tf_70, ↓tp_70, ↓tz_70, ↓ty_70, ↓tzl_70, ↓tyl_70, ↓tv_70, ↓ta_71, ↓tb_71, ↓ts_71, ↓tl_71, ↓ta_72, ↓tb_72, ↓ts_72, ↓tl_72, ↓ta_73, ↓tb_73, ↓ts_73, ↓tl_73, ↓ta_74, ↓tb_74, ↓ts_74, ↓tl_74, ↓ta_75, ↓tb_75, ↓ts_75, ↓tl_75, ↓ta_76, ↓tb_76, ↓ts_76, ↓tl_76, ↓ta_77, ↓tb_77, ↓ts_77, ↓tl_77, ↓ta_78, ↓tb_78, ↓ts_78, ↓tl_78, ↓ta_79, ↓tb_79, ↓ts_79, ↓tl_79, ↓ta_80, ↓tb_80, ↓ts_80, ↓tl_80, ↓ta_81, ↓tb_81, ↓ts_81, ↓tl_81, ↓ta_82, ↓tb_82, ↓ts_82, ↓tl_82, ↓ta_83, ↓tb_83, ↓ts_83, ↓tl_83, ↓ta_84, ↓tb_84, ↓ts_84, ↓tl_84, ↓ta_85, ↓tb_85, ↓ts_85, ↓tl_85, ↓ta_86, ↓tb_86, ↓ts_86, ↓tl_86, ↓ta_87, ↓tb_87, ↓ts_87, ↓tl_87, ↓ta_88, ↓tb_88, ↓ts_88, ↓tl_88, ↓ta_89, ↓tb_89, ↓ts_89, ↓tl_89, ↓ta_90, ↓tb_90, ↓ts_90, ↓tl_90, ↓ta_91, ↓tb_91, ↓ts_91, ↓tl_91, ↓ta_92, ↓tb_92, ↓ts_92, ↓tl_92, ↓ta_93, ↓tb_93, ↓ts_93, ↓tl_93, ↓ta_94, ↓tb_94, ↓ts_94, ↓tl_94, ↓tr_70_1, ↓tr_70_3, ↓tr_70_5, ↓tr_70_6, ↓tr_70_7, ↓tr_70_8, ↓tr_70_9, ↓tr_70_10, ↓tr_70_11, ↓tr_70_12, ↓tr_70_13, ↓tr_70_14, ↓tr_70_15, ↓tr_70_17, ↓tr_70_19, ↓tr_70_29, ↓tr_70_41, ↓tr_70_44, ↓tr_70_45, ↓tr_70_46, ↓tr_70_47, ↓tr_70_49, ↓tr_70_51, ↓tr_70_53, ↓reduceIte, ↓bd_ite, ↓Option.bind_some, Option.toList_some, Option.toList_none, List.cons_append, List.nil_append, ↓tz0, ↓tz1, ↓st_z0, ↓st_z1, ↓t_is, ↓t_dv, ↓t_rm, st_us, st_uk, st_uo, nI_add, pk_mul, Nat.reduceAdd, Nat.reduceSub, Nat.reduceMul, pk_sub, nI_leI, nI_ltI, nI_eq, nn_leT, nn_leF, nn_ltT, nn_ltF, nn_eqT, nn_eqF, nm1, k_0, k_1, k_2, k_3, k_4, k_5, k_6, k_7, k_8, k_9, k_10, k_12, k_13, k_15, k_16, k_17, k_20, k_24, k_32, k_36, k_40, k_60, k_63, k_64, k_128, k_192, k_194, k_195, k_196, k_208, k_215, k_216, k_217, k_218, k_219, k_221, k_224, k_239, k_240, k_254, k_255, k_256, k_273, k_309, k_936, k_1600, k_2000, k_2304, k_4800, k_5980, k_6000, k_6912, k_12000, k_16383, k_32767, k_32768, k_65474, k_65475, k_65476, k_65496, k_65497, k_65498, k_65501, k_65535, k_65536, h1]
    · rw [st_uo _ _ _ _ _ (by omega)]
    · rw [st_uo _ _ _ _ _ h3]
    · rw [st_uk _ _ _ _ _ hj]
/-! the reference: a bit, bits -/
def fQ (M M' : Nat → Nat → Int32) : Prop := (∀ r, r ≠ 70 → r ≠ 87 → M' r = M r) ∧ ∀ j, j ≠ 40 → j ≠ 42 → j ≠ 43 → M' 70 j = M 70 j
theorem fQ_r (M : Nat → Nat → Int32) : fQ M M := ⟨fun _ _ _ => rfl, fun _ _ _ _ => rfl⟩
theorem fQ_t {M N M' : Nat → Nat → Int32} (h : fQ M N) (g : fQ N M') : fQ M M' := ⟨fun r a b => (g.1 r a b).trans (h.1 r a b), fun j a b c => (g.2 j a b c).trans (h.2 j a b c)⟩
theorem fQ_P {M M' : Nat → Nat → Int32} (h : fP M M') : fQ M M' := ⟨h.1, fun j a _ _ => h.2 j a⟩
theorem fQ_s {M N : Nat → Nat → Int32} (h : fQ M N) {k : Nat} (hk : k = 42 ∨ k = 43) (u : Int32) : fQ M (st_u N 70 k u) := ⟨fun r a b => (st_uo _ _ _ _ _ a).trans (h.1 r a b), fun j a b c => (st_uk _ _ _ _ _ (by omega)).trans (h.2 j a b c)⟩
/-- the reference's state of writing -/
def SM (W H f : Nat) (M : Nat → Nat → Int32) : Prop := M 70 40 = nI W ∧ M 70 42 = nI H ∧ M 70 43 = nI f ∧ f < 8 ∧ H < 2 ^ f
theorem bit_M {W H f t : Nat} {M : Nat → Nat → Int32} (hW : W < 2 ^ 29) (h : SM W H f M) (ht : t < 2) : ∃ M' : Nat → Nat → Int32, (∀ d X a b w v p, mm_ev pg_mt (d + 2) 189 [.ref 70, .int (nI t)] (st_h z X M (st_R a b w v p)) = some (none, (st_h z X (M') (st_R a b w v p)))) ∧ fQ M M' ∧ ((f < 7 ∧ SM W (2 * H + t) (f + 1) M' ∧ M' 87 = M 87) ∨ (f = 7 ∧ 2 * H + t < 256 ∧ SM (W + (by1 (2 * H + t)).length) 0 0 M' ∧ AP W (by1 (2 * H + t)) (M 87) (M' 87))) := by
  obtain ⟨h40, h42, h43, hf, hH⟩ := h
  have hH7 : H < 2 ^ 7 := Nat.lt_of_lt_of_le hH (Nat.pow_le_pow_right (by decide) (by omega))
  obtain ⟨M1, hM1⟩ : ∃ M1, M1 = st_u (st_u M 70 42 (nI (2 * H + t))) 70 43 (nI (f + 1)) := ⟨_, rfl⟩
  have g1 : fQ M M1 := by rw [hM1]; exact fQ_s (fQ_s (fQ_r M) (by omega) _) (by omega) _
  have k40 : M1 70 40 = nI W := by rw [hM1]; simp (disch := omega) only [↓reduceIte, ↓bd_ite, ↓Option.bind_some, Option.toList_some, Option.toList_none, List.cons_append, List.nil_append, ↓tz0, ↓tz1, ↓st_z0, ↓st_z1, ↓t_is, ↓t_dv, ↓t_rm, st_us, st_uk, st_uo, nI_add, pk_mul, Nat.reduceAdd, Nat.reduceSub, Nat.reduceMul, pk_sub, nI_leI, nI_ltI, nI_eq, nn_leT, nn_leF, nn_ltT, nn_ltF, nn_eqT, nn_eqF, nm1, k_0, k_1, k_2, k_3, k_4, k_5, k_6, k_7, k_8, k_9, k_10, k_12, k_13, k_15, k_16, k_17, k_20, k_24, k_32, k_36, k_40, k_60, k_63, k_64, k_128, k_192, k_194, k_195, k_196, k_208, k_215, k_216, k_217, k_218, k_219, k_221, k_224, k_239, k_240, k_254, k_255, k_256, k_273, k_309, k_936, k_1600, k_2000, k_2304, k_4800, k_5980, k_6000, k_6912, k_12000, k_16383, k_32767, k_32768, k_65474, k_65475, k_65476, k_65496, k_65497, k_65498, k_65501, k_65535, k_65536, h40]
  have k42 : M1 70 42 = nI (2 * H + t) := by rw [hM1]; simp (disch := omega) only [↓reduceIte, ↓bd_ite, ↓Option.bind_some, Option.toList_some, Option.toList_none, List.cons_append, List.nil_append, ↓tz0, ↓tz1, ↓st_z0, ↓st_z1, ↓t_is, ↓t_dv, ↓t_rm, st_us, st_uk, st_uo, nI_add, pk_mul, Nat.reduceAdd, Nat.reduceSub, Nat.reduceMul, pk_sub, nI_leI, nI_ltI, nI_eq, nn_leT, nn_leF, nn_ltT, nn_ltF, nn_eqT, nn_eqF, nm1, k_0, k_1, k_2, k_3, k_4, k_5, k_6, k_7, k_8, k_9, k_10, k_12, k_13, k_15, k_16, k_17, k_20, k_24, k_32, k_36, k_40, k_60, k_63, k_64, k_128, k_192, k_194, k_195, k_196, k_208, k_215, k_216, k_217, k_218, k_219, k_221, k_224, k_239, k_240, k_254, k_255, k_256, k_273, k_309, k_936, k_1600, k_2000, k_2304, k_4800, k_5980, k_6000, k_6912, k_12000, k_16383, k_32767, k_32768, k_65474, k_65475, k_65476, k_65496, k_65497, k_65498, k_65501, k_65535, k_65536]
  have k43 : M1 70 43 = nI (f + 1) := by rw [hM1]; simp (disch := omega) only [↓reduceIte, ↓bd_ite, ↓Option.bind_some, Option.toList_some, Option.toList_none, List.cons_append, List.nil_append, ↓tz0, ↓tz1, ↓st_z0, ↓st_z1, ↓t_is, ↓t_dv, ↓t_rm, st_us, st_uk, st_uo, nI_add, pk_mul, Nat.reduceAdd, Nat.reduceSub, Nat.reduceMul, pk_sub, nI_leI, nI_ltI, nI_eq, nn_leT, nn_leF, nn_ltT, nn_ltF, nn_eqT, nn_eqF, nm1, k_0, k_1, k_2, k_3, k_4, k_5, k_6, k_7, k_8, k_9, k_10, k_12, k_13, k_15, k_16, k_17, k_20, k_24, k_32, k_36, k_40, k_60, k_63, k_64, k_128, k_192, k_194, k_195, k_196, k_208, k_215, k_216, k_217, k_218, k_219, k_221, k_224, k_239, k_240, k_254, k_255, k_256, k_273, k_309, k_936, k_1600, k_2000, k_2304, k_4800, k_5980, k_6000, k_6912, k_12000, k_16383, k_32767, k_32768, k_65474, k_65475, k_65476, k_65496, k_65497, k_65498, k_65501, k_65535, k_65536]
  have k87 : M1 87 = M 87 := g1.1 87 (by decide) |> fun _ => by rw [hM1]; simp (disch := omega) only [↓reduceIte, ↓bd_ite, ↓Option.bind_some, Option.toList_some, Option.toList_none, List.cons_append, List.nil_append, ↓tz0, ↓tz1, ↓st_z0, ↓st_z1, ↓t_is, ↓t_dv, ↓t_rm, st_us, st_uk, st_uo, nI_add, pk_mul, Nat.reduceAdd, Nat.reduceSub, Nat.reduceMul, pk_sub, nI_leI, nI_ltI, nI_eq, nn_leT, nn_leF, nn_ltT, nn_ltF, nn_eqT, nn_eqF, nm1, k_0, k_1, k_2, k_3, k_4, k_5, k_6, k_7, k_8, k_9, k_10, k_12, k_13, k_15, k_16, k_17, k_20, k_24, k_32, k_36, k_40, k_60, k_63, k_64, k_128, k_192, k_194, k_195, k_196, k_208, k_215, k_216, k_217, k_218, k_219, k_221, k_224, k_239, k_240, k_254, k_255, k_256, k_273, k_309, k_936, k_1600, k_2000, k_2304, k_4800, k_5980, k_6000, k_6912, k_12000, k_16383, k_32767, k_32768, k_65474, k_65475, k_65476, k_65496, k_65497, k_65498, k_65501, k_65535, k_65536]
  have st : ∀ d X a b w v p, mm_ev pg_mt (d + 2) 189 [.ref 70, .int (nI t)] (st_h z X M (st_R a b w v p)) = if 8 ≤ f + 1 then (mm_ev pg_mt (d + 1) 188 [.ref 70, .int (nI (2 * H + t))] (st_h z X M1 (st_R a b w v p))).bind (fun u => mm_rx (mm_ev pg_mt (d + 1)) pg_c189 (40, [.ref 70, .int (nI t)], u.1.toList ++ [], u.2)) else some (none, st_h z X M1 (st_R a b w v p)) := fun d X a b w v p => by
    rw [hM1]
    by_cases h8 : 8 ≤ f + 1
    · rw [if_pos h8]
      simp (disch := omega) only [↓en189, ↓eb189_0, ↓tf_70, ↓tp_70, ↓tz_70, ↓ty_70, ↓tzl_70, ↓tyl_70, ↓tv_70, ↓ta_71, ↓tb_71, ↓ts_71, ↓tl_71, ↓ta_72, ↓tb_72, ↓ts_72, ↓tl_72, ↓ta_73, ↓tb_73, ↓ts_73, ↓tl_73, ↓ta_74, ↓tb_74, ↓ts_74, ↓tl_74, ↓ta_75, ↓tb_75, ↓ts_75, ↓tl_75, ↓ta_76, ↓tb_76, ↓ts_76, ↓tl_76, ↓ta_77, ↓tb_77, ↓ts_77, ↓tl_77, ↓ta_78, ↓tb_78, ↓ts_78, ↓tl_78, ↓ta_79, ↓tb_79, ↓ts_79, ↓tl_79, ↓ta_80, ↓tb_80, ↓ts_80, ↓tl_80, ↓ta_81, ↓tb_81, ↓ts_81, ↓tl_81, ↓ta_82, ↓tb_82, ↓ts_82, ↓tl_82, ↓ta_83, ↓tb_83, ↓ts_83, ↓tl_83, ↓ta_84, ↓tb_84, ↓ts_84, ↓tl_84, ↓ta_85, ↓tb_85, ↓ts_85, ↓tl_85, ↓ta_86, ↓tb_86, ↓ts_86, ↓tl_86, ↓ta_87, ↓tb_87, ↓ts_87, ↓tl_87, ↓ta_88, ↓tb_88, ↓ts_88, ↓tl_88, ↓ta_89, ↓tb_89, ↓ts_89, ↓tl_89, ↓ta_90, ↓tb_90, ↓ts_90, ↓tl_90, ↓ta_91, ↓tb_91, ↓ts_91, ↓tl_91, ↓ta_92, ↓tb_92, ↓ts_92, ↓tl_92, ↓ta_93, ↓tb_93, ↓ts_93, ↓tl_93, ↓ta_94, ↓tb_94, ↓ts_94, ↓tl_94, ↓tr_70_1, ↓tr_70_3, ↓tr_70_5, ↓tr_70_6, ↓tr_70_7, ↓tr_70_8, ↓tr_70_9, ↓tr_70_10, ↓tr_70_11, ↓tr_70_12, ↓tr_70_13, ↓tr_70_14, ↓tr_70_15, ↓tr_70_17, ↓tr_70_19, ↓tr_70_29, ↓tr_70_41, ↓tr_70_44, ↓tr_70_45, ↓tr_70_46, ↓tr_70_47, ↓tr_70_49, ↓tr_70_51, ↓tr_70_53, ↓reduceIte, ↓bd_ite, ↓Option.bind_some, Option.toList_some, Option.toList_none, List.cons_append, List.nil_append, ↓tz0, ↓tz1, ↓st_z0, ↓st_z1, ↓t_is, ↓t_dv, ↓t_rm, st_us, st_uk, st_uo, nI_add, pk_mul, Nat.reduceAdd, Nat.reduceSub, Nat.reduceMul, pk_sub, nI_leI, nI_ltI, nI_eq, nn_leT, nn_leF, nn_ltT, nn_ltF, nn_eqT, nn_eqF, nm1, k_0, k_1, k_2, k_3, k_4, k_5, k_6, k_7, k_8, k_9, k_10, k_12, k_13, k_15, k_16, k_17, k_20, k_24, k_32, k_36, k_40, k_60, k_63, k_64, k_128, k_192, k_194, k_195, k_196, k_208, k_215, k_216, k_217, k_218, k_219, k_221, k_224, k_239, k_240, k_254, k_255, k_256, k_273, k_309, k_936, k_1600, k_2000, k_2304, k_4800, k_5980, k_6000, k_6912, k_12000, k_16383, k_32767, k_32768, k_65474, k_65475, k_65476, k_65496, k_65497, k_65498, k_65501, k_65535, k_65536, h42, h43]
    · rw [if_neg h8]
      simp (disch := omega) only [↓en189, ↓eb189_0, ↓tf_70, ↓tp_70, ↓tz_70, ↓ty_70, ↓tzl_70, ↓tyl_70, ↓tv_70, ↓ta_71, ↓tb_71, ↓ts_71, ↓tl_71, ↓ta_72, ↓tb_72, ↓ts_72, ↓tl_72, ↓ta_73, ↓tb_73, ↓ts_73, ↓tl_73, ↓ta_74, ↓tb_74, ↓ts_74, ↓tl_74, ↓ta_75, ↓tb_75, ↓ts_75, ↓tl_75, ↓ta_76, ↓tb_76, ↓ts_76, ↓tl_76, ↓ta_77, ↓tb_77, ↓ts_77, ↓tl_77, ↓ta_78, ↓tb_78, ↓ts_78, ↓tl_78, ↓ta_79, ↓tb_79, ↓ts_79, ↓tl_79, ↓ta_80, ↓tb_80, ↓ts_80, ↓tl_80, ↓ta_81, ↓tb_81, ↓ts_81, ↓tl_81, ↓ta_82, ↓tb_82, ↓ts_82, ↓tl_82, ↓ta_83, ↓tb_83, ↓ts_83, ↓tl_83, ↓ta_84, ↓tb_84, ↓ts_84, ↓tl_84, ↓ta_85, ↓tb_85, ↓ts_85, ↓tl_85, ↓ta_86, ↓tb_86, ↓ts_86, ↓tl_86, ↓ta_87, ↓tb_87, ↓ts_87, ↓tl_87, ↓ta_88, ↓tb_88, ↓ts_88, ↓tl_88, ↓ta_89, ↓tb_89, ↓ts_89, ↓tl_89, ↓ta_90, ↓tb_90, ↓ts_90, ↓tl_90, ↓ta_91, ↓tb_91, ↓ts_91, ↓tl_91, ↓ta_92, ↓tb_92, ↓ts_92, ↓tl_92, ↓ta_93, ↓tb_93, ↓ts_93, ↓tl_93, ↓ta_94, ↓tb_94, ↓ts_94, ↓tl_94, ↓tr_70_1, ↓tr_70_3, ↓tr_70_5, ↓tr_70_6, ↓tr_70_7, ↓tr_70_8, ↓tr_70_9, ↓tr_70_10, ↓tr_70_11, ↓tr_70_12, ↓tr_70_13, ↓tr_70_14, ↓tr_70_15, ↓tr_70_17, ↓tr_70_19, ↓tr_70_29, ↓tr_70_41, ↓tr_70_44, ↓tr_70_45, ↓tr_70_46, ↓tr_70_47, ↓tr_70_49, ↓tr_70_51, ↓tr_70_53, ↓reduceIte, ↓bd_ite, ↓Option.bind_some, Option.toList_some, Option.toList_none, List.cons_append, List.nil_append, ↓tz0, ↓tz1, ↓st_z0, ↓st_z1, ↓t_is, ↓t_dv, ↓t_rm, st_us, st_uk, st_uo, nI_add, pk_mul, Nat.reduceAdd, Nat.reduceSub, Nat.reduceMul, pk_sub, nI_leI, nI_ltI, nI_eq, nn_leT, nn_leF, nn_ltT, nn_ltF, nn_eqT, nn_eqF, nm1, k_0, k_1, k_2, k_3, k_4, k_5, k_6, k_7, k_8, k_9, k_10, k_12, k_13, k_15, k_16, k_17, k_20, k_24, k_32, k_36, k_40, k_60, k_63, k_64, k_128, k_192, k_194, k_195, k_196, k_208, k_215, k_216, k_217, k_218, k_219, k_221, k_224, k_239, k_240, k_254, k_255, k_256, k_273, k_309, k_936, k_1600, k_2000, k_2304, k_4800, k_5980, k_6000, k_6912, k_12000, k_16383, k_32767, k_32768, k_65474, k_65475, k_65476, k_65496, k_65497, k_65498, k_65501, k_65535, k_65536, h42, h43]
  by_cases h7 : f < 7
  · refine ⟨M1, fun d X a b w v p => ?_, g1, Or.inl ⟨h7, ⟨k40, k42, k43, by omega, ?_⟩, k87⟩⟩
    · rw [st d X a b w v p, if_neg (by omega)]
    · rw [Nat.pow_succ]
      omega
  · have f7 : f = 7 := by omega
    subst f7
    have h256 : 2 * H + t < 256 := by omega
    obtain ⟨M2, i1, i2, i3, i4⟩ := put_M z (by omega) k40 (nI (2 * H + t))
    have n42 : M2 70 42 = nI (2 * H + t) := by rw [i4.2 42 (by decide)]; exact k42
    rw [k87] at i3
    by_cases h255 : 2 * H + t = 255
    · obtain ⟨M3, j1, j2, j3, j4⟩ := put_M z (show W + 1 < 2 ^ 30 by omega) i2 (nI 0)
      have eb : by1 (2 * H + t) = [u8 (nI 255)] ++ [u8 (nI 0)] := if_pos h255
      rw [h255] at i1 i3 n42 st
      refine ⟨st_u (st_u M3 70 42 (nI 0)) 70 43 (nI 0), fun d X a b w v p => ?_, fQ_s (fQ_s (fQ_t g1 (fQ_t (fQ_P i4) (fQ_P j4))) (by omega) _) (by omega) _, Or.inr ⟨rfl, h256, ⟨?_, by simp (disch := omega) only [↓reduceIte, ↓bd_ite, ↓Option.bind_some, Option.toList_some, Option.toList_none, List.cons_append, List.nil_append, ↓tz0, ↓tz1, ↓st_z0, ↓st_z1, ↓t_is, ↓t_dv, ↓t_rm, st_us, st_uk, st_uo, nI_add, pk_mul, Nat.reduceAdd, Nat.reduceSub, Nat.reduceMul, pk_sub, nI_leI, nI_ltI, nI_eq, nn_leT, nn_leF, nn_ltT, nn_ltF, nn_eqT, nn_eqF, nm1, k_0, k_1, k_2, k_3, k_4, k_5, k_6, k_7, k_8, k_9, k_10, k_12, k_13, k_15, k_16, k_17, k_20, k_24, k_32, k_36, k_40, k_60, k_63, k_64, k_128, k_192, k_194, k_195, k_196, k_208, k_215, k_216, k_217, k_218, k_219, k_221, k_224, k_239, k_240, k_254, k_255, k_256, k_273, k_309, k_936, k_1600, k_2000, k_2304, k_4800, k_5980, k_6000, k_6912, k_12000, k_16383, k_32767, k_32768, k_65474, k_65475, k_65476, k_65496, k_65497, k_65498, k_65501, k_65535, k_65536], by simp (disch := omega) only [↓reduceIte, ↓bd_ite, ↓Option.bind_some, Option.toList_some, Option.toList_none, List.cons_append, List.nil_append, ↓tz0, ↓tz1, ↓st_z0, ↓st_z1, ↓t_is, ↓t_dv, ↓t_rm, st_us, st_uk, st_uo, nI_add, pk_mul, Nat.reduceAdd, Nat.reduceSub, Nat.reduceMul, pk_sub, nI_leI, nI_ltI, nI_eq, nn_leT, nn_leF, nn_ltT, nn_ltF, nn_eqT, nn_eqF, nm1, k_0, k_1, k_2, k_3, k_4, k_5, k_6, k_7, k_8, k_9, k_10, k_12, k_13, k_15, k_16, k_17, k_20, k_24, k_32, k_36, k_40, k_60, k_63, k_64, k_128, k_192, k_194, k_195, k_196, k_208, k_215, k_216, k_217, k_218, k_219, k_221, k_224, k_239, k_240, k_254, k_255, k_256, k_273, k_309, k_936, k_1600, k_2000, k_2304, k_4800, k_5980, k_6000, k_6912, k_12000, k_16383, k_32767, k_32768, k_65474, k_65475, k_65476, k_65496, k_65497, k_65498, k_65501, k_65535, k_65536], by decide, by decide⟩, ?_⟩⟩
      · rw [st d X a b w v p, if_pos (by decide), i1 d X a b w v p]
        simp (disch := omega) only [↓tf_70, ↓tp_70, ↓tz_70, ↓ty_70, ↓tzl_70, ↓tyl_70, ↓tv_70, ↓ta_71, ↓tb_71, ↓ts_71, ↓tl_71, ↓ta_72, ↓tb_72, ↓ts_72, ↓tl_72, ↓ta_73, ↓tb_73, ↓ts_73, ↓tl_73, ↓ta_74, ↓tb_74, ↓ts_74, ↓tl_74, ↓ta_75, ↓tb_75, ↓ts_75, ↓tl_75, ↓ta_76, ↓tb_76, ↓ts_76, ↓tl_76, ↓ta_77, ↓tb_77, ↓ts_77, ↓tl_77, ↓ta_78, ↓tb_78, ↓ts_78, ↓tl_78, ↓ta_79, ↓tb_79, ↓ts_79, ↓tl_79, ↓ta_80, ↓tb_80, ↓ts_80, ↓tl_80, ↓ta_81, ↓tb_81, ↓ts_81, ↓tl_81, ↓ta_82, ↓tb_82, ↓ts_82, ↓tl_82, ↓ta_83, ↓tb_83, ↓ts_83, ↓tl_83, ↓ta_84, ↓tb_84, ↓ts_84, ↓tl_84, ↓ta_85, ↓tb_85, ↓ts_85, ↓tl_85, ↓ta_86, ↓tb_86, ↓ts_86, ↓tl_86, ↓ta_87, ↓tb_87, ↓ts_87, ↓tl_87, ↓ta_88, ↓tb_88, ↓ts_88, ↓tl_88, ↓ta_89, ↓tb_89, ↓ts_89, ↓tl_89, ↓ta_90, ↓tb_90, ↓ts_90, ↓tl_90, ↓ta_91, ↓tb_91, ↓ts_91, ↓tl_91, ↓ta_92, ↓tb_92, ↓ts_92, ↓tl_92, ↓ta_93, ↓tb_93, ↓ts_93, ↓tl_93, ↓ta_94, ↓tb_94, ↓ts_94, ↓tl_94, ↓tr_70_1, ↓tr_70_3, ↓tr_70_5, ↓tr_70_6, ↓tr_70_7, ↓tr_70_8, ↓tr_70_9, ↓tr_70_10, ↓tr_70_11, ↓tr_70_12, ↓tr_70_13, ↓tr_70_14, ↓tr_70_15, ↓tr_70_17, ↓tr_70_19, ↓tr_70_29, ↓tr_70_41, ↓tr_70_44, ↓tr_70_45, ↓tr_70_46, ↓tr_70_47, ↓tr_70_49, ↓tr_70_51, ↓tr_70_53, ↓reduceIte, ↓bd_ite, ↓Option.bind_some, Option.toList_some, Option.toList_none, List.cons_append, List.nil_append, ↓tz0, ↓tz1, ↓st_z0, ↓st_z1, ↓t_is, ↓t_dv, ↓t_rm, st_us, st_uk, st_uo, nI_add, pk_mul, Nat.reduceAdd, Nat.reduceSub, Nat.reduceMul, pk_sub, nI_leI, nI_ltI, nI_eq, nn_leT, nn_leF, nn_ltT, nn_ltF, nn_eqT, nn_eqF, nm1, k_0, k_1, k_2, k_3, k_4, k_5, k_6, k_7, k_8, k_9, k_10, k_12, k_13, k_15, k_16, k_17, k_20, k_24, k_32, k_36, k_40, k_60, k_63, k_64, k_128, k_192, k_194, k_195, k_196, k_208, k_215, k_216, k_217, k_218, k_219, k_221, k_224, k_239, k_240, k_254, k_255, k_256, k_273, k_309, k_936, k_1600, k_2000, k_2304, k_4800, k_5980, k_6000, k_6912, k_12000, k_16383, k_32767, k_32768, k_65474, k_65475, k_65476, k_65496, k_65497, k_65498, k_65501, k_65535, k_65536, n42, j1, ↓eb189_40, ↓eb189_55]
      · rw [eb]
        simp (disch := omega) only [↓reduceIte, ↓bd_ite, ↓Option.bind_some, Option.toList_some, Option.toList_none, List.cons_append, List.nil_append, ↓tz0, ↓tz1, ↓st_z0, ↓st_z1, ↓t_is, ↓t_dv, ↓t_rm, st_us, st_uk, st_uo, nI_add, pk_mul, Nat.reduceAdd, Nat.reduceSub, Nat.reduceMul, pk_sub, nI_leI, nI_ltI, nI_eq, nn_leT, nn_leF, nn_ltT, nn_ltF, nn_eqT, nn_eqF, nm1, k_0, k_1, k_2, k_3, k_4, k_5, k_6, k_7, k_8, k_9, k_10, k_12, k_13, k_15, k_16, k_17, k_20, k_24, k_32, k_36, k_40, k_60, k_63, k_64, k_128, k_192, k_194, k_195, k_196, k_208, k_215, k_216, k_217, k_218, k_219, k_221, k_224, k_239, k_240, k_254, k_255, k_256, k_273, k_309, k_936, k_1600, k_2000, k_2304, k_4800, k_5980, k_6000, k_6912, k_12000, k_16383, k_32767, k_32768, k_65474, k_65475, k_65476, k_65496, k_65497, k_65498, k_65501, k_65535, k_65536, j2]
        rfl
      · rw [eb, st_uo _ _ _ _ _ (by decide), st_uo _ _ _ _ _ (by decide)]
        exact AP_app i3 j3
    · have eb : by1 (2 * H + t) = [u8 (nI (2 * H + t))] := if_neg h255
      refine ⟨st_u (st_u M2 70 42 (nI 0)) 70 43 (nI 0), fun d X a b w v p => ?_, fQ_s (fQ_s (fQ_t g1 (fQ_P i4)) (by omega) _) (by omega) _, Or.inr ⟨rfl, h256, ⟨?_, by simp (disch := omega) only [↓reduceIte, ↓bd_ite, ↓Option.bind_some, Option.toList_some, Option.toList_none, List.cons_append, List.nil_append, ↓tz0, ↓tz1, ↓st_z0, ↓st_z1, ↓t_is, ↓t_dv, ↓t_rm, st_us, st_uk, st_uo, nI_add, pk_mul, Nat.reduceAdd, Nat.reduceSub, Nat.reduceMul, pk_sub, nI_leI, nI_ltI, nI_eq, nn_leT, nn_leF, nn_ltT, nn_ltF, nn_eqT, nn_eqF, nm1, k_0, k_1, k_2, k_3, k_4, k_5, k_6, k_7, k_8, k_9, k_10, k_12, k_13, k_15, k_16, k_17, k_20, k_24, k_32, k_36, k_40, k_60, k_63, k_64, k_128, k_192, k_194, k_195, k_196, k_208, k_215, k_216, k_217, k_218, k_219, k_221, k_224, k_239, k_240, k_254, k_255, k_256, k_273, k_309, k_936, k_1600, k_2000, k_2304, k_4800, k_5980, k_6000, k_6912, k_12000, k_16383, k_32767, k_32768, k_65474, k_65475, k_65476, k_65496, k_65497, k_65498, k_65501, k_65535, k_65536], by simp (disch := omega) only [↓reduceIte, ↓bd_ite, ↓Option.bind_some, Option.toList_some, Option.toList_none, List.cons_append, List.nil_append, ↓tz0, ↓tz1, ↓st_z0, ↓st_z1, ↓t_is, ↓t_dv, ↓t_rm, st_us, st_uk, st_uo, nI_add, pk_mul, Nat.reduceAdd, Nat.reduceSub, Nat.reduceMul, pk_sub, nI_leI, nI_ltI, nI_eq, nn_leT, nn_leF, nn_ltT, nn_ltF, nn_eqT, nn_eqF, nm1, k_0, k_1, k_2, k_3, k_4, k_5, k_6, k_7, k_8, k_9, k_10, k_12, k_13, k_15, k_16, k_17, k_20, k_24, k_32, k_36, k_40, k_60, k_63, k_64, k_128, k_192, k_194, k_195, k_196, k_208, k_215, k_216, k_217, k_218, k_219, k_221, k_224, k_239, k_240, k_254, k_255, k_256, k_273, k_309, k_936, k_1600, k_2000, k_2304, k_4800, k_5980, k_6000, k_6912, k_12000, k_16383, k_32767, k_32768, k_65474, k_65475, k_65476, k_65496, k_65497, k_65498, k_65501, k_65535, k_65536], by decide, by decide⟩, ?_⟩⟩
      · rw [st d X a b w v p, if_pos (by decide), i1 d X a b w v p]
        simp (disch := omega) only [↓tf_70, ↓tp_70, ↓tz_70, ↓ty_70, ↓tzl_70, ↓tyl_70, ↓tv_70, ↓ta_71, ↓tb_71, ↓ts_71, ↓tl_71, ↓ta_72, ↓tb_72, ↓ts_72, ↓tl_72, ↓ta_73, ↓tb_73, ↓ts_73, ↓tl_73, ↓ta_74, ↓tb_74, ↓ts_74, ↓tl_74, ↓ta_75, ↓tb_75, ↓ts_75, ↓tl_75, ↓ta_76, ↓tb_76, ↓ts_76, ↓tl_76, ↓ta_77, ↓tb_77, ↓ts_77, ↓tl_77, ↓ta_78, ↓tb_78, ↓ts_78, ↓tl_78, ↓ta_79, ↓tb_79, ↓ts_79, ↓tl_79, ↓ta_80, ↓tb_80, ↓ts_80, ↓tl_80, ↓ta_81, ↓tb_81, ↓ts_81, ↓tl_81, ↓ta_82, ↓tb_82, ↓ts_82, ↓tl_82, ↓ta_83, ↓tb_83, ↓ts_83, ↓tl_83, ↓ta_84, ↓tb_84, ↓ts_84, ↓tl_84, ↓ta_85, ↓tb_85, ↓ts_85, ↓tl_85, ↓ta_86, ↓tb_86, ↓ts_86, ↓tl_86, ↓ta_87, ↓tb_87, ↓ts_87, ↓tl_87, ↓ta_88, ↓tb_88, ↓ts_88, ↓tl_88, ↓ta_89, ↓tb_89, ↓ts_89, ↓tl_89, ↓ta_90, ↓tb_90, ↓ts_90, ↓tl_90, ↓ta_91, ↓tb_91, ↓ts_91, ↓tl_91, ↓ta_92, ↓tb_92, ↓ts_92, ↓tl_92, ↓ta_93, ↓tb_93, ↓ts_93, ↓tl_93, ↓ta_94, ↓tb_94, ↓ts_94, ↓tl_94, ↓tr_70_1, ↓tr_70_3, ↓tr_70_5, ↓tr_70_6, ↓tr_70_7, ↓tr_70_8, ↓tr_70_9, ↓tr_70_10, ↓tr_70_11, ↓tr_70_12, ↓tr_70_13, ↓tr_70_14, ↓tr_70_15, ↓tr_70_17, ↓tr_70_19, ↓tr_70_29, ↓tr_70_41, ↓tr_70_44, ↓tr_70_45, ↓tr_70_46, ↓tr_70_47, ↓tr_70_49, ↓tr_70_51, ↓tr_70_53, ↓reduceIte, ↓bd_ite, ↓Option.bind_some, Option.toList_some, Option.toList_none, List.cons_append, List.nil_append, ↓tz0, ↓tz1, ↓st_z0, ↓st_z1, ↓t_is, ↓t_dv, ↓t_rm, st_us, st_uk, st_uo, nI_add, pk_mul, Nat.reduceAdd, Nat.reduceSub, Nat.reduceMul, pk_sub, nI_leI, nI_ltI, nI_eq, nn_leT, nn_leF, nn_ltT, nn_ltF, nn_eqT, nn_eqF, nm1, k_0, k_1, k_2, k_3, k_4, k_5, k_6, k_7, k_8, k_9, k_10, k_12, k_13, k_15, k_16, k_17, k_20, k_24, k_32, k_36, k_40, k_60, k_63, k_64, k_128, k_192, k_194, k_195, k_196, k_208, k_215, k_216, k_217, k_218, k_219, k_221, k_224, k_239, k_240, k_254, k_255, k_256, k_273, k_309, k_936, k_1600, k_2000, k_2304, k_4800, k_5980, k_6000, k_6912, k_12000, k_16383, k_32767, k_32768, k_65474, k_65475, k_65476, k_65496, k_65497, k_65498, k_65501, k_65535, k_65536, n42, ↓eb189_40, ↓eb189_55]
      · rw [eb]
        simp (disch := omega) only [↓reduceIte, ↓bd_ite, ↓Option.bind_some, Option.toList_some, Option.toList_none, List.cons_append, List.nil_append, ↓tz0, ↓tz1, ↓st_z0, ↓st_z1, ↓t_is, ↓t_dv, ↓t_rm, st_us, st_uk, st_uo, nI_add, pk_mul, Nat.reduceAdd, Nat.reduceSub, Nat.reduceMul, pk_sub, nI_leI, nI_ltI, nI_eq, nn_leT, nn_leF, nn_ltT, nn_ltF, nn_eqT, nn_eqF, nm1, k_0, k_1, k_2, k_3, k_4, k_5, k_6, k_7, k_8, k_9, k_10, k_12, k_13, k_15, k_16, k_17, k_20, k_24, k_32, k_36, k_40, k_60, k_63, k_64, k_128, k_192, k_194, k_195, k_196, k_208, k_215, k_216, k_217, k_218, k_219, k_221, k_224, k_239, k_240, k_254, k_255, k_256, k_273, k_309, k_936, k_1600, k_2000, k_2304, k_4800, k_5980, k_6000, k_6912, k_12000, k_16383, k_32767, k_32768, k_65474, k_65475, k_65476, k_65496, k_65497, k_65498, k_65501, k_65535, k_65536, i2]
        rfl
      · rw [eb, st_uo _ _ _ _ _ (by decide), st_uo _ _ _ _ _ (by decide)]
        exact i3
theorem bits_lpM {j : Nat} {x : Int32} {N : Nat} (hN : N ≤ 16) (hj : j < 2 ^ N) (hx : x &&& nI (2 ^ N - 1) = nI j) (n0 : Int32) : ∀ (n W H f : Nat) (M : Nat → Nat → Int32), n ≤ N → W + 4 * n < 2 ^ 29 → SM W H f M → ∃ M' : Nat → Nat → Int32, (∀ d X a b w v p, mm_rx (mm_ev pg_mt (d + 2)) pg_c190 (4, [.ref 70, .int x, .int n0, .int (nI n - nI 1)], [], (st_h z X M (st_R a b w v p))) = some (none, (st_h z X (M') (st_R a b w v p)))) ∧ fQ M M' ∧ SM (W + (em (H * 2 ^ n + j % 2 ^ n) (f + n)).length) ((H * 2 ^ n + j % 2 ^ n) % 2 ^ ((f + n) % 8)) ((f + n) % 8) M' ∧ AP W (em (H * 2 ^ n + j % 2 ^ n) (f + n)) (M 87) (M' 87)
  | 0, W, H, f, M, hn, hW, h => by
    have e1 : H * 2 ^ 0 + j % 2 ^ 0 = H := by rw [Nat.pow_zero, Nat.mul_one, Nat.mod_one, Nat.add_zero]
    have hf := h.2.2.2.1
    have ee : em H (f + 0) = [] := if_pos hf
    have e3 : (f + 0) % 8 = f := by omega
    rw [e1, ee, e3, Nat.mod_eq_of_lt h.2.2.2.2]
    refine ⟨M, fun d X a b w v p => ?_, fQ_r M, h, AP_nil W _⟩
    have hl : nI 0 - nI 1 < nI 0 := by decide
    rw [eb190_4]
    simp (disch := omega) only [↓tf_70, ↓tp_70, ↓tz_70, ↓ty_70, ↓tzl_70, ↓tyl_70, ↓tv_70, ↓ta_71, ↓tb_71, ↓ts_71, ↓tl_71, ↓ta_72, ↓tb_72, ↓ts_72, ↓tl_72, ↓ta_73, ↓tb_73, ↓ts_73, ↓tl_73, ↓ta_74, ↓tb_74, ↓ts_74, ↓tl_74, ↓ta_75, ↓tb_75, ↓ts_75, ↓tl_75, ↓ta_76, ↓tb_76, ↓ts_76, ↓tl_76, ↓ta_77, ↓tb_77, ↓ts_77, ↓tl_77, ↓ta_78, ↓tb_78, ↓ts_78, ↓tl_78, ↓ta_79, ↓tb_79, ↓ts_79, ↓tl_79, ↓ta_80, ↓tb_80, ↓ts_80, ↓tl_80, ↓ta_81, ↓tb_81, ↓ts_81, ↓tl_81, ↓ta_82, ↓tb_82, ↓ts_82, ↓tl_82, ↓ta_83, ↓tb_83, ↓ts_83, ↓tl_83, ↓ta_84, ↓tb_84, ↓ts_84, ↓tl_84, ↓ta_85, ↓tb_85, ↓ts_85, ↓tl_85, ↓ta_86, ↓tb_86, ↓ts_86, ↓tl_86, ↓ta_87, ↓tb_87, ↓ts_87, ↓tl_87, ↓ta_88, ↓tb_88, ↓ts_88, ↓tl_88, ↓ta_89, ↓tb_89, ↓ts_89, ↓tl_89, ↓ta_90, ↓tb_90, ↓ts_90, ↓tl_90, ↓ta_91, ↓tb_91, ↓ts_91, ↓tl_91, ↓ta_92, ↓tb_92, ↓ts_92, ↓tl_92, ↓ta_93, ↓tb_93, ↓ts_93, ↓tl_93, ↓ta_94, ↓tb_94, ↓ts_94, ↓tl_94, ↓tr_70_1, ↓tr_70_3, ↓tr_70_5, ↓tr_70_6, ↓tr_70_7, ↓tr_70_8, ↓tr_70_9, ↓tr_70_10, ↓tr_70_11, ↓tr_70_12, ↓tr_70_13, ↓tr_70_14, ↓tr_70_15, ↓tr_70_17, ↓tr_70_19, ↓tr_70_29, ↓tr_70_41, ↓tr_70_44, ↓tr_70_45, ↓tr_70_46, ↓tr_70_47, ↓tr_70_49, ↓tr_70_51, ↓tr_70_53, ↓reduceIte, ↓bd_ite, ↓Option.bind_some, Option.toList_some, Option.toList_none, List.cons_append, List.nil_append, ↓tz0, ↓tz1, ↓st_z0, ↓st_z1, ↓t_is, ↓t_dv, ↓t_rm, st_us, st_uk, st_uo, nI_add, pk_mul, Nat.reduceAdd, Nat.reduceSub, Nat.reduceMul, nI_leI, nI_ltI, nI_eq, nn_leT, nn_leF, nn_ltT, nn_ltF, nn_eqT, nn_eqF, nm1, k_0, k_1, k_2, k_3, k_4, k_5, k_6, k_7, k_8, k_9, k_10, k_12, k_13, k_15, k_16, k_17, k_20, k_24, k_32, k_36, k_40, k_60, k_63, k_64, k_128, k_192, k_194, k_195, k_196, k_208, k_215, k_216, k_217, k_218, k_219, k_221, k_224, k_239, k_240, k_254, k_255, k_256, k_273, k_309, k_936, k_1600, k_2000, k_2304, k_4800, k_5980, k_6000, k_6912, k_12000, k_16383, k_32767, k_32768, k_65474, k_65475, k_65476, k_65496, k_65497, k_65498, k_65501, k_65535, k_65536, hl]
  | n + 1, W, H, f, M, hn, hW, h => by
    have hf := h.2.2.2.1
    have hH := h.2.2.2.2
    have hb := and_bit (k := n) hN hj hx (by omega)
    have ht : j / 2 ^ n % 2 < 2 := by omega
    obtain ⟨M1, i1, i2, i3⟩ := bit_M z (by omega) h ht
    have es : nI (n + 1) - nI 1 = nI n := by rw [pk_sub (by omega), Nat.add_sub_cancel]
    have en : nI n + -nI 1 = nI n - nI 1 := (Int32.sub_eq_add_neg ..).symm
    have st : ∀ d X a b w v p, mm_rx (mm_ev pg_mt (d + 2)) pg_c190 (4, [.ref 70, .int x, .int n0, .int (nI (n + 1) - nI 1)], [], (st_h z X M (st_R a b w v p))) = mm_rx (mm_ev pg_mt (d + 2)) pg_c190 (4, [.ref 70, .int x, .int n0, .int (nI n - nI 1)], [], st_h z X M1 (st_R a b w v p)) := fun d X a b w v p => by
      rw [es, eb190_4]
      simp (disch := omega) only [↓tf_70, ↓tp_70, ↓tz_70, ↓ty_70, ↓tzl_70, ↓tyl_70, ↓tv_70, ↓ta_71, ↓tb_71, ↓ts_71, ↓tl_71, ↓ta_72, ↓tb_72, ↓ts_72, ↓tl_72, ↓ta_73, ↓tb_73, ↓ts_73, ↓tl_73, ↓ta_74, ↓tb_74, ↓ts_74, ↓tl_74, ↓ta_75, ↓tb_75, ↓ts_75, ↓tl_75, ↓ta_76, ↓tb_76, ↓ts_76, ↓tl_76, ↓ta_77, ↓tb_77, ↓ts_77, ↓tl_77, ↓ta_78, ↓tb_78, ↓ts_78, ↓tl_78, ↓ta_79, ↓tb_79, ↓ts_79, ↓tl_79, ↓ta_80, ↓tb_80, ↓ts_80, ↓tl_80, ↓ta_81, ↓tb_81, ↓ts_81, ↓tl_81, ↓ta_82, ↓tb_82, ↓ts_82, ↓tl_82, ↓ta_83, ↓tb_83, ↓ts_83, ↓tl_83, ↓ta_84, ↓tb_84, ↓ts_84, ↓tl_84, ↓ta_85, ↓tb_85, ↓ts_85, ↓tl_85, ↓ta_86, ↓tb_86, ↓ts_86, ↓tl_86, ↓ta_87, ↓tb_87, ↓ts_87, ↓tl_87, ↓ta_88, ↓tb_88, ↓ts_88, ↓tl_88, ↓ta_89, ↓tb_89, ↓ts_89, ↓tl_89, ↓ta_90, ↓tb_90, ↓ts_90, ↓tl_90, ↓ta_91, ↓tb_91, ↓ts_91, ↓tl_91, ↓ta_92, ↓tb_92, ↓ts_92, ↓tl_92, ↓ta_93, ↓tb_93, ↓ts_93, ↓tl_93, ↓ta_94, ↓tb_94, ↓ts_94, ↓tl_94, ↓tr_70_1, ↓tr_70_3, ↓tr_70_5, ↓tr_70_6, ↓tr_70_7, ↓tr_70_8, ↓tr_70_9, ↓tr_70_10, ↓tr_70_11, ↓tr_70_12, ↓tr_70_13, ↓tr_70_14, ↓tr_70_15, ↓tr_70_17, ↓tr_70_19, ↓tr_70_29, ↓tr_70_41, ↓tr_70_44, ↓tr_70_45, ↓tr_70_46, ↓tr_70_47, ↓tr_70_49, ↓tr_70_51, ↓tr_70_53, ↓reduceIte, ↓bd_ite, ↓Option.bind_some, Option.toList_some, Option.toList_none, List.cons_append, List.nil_append, ↓tz0, ↓tz1, ↓st_z0, ↓st_z1, ↓t_is, ↓t_dv, ↓t_rm, st_us, st_uk, st_uo, nI_add, pk_mul, Nat.reduceAdd, Nat.reduceSub, Nat.reduceMul, nI_leI, nI_ltI, nI_eq, nn_leT, nn_leF, nn_ltT, nn_ltF, nn_eqT, nn_eqF, nm1, k_0, k_1, k_2, k_3, k_4, k_5, k_6, k_7, k_8, k_9, k_10, k_12, k_13, k_15, k_16, k_17, k_20, k_24, k_32, k_36, k_40, k_60, k_63, k_64, k_128, k_192, k_194, k_195, k_196, k_208, k_215, k_216, k_217, k_218, k_219, k_221, k_224, k_239, k_240, k_254, k_255, k_256, k_273, k_309, k_936, k_1600, k_2000, k_2304, k_4800, k_5980, k_6000, k_6912, k_12000, k_16383, k_32767, k_32768, k_65474, k_65475, k_65476, k_65496, k_65497, k_65498, k_65501, k_65535, k_65536, hb, i1, en, ↓eb190_17]
    have hms := Nat.mod_pow_succ (x := j) (b := 2) (k := n)
    rcases i3 with ⟨f7, g1, g2⟩ | ⟨rfl, h256, g1, g2⟩
    · obtain ⟨M', k1, k2, k3, k4⟩ := bits_lpM hN hj hx n0 n W (2 * H + j / 2 ^ n % 2) (f + 1) M1 (by omega) (by omega) g1
      have eK : (2 * H + j / 2 ^ n % 2) * 2 ^ n + j % 2 ^ n = H * 2 ^ (n + 1) + j % 2 ^ (n + 1) := by
        rw [hms, Nat.pow_succ, Nat.add_mul, Nat.mul_comm (j / 2 ^ n % 2), Nat.mul_comm 2 H, Nat.mul_assoc, Nat.mul_comm 2 (2 ^ n)]
        omega
      rw [eK, show f + 1 + n = f + (n + 1) by omega, g2] at k4
      rw [eK, show f + 1 + n = f + (n + 1) by omega] at k3
      exact ⟨M', fun d X a b w v p => (st d X a b w v p).trans (k1 d X a b w v p), fQ_t i2 k2, k3, k4⟩
    · have hl := by1_l (2 * H + j / 2 ^ n % 2)
      obtain ⟨M', k1, k2, k3, k4⟩ := bits_lpM hN hj hx n0 n (W + (by1 (2 * H + j / 2 ^ n % 2)).length) 0 0 M1 (by omega) (by omega) g1
      have e7 := em_7 (H1 := 2 * H + j / 2 ^ n % 2) (r := j % 2 ^ n) (n := n) h256 (by omega) (Nat.mod_lt _ (Nat.pow_pos (by decide)))
      have eK : (2 * H + j / 2 ^ n % 2) * 2 ^ n + j % 2 ^ n = H * 2 ^ (n + 1) + j % 2 ^ (n + 1) := by
        rw [hms, Nat.pow_succ, Nat.add_mul, Nat.mul_comm (j / 2 ^ n % 2), Nat.mul_comm 2 H, Nat.mul_assoc, Nat.mul_comm 2 (2 ^ n)]
        omega
      rw [eK] at e7
      rw [Nat.zero_mul, Nat.zero_add, Nat.zero_add] at k3 k4
      refine ⟨M', fun d X a b w v p => (st d X a b w v p).trans (k1 d X a b w v p), fQ_t i2 k2, ?_, ?_⟩
      · rw [show 7 + (n + 1) = 8 + n by omega, ← e7.1, ← e7.2, List.length_append, ← Nat.add_assoc, show (8 + n) % 8 = n % 8 by omega]
        exact k3
      · rw [show 7 + (n + 1) = 8 + n by omega, ← e7.1]
        exact AP_app g2 k4
end
