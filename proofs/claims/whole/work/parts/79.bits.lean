/-! ===== WRITING: bytes, bits, sizes as numbers ===== -/
def u8 (x : Int32) : Int32 := x.toInt8.toInt32
theorem u8_b (x : Int32) : iv_b (u8 x) := by_2 x
theorem nI_self (x : Int32) : nI x.toBitVec.toNat = x := by
  apply Int32.toBitVec_inj.1
  show BitVec.ofNat 32 x.toBitVec.toNat = x.toBitVec
  exact BitVec.ofNat_toNat _ _ |>.trans (BitVec.setWidth_eq _)
theorem nI_nat {n : Nat} (h : n < 2 ^ 32) : (nI n).toBitVec.toNat = n := by
  show (BitVec.ofNat 32 n).toNat = n
  rw [BitVec.toNat_ofNat]
  exact Nat.mod_eq_of_lt h
theorem nI_z {n : Nat} (h : n < 2 ^ 32) : (nI n = nI 0) = (n = 0) := by
  apply propext
  constructor
  · intro e
    have := congrArg (fun x : Int32 => x.toBitVec.toNat) e
    rw [nI_nat h, nI_nat (by decide)] at this
    exact this
  · intro e
    rw [e]
theorem u8_and (x : Int32) : u8 (x &&& nI 255) = u8 x := by
  have h : (x &&& nI 255).toInt8 = x.toInt8 := by
    apply Int8.toBitVec_inj.1
    rw [Int32.toBitVec_toInt8, Int32.toBitVec_toInt8, Int32.toBitVec_and]
    apply BitVec.eq_of_getLsbD_eq
    intro i hi
    have hm : ∀ i < 8, (nI 255).toBitVec.getLsbD i = true := by decide
    rw [BitVec.getLsbD_signExtend, BitVec.getLsbD_signExtend, if_pos (show i < 32 by omega), if_pos (show i < 32 by omega), BitVec.getLsbD_and, hm i hi, Bool.and_true]
  unfold u8
  rw [h]
/-- a bit of what is written -/
theorem and_bit {x : Int32} {n j k : Nat} (hn : n ≤ 16) (hj : j < 2 ^ n) (h : x &&& nI (2 ^ n - 1) = nI j) (hk : k < n) : (x >>> (nI k &&& 31)) &&& nI 1 = nI (j / 2 ^ k % 2) := by
  have hp : 2 ^ n ≤ 2 ^ 16 := Nat.pow_le_pow_right (by decide) hn
  have hb : x.toBitVec.getLsbD k = j.testBit k := by
    have h2 := congrArg (fun y : Int32 => y.toBitVec.getLsbD k) h
    simp only [Int32.toBitVec_and, BitVec.getLsbD_and] at h2
    have e1 : (nI (2 ^ n - 1)).toBitVec.getLsbD k = true := by
      show (BitVec.ofNat 32 (2 ^ n - 1)).getLsbD k = true
      rw [BitVec.getLsbD_ofNat, Nat.testBit_two_pow_sub_one]
      simp only [hk, decide_true, Bool.and_true, decide_eq_true_eq]
      omega
    have e2 : (nI j).toBitVec.getLsbD k = j.testBit k := by
      show (BitVec.ofNat 32 j).getLsbD k = _
      rw [BitVec.getLsbD_ofNat]
      have : k < 32 := by omega
      simp only [this, decide_true, Bool.true_and]
    rw [e1, e2, Bool.and_true] at h2
    exact h2
  have hs : ((nI k &&& 31).toBitVec.smod 32).toNat = k := nb_sm k (by omega)
  apply Int32.toBitVec_inj.1
  rw [Int32.toBitVec_and, Int32.toBitVec_shiftRight]
  apply BitVec.eq_of_getLsbD_eq
  intro i hi
  rw [BitVec.getLsbD_and]
  have hm : ∀ i < 32, (nI 1).toBitVec.getLsbD i = decide (i = 0) := by decide
  have hr : (nI (j / 2 ^ k % 2)).toBitVec.getLsbD i = (decide (i = 0) && j.testBit k) := by
    show (BitVec.ofNat 32 (j / 2 ^ k % 2)).getLsbD i = _
    rw [BitVec.getLsbD_ofNat]
    have htb : j.testBit k = decide (j / 2 ^ k % 2 = 1) := Nat.testBit_eq_decide_div_mod_eq
    rw [htb]
    rcases (show j / 2 ^ k % 2 = 0 ∨ j / 2 ^ k % 2 = 1 by omega) with e | e <;> rw [e]
    · rw [Nat.zero_testBit]
      simp
    · have h1 : ∀ i < 32, Nat.testBit 1 i = decide (i = 0) := by decide
      rw [h1 i hi]
      simp [hi]
  rw [hm i hi, hr]
  by_cases e : i = 0
  · subst e
    rw [BitVec.sshiftRight_eq', hs, BitVec.getLsbD_sshiftRight]
    have h32 : ¬ 32 ≤ 0 := by decide
    have hk32 : k + 0 < 32 := by omega
    simp only [hb, hk32, Nat.add_zero, decide_true, Bool.and_true, if_true]
    simp [hb, show k < 32 by omega]
  · simp [e]
/-! how many bits a number has -/
def bln (A : Nat) : Nat := if A = 0 then 0 else Nat.log2 A + 1
theorem bln_iff (A s : Nat) : A / 2 ^ s = 0 ↔ bln A ≤ s := by
  rw [Nat.div_eq_zero_iff]
  unfold bln
  by_cases h : A = 0
  · rw [if_pos h, h]
    have : 0 < 2 ^ s := Nat.pow_pos (by decide)
    constructor
    · intro _
      omega
    · intro _
      right
      exact this
  · rw [if_neg h]
    have := Nat.log2_lt (k := s) h
    have h0 : 0 < 2 ^ s := Nat.pow_pos (by decide)
    constructor
    · rintro (e | e)
      · omega
      · have := this.2 e
        omega
    · intro e
      right
      exact this.1 (by omega)
theorem bln_32 {A : Nat} (h : A < 2 ^ 32) : bln A ≤ 32 := (bln_iff A 32).1 (Nat.div_eq_of_lt h)
theorem nb_us : ∀ n, n < 32 → (((nI n).toUInt32 &&& Int32.toUInt32 31).toBitVec % 32).toNat = n := by decide
theorem nb_ushr {n : Nat} (h : n < 2 ^ 32) {k : Nat} (hk : k < 32) : ((nI n).toUInt32 >>> ((nI k).toUInt32 &&& Int32.toUInt32 31)).toInt32 = nI (n / 2 ^ k) := pk_ushrN h _ k (nb_us k hk)
/-- the magnitude -/
def mg (x : Int32) : Int32 := if nI 0 ≤ x then x else -x
def szN (x : Int32) : Nat := bln (mg x).toBitVec.toNat
theorem szN_32 (x : Int32) : szN x ≤ 32 := bln_32 (mg x).toBitVec.isLt
section
variable {d : Nat}
theorem sz_lpX {A : Nat} (hA : A < 2 ^ 32) (x : Int32) (E : mm_Ev) (h : mm_Hp) : ∀ (m s : Nat), s + m = bln A → mm_rx E pg_c142 (13, [.int x, .int (nI A), .int (nI s)], [], h) = some (some (.int (nI (bln A))), h)
  | 0, s, e1 => by
    have e1 : s = bln A := e1
    have h32 := bln_32 hA
    have h0 := (bln_iff A s).2 (by omega)
    rw [eb142_13, ← e1]
    by_cases hs : s = 32
    · subst hs
      simp (disch := omega) only [↓tf_0, ↓tp_0, ↓tz_0, ↓ty_0, ↓tzl_0, ↓tyl_0, ↓tv_0, ↓tf_1, ↓tp_1, ↓tz_1, ↓ty_1, ↓tzl_1, ↓tyl_1, ↓tv_1, ↓ta_2, ↓tb_2, ↓ts_2, ↓tl_2, ↓ta_3, ↓tb_3, ↓ts_3, ↓tl_3, ↓tf_4, ↓tp_4, ↓tz_4, ↓ty_4, ↓tzl_4, ↓tyl_4, ↓tv_4, ↓ta_5, ↓tb_5, ↓ts_5, ↓tl_5, ↓tf_6, ↓tp_6, ↓tz_6, ↓ty_6, ↓tzl_6, ↓tyl_6, ↓tv_6, ↓ta_7, ↓tb_7, ↓ts_7, ↓tl_7, ↓ta_8, ↓tb_8, ↓ts_8, ↓tl_8, ↓tf_9, ↓tp_9, ↓tz_9, ↓ty_9, ↓tzl_9, ↓tyl_9, ↓tv_9, ↓ta_10, ↓tb_10, ↓ts_10, ↓tl_10, ↓ta_11, ↓tb_11, ↓ts_11, ↓tl_11, ↓tf_12, ↓tp_12, ↓tz_12, ↓ty_12, ↓tzl_12, ↓tyl_12, ↓tv_12, ↓tf_13, ↓tp_13, ↓tz_13, ↓ty_13, ↓tzl_13, ↓tyl_13, ↓tv_13, ↓ta_14, ↓tb_14, ↓ts_14, ↓tl_14, ↓tf_15, ↓tp_15, ↓tz_15, ↓ty_15, ↓tzl_15, ↓tyl_15, ↓tv_15, ↓ta_16, ↓tb_16, ↓ts_16, ↓tl_16, ↓ta_17, ↓tb_17, ↓ts_17, ↓tl_17, ↓ta_19, ↓tb_19, ↓ts_19, ↓tl_19, ↓tf_44, ↓tp_44, ↓tz_44, ↓ty_44, ↓tzl_44, ↓tyl_44, ↓tv_44, ↓ta_45, ↓tb_45, ↓ts_45, ↓tl_45, ↓ta_46, ↓tb_46, ↓ts_46, ↓tl_46, ↓ta_47, ↓tb_47, ↓ts_47, ↓tl_47, ↓ta_18, ↓tr_0_0, ↓tr_0_1, ↓tr_0_2, ↓tr_0_3, ↓tr_0_4, ↓tr_1_0, ↓tr_1_1, ↓tr_4_0, ↓tr_6_0, ↓tr_6_1, ↓tr_9_6, ↓tr_9_7, ↓tr_12_0, ↓tr_12_1, ↓tr_12_2, ↓tr_12_3, ↓tr_12_4, ↓tr_13_0, ↓tr_13_1, ↓tr_13_2, ↓tr_15_6, ↓tr_15_7, ↓tr_44_0, ↓tr_44_1, ↓tr_44_2, ↓tr_44_3, ↓tr_0_5, ↓tr_0_6, ↓tr_0_7, ↓tr_0_8, ↓tr_12_5, ↓tu_12_5, ↓tr_13_3, ↓tu_13_3, ↓tr_13_4, ↓tu_13_4, ↓tr_13_5, ↓tu_13_5, ↓tr_44_4, ↓tu_44_4, ↓tr_44_5, ↓tu_44_5, ↓tr_44_6, ↓tu_44_6, ↓tu_0_5, ↓tu_0_6, ↓tu_0_7, ↓tu_0_8, ↓tfP, ↓tpP, ↓tvP, ↓trP_7, ↓trP_8, ↓trP_9, ↓trP_10, ↓trP_11, ↓trP_12, ↓trP_13, ↓trP_14, ↓taP_1, ↓taP_2, ↓taP_3, ↓taP_4, ↓taP_5, ↓taP_6, ↓taP_7, ↓taP_8, ↓tsP_1, ↓tsP_2, ↓tsP_3, ↓tsP_4, ↓tsP_5, ↓tsP_6, ↓tsP_7, ↓tsP_8, ↓tlP_7, ↓tlP_8, ↓tfS, ↓tpS, ↓tvS, ↓trS, ↓taS, ↓tsS, ↓tfT, ↓tzT, ↓tyT, ↓tzlT, ↓tylT, ↓trT_0, ↓trT_1, ↓taT_1, ↓taT_2, ↓tsT_1, ↓tsT_2, ↓tlT_2, ↓reduceIte, ↓bd_ite, ↓Option.bind_some, Option.toList_some, Option.toList_none, List.cons_append, List.nil_append, ↓tz0, ↓tz1, ↓st_z0, ↓st_z1, ↓t_is, ↓t_dv, ↓t_rm, st_us, st_uk, st_uo, nI_add, pk_mul, Nat.reduceAdd, Nat.reduceSub, Nat.reduceMul, pk_sub, nI_leI, nI_ltI, nI_eq, nn_leT, nn_leF, nn_ltT, nn_ltF, nn_eqT, nn_eqF, nm1, k_0, k_1, k_2, k_3, k_4, k_5, k_6, k_7, k_8, k_9, k_10, k_12, k_13, k_15, k_16, k_17, k_20, k_24, k_32, k_36, k_40, k_60, k_63, k_64, k_128, k_192, k_194, k_195, k_196, k_208, k_215, k_216, k_217, k_218, k_219, k_221, k_224, k_239, k_240, k_254, k_255, k_256, k_273, k_309, k_936, k_1600, k_2000, k_2304, k_4800, k_5980, k_6000, k_6912, k_12000, k_16383, k_32767, k_32768, k_65474, k_65475, k_65476, k_65496, k_65497, k_65498, k_65501, k_65535, k_65536, ↓eb142_31]
    · simp (disch := omega) only [↓tf_0, ↓tp_0, ↓tz_0, ↓ty_0, ↓tzl_0, ↓tyl_0, ↓tv_0, ↓tf_1, ↓tp_1, ↓tz_1, ↓ty_1, ↓tzl_1, ↓tyl_1, ↓tv_1, ↓ta_2, ↓tb_2, ↓ts_2, ↓tl_2, ↓ta_3, ↓tb_3, ↓ts_3, ↓tl_3, ↓tf_4, ↓tp_4, ↓tz_4, ↓ty_4, ↓tzl_4, ↓tyl_4, ↓tv_4, ↓ta_5, ↓tb_5, ↓ts_5, ↓tl_5, ↓tf_6, ↓tp_6, ↓tz_6, ↓ty_6, ↓tzl_6, ↓tyl_6, ↓tv_6, ↓ta_7, ↓tb_7, ↓ts_7, ↓tl_7, ↓ta_8, ↓tb_8, ↓ts_8, ↓tl_8, ↓tf_9, ↓tp_9, ↓tz_9, ↓ty_9, ↓tzl_9, ↓tyl_9, ↓tv_9, ↓ta_10, ↓tb_10, ↓ts_10, ↓tl_10, ↓ta_11, ↓tb_11, ↓ts_11, ↓tl_11, ↓tf_12, ↓tp_12, ↓tz_12, ↓ty_12, ↓tzl_12, ↓tyl_12, ↓tv_12, ↓tf_13, ↓tp_13, ↓tz_13, ↓ty_13, ↓tzl_13, ↓tyl_13, ↓tv_13, ↓ta_14, ↓tb_14, ↓ts_14, ↓tl_14, ↓tf_15, ↓tp_15, ↓tz_15, ↓ty_15, ↓tzl_15, ↓tyl_15, ↓tv_15, ↓ta_16, ↓tb_16, ↓ts_16, ↓tl_16, ↓ta_17, ↓tb_17, ↓ts_17, ↓tl_17, ↓ta_19, ↓tb_19, ↓ts_19, ↓tl_19, ↓tf_44, ↓tp_44, ↓tz_44, ↓ty_44, ↓tzl_44, ↓tyl_44, ↓tv_44, ↓ta_45, ↓tb_45, ↓ts_45, ↓tl_45, ↓ta_46, ↓tb_46, ↓ts_46, ↓tl_46, ↓ta_47, ↓tb_47, ↓ts_47, ↓tl_47, ↓ta_18, ↓tr_0_0, ↓tr_0_1, ↓tr_0_2, ↓tr_0_3, ↓tr_0_4, ↓tr_1_0, ↓tr_1_1, ↓tr_4_0, ↓tr_6_0, ↓tr_6_1, ↓tr_9_6, ↓tr_9_7, ↓tr_12_0, ↓tr_12_1, ↓tr_12_2, ↓tr_12_3, ↓tr_12_4, ↓tr_13_0, ↓tr_13_1, ↓tr_13_2, ↓tr_15_6, ↓tr_15_7, ↓tr_44_0, ↓tr_44_1, ↓tr_44_2, ↓tr_44_3, ↓tr_0_5, ↓tr_0_6, ↓tr_0_7, ↓tr_0_8, ↓tr_12_5, ↓tu_12_5, ↓tr_13_3, ↓tu_13_3, ↓tr_13_4, ↓tu_13_4, ↓tr_13_5, ↓tu_13_5, ↓tr_44_4, ↓tu_44_4, ↓tr_44_5, ↓tu_44_5, ↓tr_44_6, ↓tu_44_6, ↓tu_0_5, ↓tu_0_6, ↓tu_0_7, ↓tu_0_8, ↓tfP, ↓tpP, ↓tvP, ↓trP_7, ↓trP_8, ↓trP_9, ↓trP_10, ↓trP_11, ↓trP_12, ↓trP_13, ↓trP_14, ↓taP_1, ↓taP_2, ↓taP_3, ↓taP_4, ↓taP_5, ↓taP_6, ↓taP_7, ↓taP_8, ↓tsP_1, ↓tsP_2, ↓tsP_3, ↓tsP_4, ↓tsP_5, ↓tsP_6, ↓tsP_7, ↓tsP_8, ↓tlP_7, ↓tlP_8, ↓tfS, ↓tpS, ↓tvS, ↓trS, ↓taS, ↓tsS, ↓tfT, ↓tzT, ↓tyT, ↓tzlT, ↓tylT, ↓trT_0, ↓trT_1, ↓taT_1, ↓taT_2, ↓tsT_1, ↓tsT_2, ↓tlT_2, ↓reduceIte, ↓bd_ite, ↓Option.bind_some, Option.toList_some, Option.toList_none, List.cons_append, List.nil_append, ↓tz0, ↓tz1, ↓st_z0, ↓st_z1, ↓t_is, ↓t_dv, ↓t_rm, st_us, st_uk, st_uo, nI_add, pk_mul, Nat.reduceAdd, Nat.reduceSub, Nat.reduceMul, pk_sub, nI_leI, nI_ltI, nI_eq, nn_leT, nn_leF, nn_ltT, nn_ltF, nn_eqT, nn_eqF, nm1, k_0, k_1, k_2, k_3, k_4, k_5, k_6, k_7, k_8, k_9, k_10, k_12, k_13, k_15, k_16, k_17, k_20, k_24, k_32, k_36, k_40, k_60, k_63, k_64, k_128, k_192, k_194, k_195, k_196, k_208, k_215, k_216, k_217, k_218, k_219, k_221, k_224, k_239, k_240, k_254, k_255, k_256, k_273, k_309, k_936, k_1600, k_2000, k_2304, k_4800, k_5980, k_6000, k_6912, k_12000, k_16383, k_32767, k_32768, k_65474, k_65475, k_65476, k_65496, k_65497, k_65498, k_65501, k_65535, k_65536, nb_ushr, h0, ↓eb142_31]
  | m + 1, s, e1 => by
    have ih := sz_lpX hA x E h m (s + 1) (by omega)
    have h32 := bln_32 hA
    have h0 : ¬ A / 2 ^ s = 0 := fun e => by
      have := (bln_iff A s).1 e
      omega
    have hd : A / 2 ^ s < 2 ^ 32 := Nat.lt_of_le_of_lt (Nat.div_le_self _ _) hA
    rw [← ih, eb142_13]
    simp (disch := omega) only [↓tf_0, ↓tp_0, ↓tz_0, ↓ty_0, ↓tzl_0, ↓tyl_0, ↓tv_0, ↓tf_1, ↓tp_1, ↓tz_1, ↓ty_1, ↓tzl_1, ↓tyl_1, ↓tv_1, ↓ta_2, ↓tb_2, ↓ts_2, ↓tl_2, ↓ta_3, ↓tb_3, ↓ts_3, ↓tl_3, ↓tf_4, ↓tp_4, ↓tz_4, ↓ty_4, ↓tzl_4, ↓tyl_4, ↓tv_4, ↓ta_5, ↓tb_5, ↓ts_5, ↓tl_5, ↓tf_6, ↓tp_6, ↓tz_6, ↓ty_6, ↓tzl_6, ↓tyl_6, ↓tv_6, ↓ta_7, ↓tb_7, ↓ts_7, ↓tl_7, ↓ta_8, ↓tb_8, ↓ts_8, ↓tl_8, ↓tf_9, ↓tp_9, ↓tz_9, ↓ty_9, ↓tzl_9, ↓tyl_9, ↓tv_9, ↓ta_10, ↓tb_10, ↓ts_10, ↓tl_10, ↓ta_11, ↓tb_11, ↓ts_11, ↓tl_11, ↓tf_12, ↓tp_12, ↓tz_12, ↓ty_12, ↓tzl_12, ↓tyl_12, ↓tv_12, ↓tf_13, ↓tp_13, ↓tz_13, ↓ty_13, ↓tzl_13, ↓tyl_13, ↓tv_13, ↓ta_14, ↓tb_14, ↓ts_14, ↓tl_14, ↓tf_15, ↓tp_15, ↓tz_15, ↓ty_15, ↓tzl_15, ↓tyl_15, ↓tv_15, ↓ta_16, ↓tb_16, ↓ts_16, ↓tl_16, ↓ta_17, ↓tb_17, ↓ts_17, ↓tl_17, ↓ta_19, ↓tb_19, ↓ts_19, ↓tl_19, ↓tf_44, ↓tp_44, ↓tz_44, ↓ty_44, ↓tzl_44, ↓tyl_44, ↓tv_44, ↓ta_45, ↓tb_45, ↓ts_45, ↓tl_45, ↓ta_46, ↓tb_46, ↓ts_46, ↓tl_46, ↓ta_47, ↓tb_47, ↓ts_47, ↓tl_47, ↓ta_18, ↓tr_0_0, ↓tr_0_1, ↓tr_0_2, ↓tr_0_3, ↓tr_0_4, ↓tr_1_0, ↓tr_1_1, ↓tr_4_0, ↓tr_6_0, ↓tr_6_1, ↓tr_9_6, ↓tr_9_7, ↓tr_12_0, ↓tr_12_1, ↓tr_12_2, ↓tr_12_3, ↓tr_12_4, ↓tr_13_0, ↓tr_13_1, ↓tr_13_2, ↓tr_15_6, ↓tr_15_7, ↓tr_44_0, ↓tr_44_1, ↓tr_44_2, ↓tr_44_3, ↓tr_0_5, ↓tr_0_6, ↓tr_0_7, ↓tr_0_8, ↓tr_12_5, ↓tu_12_5, ↓tr_13_3, ↓tu_13_3, ↓tr_13_4, ↓tu_13_4, ↓tr_13_5, ↓tu_13_5, ↓tr_44_4, ↓tu_44_4, ↓tr_44_5, ↓tu_44_5, ↓tr_44_6, ↓tu_44_6, ↓tu_0_5, ↓tu_0_6, ↓tu_0_7, ↓tu_0_8, ↓tfP, ↓tpP, ↓tvP, ↓trP_7, ↓trP_8, ↓trP_9, ↓trP_10, ↓trP_11, ↓trP_12, ↓trP_13, ↓trP_14, ↓taP_1, ↓taP_2, ↓taP_3, ↓taP_4, ↓taP_5, ↓taP_6, ↓taP_7, ↓taP_8, ↓tsP_1, ↓tsP_2, ↓tsP_3, ↓tsP_4, ↓tsP_5, ↓tsP_6, ↓tsP_7, ↓tsP_8, ↓tlP_7, ↓tlP_8, ↓tfS, ↓tpS, ↓tvS, ↓trS, ↓taS, ↓tsS, ↓tfT, ↓tzT, ↓tyT, ↓tzlT, ↓tylT, ↓trT_0, ↓trT_1, ↓taT_1, ↓taT_2, ↓tsT_1, ↓tsT_2, ↓tlT_2, ↓reduceIte, ↓bd_ite, ↓Option.bind_some, Option.toList_some, Option.toList_none, List.cons_append, List.nil_append, ↓tz0, ↓tz1, ↓st_z0, ↓st_z1, ↓t_is, ↓t_dv, ↓t_rm, st_us, st_uk, st_uo, nI_add, pk_mul, Nat.reduceAdd, Nat.reduceSub, Nat.reduceMul, pk_sub, nI_leI, nI_ltI, nn_leT, nn_leF, nn_ltT, nn_ltF, nn_eqT, nn_eqF, nm1, k_0, k_1, k_2, k_3, k_4, k_5, k_6, k_7, k_8, k_9, k_10, k_12, k_13, k_15, k_16, k_17, k_20, k_24, k_32, k_36, k_40, k_60, k_63, k_64, k_128, k_192, k_194, k_195, k_196, k_208, k_215, k_216, k_217, k_218, k_219, k_221, k_224, k_239, k_240, k_254, k_255, k_256, k_273, k_309, k_936, k_1600, k_2000, k_2304, k_4800, k_5980, k_6000, k_6912, k_12000, k_16383, k_32767, k_32768, k_65474, k_65475, k_65476, k_65496, k_65497, k_65498, k_65501, k_65535, k_65536, nb_ushr, nI_z, h0]
theorem sz_X (x : Int32) (h : mm_Hp) : mm_ev pg_mt (d + 1) 142 [.int x] h = some (some (.int (nI (szN x))), h) := by
  have hl := sz_lpX (A := (mg x).toBitVec.toNat) (mg x).toBitVec.isLt x (mm_ev pg_mt d) h (bln (mg x).toBitVec.toNat) 0 (by omega)
  rw [nI_self] at hl
  unfold szN
  by_cases hx : nI 0 ≤ x
  · have e : mg x = x := if_pos hx
    rw [e] at hl ⊢
    rw [← hl]
    simp (disch := omega) only [↓en142, ↓eb142_0, ↓eb142_10, ↓tf_0, ↓tp_0, ↓tz_0, ↓ty_0, ↓tzl_0, ↓tyl_0, ↓tv_0, ↓tf_1, ↓tp_1, ↓tz_1, ↓ty_1, ↓tzl_1, ↓tyl_1, ↓tv_1, ↓ta_2, ↓tb_2, ↓ts_2, ↓tl_2, ↓ta_3, ↓tb_3, ↓ts_3, ↓tl_3, ↓tf_4, ↓tp_4, ↓tz_4, ↓ty_4, ↓tzl_4, ↓tyl_4, ↓tv_4, ↓ta_5, ↓tb_5, ↓ts_5, ↓tl_5, ↓tf_6, ↓tp_6, ↓tz_6, ↓ty_6, ↓tzl_6, ↓tyl_6, ↓tv_6, ↓ta_7, ↓tb_7, ↓ts_7, ↓tl_7, ↓ta_8, ↓tb_8, ↓ts_8, ↓tl_8, ↓tf_9, ↓tp_9, ↓tz_9, ↓ty_9, ↓tzl_9, ↓tyl_9, ↓tv_9, ↓ta_10, ↓tb_10, ↓ts_10, ↓tl_10, ↓ta_11, ↓tb_11, ↓ts_11, ↓tl_11, ↓tf_12, ↓tp_12, ↓tz_12, ↓ty_12, ↓tzl_12, ↓tyl_12, ↓tv_12, ↓tf_13, ↓tp_13, ↓tz_13, ↓ty_13, ↓tzl_13, ↓tyl_13, ↓tv_13, ↓ta_14, ↓tb_14, ↓ts_14, ↓tl_14, ↓tf_15, ↓tp_15, ↓tz_15, ↓ty_15, ↓tzl_15, ↓tyl_15, ↓tv_15, ↓ta_16, ↓tb_16, ↓ts_16, ↓tl_16, ↓ta_17, ↓tb_17, ↓ts_17, ↓tl_17, ↓ta_19, ↓tb_19, ↓ts_19, ↓tl_19, ↓tf_44, ↓tp_44, ↓tz_44, ↓ty_44, ↓tzl_44, ↓tyl_44, ↓tv_44, ↓ta_45, ↓tb_45, ↓ts_45, ↓tl_45, ↓ta_46, ↓tb_46, ↓ts_46, ↓tl_46, ↓ta_47, ↓tb_47, ↓ts_47, ↓tl_47, ↓ta_18, ↓tr_0_0, ↓tr_0_1, ↓tr_0_2, ↓tr_0_3, ↓tr_0_4, ↓tr_1_0, ↓tr_1_1, ↓tr_4_0, ↓tr_6_0, ↓tr_6_1, ↓tr_9_6, ↓tr_9_7, ↓tr_12_0, ↓tr_12_1, ↓tr_12_2, ↓tr_12_3, ↓tr_12_4, ↓tr_13_0, ↓tr_13_1, ↓tr_13_2, ↓tr_15_6, ↓tr_15_7, ↓tr_44_0, ↓tr_44_1, ↓tr_44_2, ↓tr_44_3, ↓tr_0_5, ↓tr_0_6, ↓tr_0_7, ↓tr_0_8, ↓tr_12_5, ↓tu_12_5, ↓tr_13_3, ↓tu_13_3, ↓tr_13_4, ↓tu_13_4, ↓tr_13_5, ↓tu_13_5, ↓tr_44_4, ↓tu_44_4, ↓tr_44_5, ↓tu_44_5, ↓tr_44_6, ↓tu_44_6, ↓tu_0_5, ↓tu_0_6, ↓tu_0_7, ↓tu_0_8, ↓tfP, ↓tpP, ↓tvP, ↓trP_7, ↓trP_8, ↓trP_9, ↓trP_10, ↓trP_11, ↓trP_12, ↓trP_13, ↓trP_14, ↓taP_1, ↓taP_2, ↓taP_3, ↓taP_4, ↓taP_5, ↓taP_6, ↓taP_7, ↓taP_8, ↓tsP_1, ↓tsP_2, ↓tsP_3, ↓tsP_4, ↓tsP_5, ↓tsP_6, ↓tsP_7, ↓tsP_8, ↓tlP_7, ↓tlP_8, ↓tfS, ↓tpS, ↓tvS, ↓trS, ↓taS, ↓tsS, ↓tfT, ↓tzT, ↓tyT, ↓tzlT, ↓tylT, ↓trT_0, ↓trT_1, ↓taT_1, ↓taT_2, ↓tsT_1, ↓tsT_2, ↓tlT_2, ↓reduceIte, ↓bd_ite, ↓Option.bind_some, Option.toList_some, Option.toList_none, List.cons_append, List.nil_append, ↓tz0, ↓tz1, ↓st_z0, ↓st_z1, ↓t_is, ↓t_dv, ↓t_rm, st_us, st_uk, st_uo, nI_add, pk_mul, Nat.reduceAdd, Nat.reduceSub, Nat.reduceMul, pk_sub, nI_leI, nI_ltI, nI_eq, nn_leT, nn_leF, nn_ltT, nn_ltF, nn_eqT, nn_eqF, nm1, k_0, k_1, k_2, k_3, k_4, k_5, k_6, k_7, k_8, k_9, k_10, k_12, k_13, k_15, k_16, k_17, k_20, k_24, k_32, k_36, k_40, k_60, k_63, k_64, k_128, k_192, k_194, k_195, k_196, k_208, k_215, k_216, k_217, k_218, k_219, k_221, k_224, k_239, k_240, k_254, k_255, k_256, k_273, k_309, k_936, k_1600, k_2000, k_2304, k_4800, k_5980, k_6000, k_6912, k_12000, k_16383, k_32767, k_32768, k_65474, k_65475, k_65476, k_65496, k_65497, k_65498, k_65501, k_65535, k_65536, hx]
  · have e : mg x = -x := if_neg hx
    rw [e] at hl ⊢
    rw [← hl]
    simp (disch := omega) only [↓en142, ↓eb142_0, ↓eb142_10, ↓tf_0, ↓tp_0, ↓tz_0, ↓ty_0, ↓tzl_0, ↓tyl_0, ↓tv_0, ↓tf_1, ↓tp_1, ↓tz_1, ↓ty_1, ↓tzl_1, ↓tyl_1, ↓tv_1, ↓ta_2, ↓tb_2, ↓ts_2, ↓tl_2, ↓ta_3, ↓tb_3, ↓ts_3, ↓tl_3, ↓tf_4, ↓tp_4, ↓tz_4, ↓ty_4, ↓tzl_4, ↓tyl_4, ↓tv_4, ↓ta_5, ↓tb_5, ↓ts_5, ↓tl_5, ↓tf_6, ↓tp_6, ↓tz_6, ↓ty_6, ↓tzl_6, ↓tyl_6, ↓tv_6, ↓ta_7, ↓tb_7, ↓ts_7, ↓tl_7, ↓ta_8, ↓tb_8, ↓ts_8, ↓tl_8, ↓tf_9, ↓tp_9, ↓tz_9, ↓ty_9, ↓tzl_9, ↓tyl_9, ↓tv_9, ↓ta_10, ↓tb_10, ↓ts_10, ↓tl_10, ↓ta_11, ↓tb_11, ↓ts_11, ↓tl_11, ↓tf_12, ↓tp_12, ↓tz_12, ↓ty_12, ↓tzl_12, ↓tyl_12, ↓tv_12, ↓tf_13, ↓tp_13, ↓tz_13, ↓ty_13, ↓tzl_13, ↓tyl_13, ↓tv_13, ↓ta_14, ↓tb_14, ↓ts_14, ↓tl_14, ↓tf_15, ↓tp_15, ↓tz_15, ↓ty_15, ↓tzl_15, ↓tyl_15, ↓tv_15, ↓ta_16, ↓tb_16, ↓ts_16, ↓tl_16, ↓ta_17, ↓tb_17, ↓ts_17, ↓tl_17, ↓ta_19, ↓tb_19, ↓ts_19, ↓tl_19, ↓tf_44, ↓tp_44, ↓tz_44, ↓ty_44, ↓tzl_44, ↓tyl_44, ↓tv_44, ↓ta_45, ↓tb_45, ↓ts_45, ↓tl_45, ↓ta_46, ↓tb_46, ↓ts_46, ↓tl_46, ↓ta_47, ↓tb_47, ↓ts_47, ↓tl_47, ↓ta_18, ↓tr_0_0, ↓tr_0_1, ↓tr_0_2, ↓tr_0_3, ↓tr_0_4, ↓tr_1_0, ↓tr_1_1, ↓tr_4_0, ↓tr_6_0, ↓tr_6_1, ↓tr_9_6, ↓tr_9_7, ↓tr_12_0, ↓tr_12_1, ↓tr_12_2, ↓tr_12_3, ↓tr_12_4, ↓tr_13_0, ↓tr_13_1, ↓tr_13_2, ↓tr_15_6, ↓tr_15_7, ↓tr_44_0, ↓tr_44_1, ↓tr_44_2, ↓tr_44_3, ↓tr_0_5, ↓tr_0_6, ↓tr_0_7, ↓tr_0_8, ↓tr_12_5, ↓tu_12_5, ↓tr_13_3, ↓tu_13_3, ↓tr_13_4, ↓tu_13_4, ↓tr_13_5, ↓tu_13_5, ↓tr_44_4, ↓tu_44_4, ↓tr_44_5, ↓tu_44_5, ↓tr_44_6, ↓tu_44_6, ↓tu_0_5, ↓tu_0_6, ↓tu_0_7, ↓tu_0_8, ↓tfP, ↓tpP, ↓tvP, ↓trP_7, ↓trP_8, ↓trP_9, ↓trP_10, ↓trP_11, ↓trP_12, ↓trP_13, ↓trP_14, ↓taP_1, ↓taP_2, ↓taP_3, ↓taP_4, ↓taP_5, ↓taP_6, ↓taP_7, ↓taP_8, ↓tsP_1, ↓tsP_2, ↓tsP_3, ↓tsP_4, ↓tsP_5, ↓tsP_6, ↓tsP_7, ↓tsP_8, ↓tlP_7, ↓tlP_8, ↓tfS, ↓tpS, ↓tvS, ↓trS, ↓taS, ↓tsS, ↓tfT, ↓tzT, ↓tyT, ↓tzlT, ↓tylT, ↓trT_0, ↓trT_1, ↓taT_1, ↓taT_2, ↓tsT_1, ↓tsT_2, ↓tlT_2, ↓reduceIte, ↓bd_ite, ↓Option.bind_some, Option.toList_some, Option.toList_none, List.cons_append, List.nil_append, ↓tz0, ↓tz1, ↓st_z0, ↓st_z1, ↓t_is, ↓t_dv, ↓t_rm, st_us, st_uk, st_uo, nI_add, pk_mul, Nat.reduceAdd, Nat.reduceSub, Nat.reduceMul, pk_sub, nI_leI, nI_ltI, nI_eq, nn_leT, nn_leF, nn_ltT, nn_ltF, nn_eqT, nn_eqF, nm1, k_0, k_1, k_2, k_3, k_4, k_5, k_6, k_7, k_8, k_9, k_10, k_12, k_13, k_15, k_16, k_17, k_20, k_24, k_32, k_36, k_40, k_60, k_63, k_64, k_128, k_192, k_194, k_195, k_196, k_208, k_215, k_216, k_217, k_218, k_219, k_221, k_224, k_239, k_240, k_254, k_255, k_256, k_273, k_309, k_936, k_1600, k_2000, k_2304, k_4800, k_5980, k_6000, k_6912, k_12000, k_16383, k_32767, k_32768, k_65474, k_65475, k_65476, k_65496, k_65497, k_65498, k_65501, k_65535, k_65536, hx]
theorem sz_lpM {A : Nat} (hA : A < 2 ^ 32) (x : Int32) (E : mm_Ev) (h : mm_Hp) : ∀ (m s : Nat), s + m = bln A → mm_rx E pg_c198 (13, [.int x, .int (nI s), .int (nI (A / 2 ^ s))], [], h) = some (some (.int (nI (bln A))), h)
  | 0, s, e1 => by
    have e1 : s = bln A := e1
    have h0 := (bln_iff A s).2 (by omega)
    rw [h0, eb198_13, ← e1]
    simp (disch := omega) only [↓tf_70, ↓tp_70, ↓tz_70, ↓ty_70, ↓tzl_70, ↓tyl_70, ↓tv_70, ↓ta_71, ↓tb_71, ↓ts_71, ↓tl_71, ↓ta_72, ↓tb_72, ↓ts_72, ↓tl_72, ↓ta_73, ↓tb_73, ↓ts_73, ↓tl_73, ↓ta_74, ↓tb_74, ↓ts_74, ↓tl_74, ↓ta_75, ↓tb_75, ↓ts_75, ↓tl_75, ↓ta_76, ↓tb_76, ↓ts_76, ↓tl_76, ↓ta_77, ↓tb_77, ↓ts_77, ↓tl_77, ↓ta_78, ↓tb_78, ↓ts_78, ↓tl_78, ↓ta_79, ↓tb_79, ↓ts_79, ↓tl_79, ↓ta_80, ↓tb_80, ↓ts_80, ↓tl_80, ↓ta_81, ↓tb_81, ↓ts_81, ↓tl_81, ↓ta_82, ↓tb_82, ↓ts_82, ↓tl_82, ↓ta_83, ↓tb_83, ↓ts_83, ↓tl_83, ↓ta_84, ↓tb_84, ↓ts_84, ↓tl_84, ↓ta_85, ↓tb_85, ↓ts_85, ↓tl_85, ↓ta_86, ↓tb_86, ↓ts_86, ↓tl_86, ↓ta_87, ↓tb_87, ↓ts_87, ↓tl_87, ↓ta_88, ↓tb_88, ↓ts_88, ↓tl_88, ↓ta_89, ↓tb_89, ↓ts_89, ↓tl_89, ↓ta_90, ↓tb_90, ↓ts_90, ↓tl_90, ↓ta_91, ↓tb_91, ↓ts_91, ↓tl_91, ↓ta_92, ↓tb_92, ↓ts_92, ↓tl_92, ↓ta_93, ↓tb_93, ↓ts_93, ↓tl_93, ↓ta_94, ↓tb_94, ↓ts_94, ↓tl_94, ↓tr_70_1, ↓tr_70_3, ↓tr_70_5, ↓tr_70_6, ↓tr_70_7, ↓tr_70_8, ↓tr_70_9, ↓tr_70_10, ↓tr_70_11, ↓tr_70_12, ↓tr_70_13, ↓tr_70_14, ↓tr_70_15, ↓tr_70_17, ↓tr_70_19, ↓tr_70_29, ↓tr_70_41, ↓tr_70_44, ↓tr_70_45, ↓tr_70_46, ↓tr_70_47, ↓tr_70_49, ↓tr_70_51, ↓tr_70_53, ↓reduceIte, ↓bd_ite, ↓Option.bind_some, Option.toList_some, Option.toList_none, List.cons_append, List.nil_append, ↓tz0, ↓tz1, ↓st_z0, ↓st_z1, ↓t_is, ↓t_dv, ↓t_rm, st_us, st_uk, st_uo, nI_add, pk_mul, Nat.reduceAdd, Nat.reduceSub, Nat.reduceMul, pk_sub, nI_leI, nI_ltI, nI_eq, nn_leT, nn_leF, nn_ltT, nn_ltF, nn_eqT, nn_eqF, nm1, k_0, k_1, k_2, k_3, k_4, k_5, k_6, k_7, k_8, k_9, k_10, k_12, k_13, k_15, k_16, k_17, k_20, k_24, k_32, k_36, k_40, k_60, k_63, k_64, k_128, k_192, k_194, k_195, k_196, k_208, k_215, k_216, k_217, k_218, k_219, k_221, k_224, k_239, k_240, k_254, k_255, k_256, k_273, k_309, k_936, k_1600, k_2000, k_2304, k_4800, k_5980, k_6000, k_6912, k_12000, k_16383, k_32767, k_32768, k_65474, k_65475, k_65476, k_65496, k_65497, k_65498, k_65501, k_65535, k_65536]
  | m + 1, s, e1 => by
    have ih := sz_lpM hA x E h m (s + 1) (by omega)
    have h0 : ¬ A / 2 ^ s = 0 := fun e => by
      have := (bln_iff A s).1 e
      omega
    have hd : A / 2 ^ s < 2 ^ 32 := Nat.lt_of_le_of_lt (Nat.div_le_self _ _) hA
    have hu := nb_ushr hd (k := 1) (by decide)
    have h2 : A / 2 ^ s / 2 ^ 1 = A / 2 ^ (s + 1) := by rw [Nat.div_div_eq_div_mul, Nat.pow_one, Nat.pow_succ]
    rw [h2] at hu
    rw [← ih, eb198_13]
    simp (disch := omega) only [↓tf_70, ↓tp_70, ↓tz_70, ↓ty_70, ↓tzl_70, ↓tyl_70, ↓tv_70, ↓ta_71, ↓tb_71, ↓ts_71, ↓tl_71, ↓ta_72, ↓tb_72, ↓ts_72, ↓tl_72, ↓ta_73, ↓tb_73, ↓ts_73, ↓tl_73, ↓ta_74, ↓tb_74, ↓ts_74, ↓tl_74, ↓ta_75, ↓tb_75, ↓ts_75, ↓tl_75, ↓ta_76, ↓tb_76, ↓ts_76, ↓tl_76, ↓ta_77, ↓tb_77, ↓ts_77, ↓tl_77, ↓ta_78, ↓tb_78, ↓ts_78, ↓tl_78, ↓ta_79, ↓tb_79, ↓ts_79, ↓tl_79, ↓ta_80, ↓tb_80, ↓ts_80, ↓tl_80, ↓ta_81, ↓tb_81, ↓ts_81, ↓tl_81, ↓ta_82, ↓tb_82, ↓ts_82, ↓tl_82, ↓ta_83, ↓tb_83, ↓ts_83, ↓tl_83, ↓ta_84, ↓tb_84, ↓ts_84, ↓tl_84, ↓ta_85, ↓tb_85, ↓ts_85, ↓tl_85, ↓ta_86, ↓tb_86, ↓ts_86, ↓tl_86, ↓ta_87, ↓tb_87, ↓ts_87, ↓tl_87, ↓ta_88, ↓tb_88, ↓ts_88, ↓tl_88, ↓ta_89, ↓tb_89, ↓ts_89, ↓tl_89, ↓ta_90, ↓tb_90, ↓ts_90, ↓tl_90, ↓ta_91, ↓tb_91, ↓ts_91, ↓tl_91, ↓ta_92, ↓tb_92, ↓ts_92, ↓tl_92, ↓ta_93, ↓tb_93, ↓ts_93, ↓tl_93, ↓ta_94, ↓tb_94, ↓ts_94, ↓tl_94, ↓tr_70_1, ↓tr_70_3, ↓tr_70_5, ↓tr_70_6, ↓tr_70_7, ↓tr_70_8, ↓tr_70_9, ↓tr_70_10, ↓tr_70_11, ↓tr_70_12, ↓tr_70_13, ↓tr_70_14, ↓tr_70_15, ↓tr_70_17, ↓tr_70_19, ↓tr_70_29, ↓tr_70_41, ↓tr_70_44, ↓tr_70_45, ↓tr_70_46, ↓tr_70_47, ↓tr_70_49, ↓tr_70_51, ↓tr_70_53, ↓reduceIte, ↓bd_ite, ↓Option.bind_some, Option.toList_some, Option.toList_none, List.cons_append, List.nil_append, ↓tz0, ↓tz1, ↓st_z0, ↓st_z1, ↓t_is, ↓t_dv, ↓t_rm, st_us, st_uk, st_uo, nI_add, pk_mul, Nat.reduceAdd, Nat.reduceSub, Nat.reduceMul, pk_sub, nI_leI, nI_ltI, nn_leT, nn_leF, nn_ltT, nn_ltF, nn_eqT, nn_eqF, nm1, k_0, k_1, k_2, k_3, k_4, k_5, k_6, k_7, k_8, k_9, k_10, k_12, k_13, k_15, k_16, k_17, k_20, k_24, k_32, k_36, k_40, k_60, k_63, k_64, k_128, k_192, k_194, k_195, k_196, k_208, k_215, k_216, k_217, k_218, k_219, k_221, k_224, k_239, k_240, k_254, k_255, k_256, k_273, k_309, k_936, k_1600, k_2000, k_2304, k_4800, k_5980, k_6000, k_6912, k_12000, k_16383, k_32767, k_32768, k_65474, k_65475, k_65476, k_65496, k_65497, k_65498, k_65501, k_65535, k_65536, hu, nI_z, h0]
theorem sz_M (x : Int32) (h : mm_Hp) : mm_ev pg_mt (d + 1) 198 [.int x] h = some (some (.int (nI (szN x))), h) := by
  have hl := sz_lpM (A := (mg x).toBitVec.toNat) (mg x).toBitVec.isLt x (mm_ev pg_mt d) h (bln (mg x).toBitVec.toNat) 0 (by omega)
  rw [Nat.pow_zero, Nat.div_one, nI_self] at hl
  unfold szN
  by_cases hx : nI 0 ≤ x
  · have e : mg x = x := if_pos hx
    rw [e] at hl ⊢
    rw [← hl]
    simp (disch := omega) only [↓en198, ↓eb198_0, ↓eb198_12, ↓tf_70, ↓tp_70, ↓tz_70, ↓ty_70, ↓tzl_70, ↓tyl_70, ↓tv_70, ↓ta_71, ↓tb_71, ↓ts_71, ↓tl_71, ↓ta_72, ↓tb_72, ↓ts_72, ↓tl_72, ↓ta_73, ↓tb_73, ↓ts_73, ↓tl_73, ↓ta_74, ↓tb_74, ↓ts_74, ↓tl_74, ↓ta_75, ↓tb_75, ↓ts_75, ↓tl_75, ↓ta_76, ↓tb_76, ↓ts_76, ↓tl_76, ↓ta_77, ↓tb_77, ↓ts_77, ↓tl_77, ↓ta_78, ↓tb_78, ↓ts_78, ↓tl_78, ↓ta_79, ↓tb_79, ↓ts_79, ↓tl_79, ↓ta_80, ↓tb_80, ↓ts_80, ↓tl_80, ↓ta_81, ↓tb_81, ↓ts_81, ↓tl_81, ↓ta_82, ↓tb_82, ↓ts_82, ↓tl_82, ↓ta_83, ↓tb_83, ↓ts_83, ↓tl_83, ↓ta_84, ↓tb_84, ↓ts_84, ↓tl_84, ↓ta_85, ↓tb_85, ↓ts_85, ↓tl_85, ↓ta_86, ↓tb_86, ↓ts_86, ↓tl_86, ↓ta_87, ↓tb_87, ↓ts_87, ↓tl_87, ↓ta_88, ↓tb_88, ↓ts_88, ↓tl_88, ↓ta_89, ↓tb_89, ↓ts_89, ↓tl_89, ↓ta_90, ↓tb_90, ↓ts_90, ↓tl_90, ↓ta_91, ↓tb_91, ↓ts_91, ↓tl_91, ↓ta_92, ↓tb_92, ↓ts_92, ↓tl_92, ↓ta_93, ↓tb_93, ↓ts_93, ↓tl_93, ↓ta_94, ↓tb_94, ↓ts_94, ↓tl_94, ↓tr_70_1, ↓tr_70_3, ↓tr_70_5, ↓tr_70_6, ↓tr_70_7, ↓tr_70_8, ↓tr_70_9, ↓tr_70_10, ↓tr_70_11, ↓tr_70_12, ↓tr_70_13, ↓tr_70_14, ↓tr_70_15, ↓tr_70_17, ↓tr_70_19, ↓tr_70_29, ↓tr_70_41, ↓tr_70_44, ↓tr_70_45, ↓tr_70_46, ↓tr_70_47, ↓tr_70_49, ↓tr_70_51, ↓tr_70_53, ↓reduceIte, ↓bd_ite, ↓Option.bind_some, Option.toList_some, Option.toList_none, List.cons_append, List.nil_append, ↓tz0, ↓tz1, ↓st_z0, ↓st_z1, ↓t_is, ↓t_dv, ↓t_rm, st_us, st_uk, st_uo, nI_add, pk_mul, Nat.reduceAdd, Nat.reduceSub, Nat.reduceMul, pk_sub, nI_leI, nI_ltI, nI_eq, nn_leT, nn_leF, nn_ltT, nn_ltF, nn_eqT, nn_eqF, nm1, k_0, k_1, k_2, k_3, k_4, k_5, k_6, k_7, k_8, k_9, k_10, k_12, k_13, k_15, k_16, k_17, k_20, k_24, k_32, k_36, k_40, k_60, k_63, k_64, k_128, k_192, k_194, k_195, k_196, k_208, k_215, k_216, k_217, k_218, k_219, k_221, k_224, k_239, k_240, k_254, k_255, k_256, k_273, k_309, k_936, k_1600, k_2000, k_2304, k_4800, k_5980, k_6000, k_6912, k_12000, k_16383, k_32767, k_32768, k_65474, k_65475, k_65476, k_65496, k_65497, k_65498, k_65501, k_65535, k_65536, hx]
  · have e : mg x = -x := if_neg hx
    rw [e] at hl ⊢
    rw [← hl]
    simp (disch := omega) only [↓en198, ↓eb198_0, ↓eb198_12, ↓tf_70, ↓tp_70, ↓tz_70, ↓ty_70, ↓tzl_70, ↓tyl_70, ↓tv_70, ↓ta_71, ↓tb_71, ↓ts_71, ↓tl_71, ↓ta_72, ↓tb_72, ↓ts_72, ↓tl_72, ↓ta_73, ↓tb_73, ↓ts_73, ↓tl_73, ↓ta_74, ↓tb_74, ↓ts_74, ↓tl_74, ↓ta_75, ↓tb_75, ↓ts_75, ↓tl_75, ↓ta_76, ↓tb_76, ↓ts_76, ↓tl_76, ↓ta_77, ↓tb_77, ↓ts_77, ↓tl_77, ↓ta_78, ↓tb_78, ↓ts_78, ↓tl_78, ↓ta_79, ↓tb_79, ↓ts_79, ↓tl_79, ↓ta_80, ↓tb_80, ↓ts_80, ↓tl_80, ↓ta_81, ↓tb_81, ↓ts_81, ↓tl_81, ↓ta_82, ↓tb_82, ↓ts_82, ↓tl_82, ↓ta_83, ↓tb_83, ↓ts_83, ↓tl_83, ↓ta_84, ↓tb_84, ↓ts_84, ↓tl_84, ↓ta_85, ↓tb_85, ↓ts_85, ↓tl_85, ↓ta_86, ↓tb_86, ↓ts_86, ↓tl_86, ↓ta_87, ↓tb_87, ↓ts_87, ↓tl_87, ↓ta_88, ↓tb_88, ↓ts_88, ↓tl_88, ↓ta_89, ↓tb_89, ↓ts_89, ↓tl_89, ↓ta_90, ↓tb_90, ↓ts_90, ↓tl_90, ↓ta_91, ↓tb_91, ↓ts_91, ↓tl_91, ↓ta_92, ↓tb_92, ↓ts_92, ↓tl_92, ↓ta_93, ↓tb_93, ↓ts_93, ↓tl_93, ↓ta_94, ↓tb_94, ↓ts_94, ↓tl_94, ↓tr_70_1, ↓tr_70_3, ↓tr_70_5, ↓tr_70_6, ↓tr_70_7, ↓tr_70_8, ↓tr_70_9, ↓tr_70_10, ↓tr_70_11, ↓tr_70_12, ↓tr_70_13, ↓tr_70_14, ↓tr_70_15, ↓tr_70_17, ↓tr_70_19, ↓tr_70_29, ↓tr_70_41, ↓tr_70_44, ↓tr_70_45, ↓tr_70_46, ↓tr_70_47, ↓tr_70_49, ↓tr_70_51, ↓tr_70_53, ↓reduceIte, ↓bd_ite, ↓Option.bind_some, Option.toList_some, Option.toList_none, List.cons_append, List.nil_append, ↓tz0, ↓tz1, ↓st_z0, ↓st_z1, ↓t_is, ↓t_dv, ↓t_rm, st_us, st_uk, st_uo, nI_add, pk_mul, Nat.reduceAdd, Nat.reduceSub, Nat.reduceMul, pk_sub, nI_leI, nI_ltI, nI_eq, nn_leT, nn_leF, nn_ltT, nn_ltF, nn_eqT, nn_eqF, nm1, k_0, k_1, k_2, k_3, k_4, k_5, k_6, k_7, k_8, k_9, k_10, k_12, k_13, k_15, k_16, k_17, k_20, k_24, k_32, k_36, k_40, k_60, k_63, k_64, k_128, k_192, k_194, k_195, k_196, k_208, k_215, k_216, k_217, k_218, k_219, k_221, k_224, k_239, k_240, k_254, k_255, k_256, k_273, k_309, k_936, k_1600, k_2000, k_2304, k_4800, k_5980, k_6000, k_6912, k_12000, k_16383, k_32767, k_32768, k_65474, k_65475, k_65476, k_65496, k_65497, k_65498, k_65501, k_65535, k_65536, hx]
end
