/-! ===== the acts over each cell, for simp ===== -/
theorem k_0 : (0 : Int32) = nI 0 := rfl
theorem k_1 : (1 : Int32) = nI 1 := rfl
theorem k_2 : (2 : Int32) = nI 2 := rfl
theorem k_3 : (3 : Int32) = nI 3 := rfl
theorem k_4 : (4 : Int32) = nI 4 := rfl
theorem k_5 : (5 : Int32) = nI 5 := rfl
theorem k_6 : (6 : Int32) = nI 6 := rfl
theorem k_7 : (7 : Int32) = nI 7 := rfl
theorem k_8 : (8 : Int32) = nI 8 := rfl
theorem k_9 : (9 : Int32) = nI 9 := rfl
theorem k_10 : (10 : Int32) = nI 10 := rfl
theorem k_12 : (12 : Int32) = nI 12 := rfl
theorem k_13 : (13 : Int32) = nI 13 := rfl
theorem k_15 : (15 : Int32) = nI 15 := rfl
theorem k_16 : (16 : Int32) = nI 16 := rfl
theorem k_17 : (17 : Int32) = nI 17 := rfl
theorem k_20 : (20 : Int32) = nI 20 := rfl
theorem k_24 : (24 : Int32) = nI 24 := rfl
theorem k_32 : (32 : Int32) = nI 32 := rfl
theorem k_36 : (36 : Int32) = nI 36 := rfl
theorem k_40 : (40 : Int32) = nI 40 := rfl
theorem k_60 : (60 : Int32) = nI 60 := rfl
theorem k_63 : (63 : Int32) = nI 63 := rfl
theorem k_64 : (64 : Int32) = nI 64 := rfl
theorem k_128 : (128 : Int32) = nI 128 := rfl
theorem k_192 : (192 : Int32) = nI 192 := rfl
theorem k_194 : (194 : Int32) = nI 194 := rfl
theorem k_195 : (195 : Int32) = nI 195 := rfl
theorem k_196 : (196 : Int32) = nI 196 := rfl
theorem k_208 : (208 : Int32) = nI 208 := rfl
theorem k_215 : (215 : Int32) = nI 215 := rfl
theorem k_216 : (216 : Int32) = nI 216 := rfl
theorem k_217 : (217 : Int32) = nI 217 := rfl
theorem k_218 : (218 : Int32) = nI 218 := rfl
theorem k_219 : (219 : Int32) = nI 219 := rfl
theorem k_221 : (221 : Int32) = nI 221 := rfl
theorem k_224 : (224 : Int32) = nI 224 := rfl
theorem k_239 : (239 : Int32) = nI 239 := rfl
theorem k_240 : (240 : Int32) = nI 240 := rfl
theorem k_254 : (254 : Int32) = nI 254 := rfl
theorem k_255 : (255 : Int32) = nI 255 := rfl
theorem k_256 : (256 : Int32) = nI 256 := rfl
theorem k_273 : (273 : Int32) = nI 273 := rfl
theorem k_309 : (309 : Int32) = nI 309 := rfl
theorem k_936 : (936 : Int32) = nI 936 := rfl
theorem k_1600 : (1600 : Int32) = nI 1600 := rfl
theorem k_2000 : (2000 : Int32) = nI 2000 := rfl
theorem k_2304 : (2304 : Int32) = nI 2304 := rfl
theorem k_4800 : (4800 : Int32) = nI 4800 := rfl
theorem k_5980 : (5980 : Int32) = nI 5980 := rfl
theorem k_6000 : (6000 : Int32) = nI 6000 := rfl
theorem k_6912 : (6912 : Int32) = nI 6912 := rfl
theorem k_12000 : (12000 : Int32) = nI 12000 := rfl
theorem k_16383 : (16383 : Int32) = nI 16383 := rfl
theorem k_32767 : (32767 : Int32) = nI 32767 := rfl
theorem k_32768 : (32768 : Int32) = nI 32768 := rfl
theorem k_65474 : (65474 : Int32) = nI 65474 := rfl
theorem k_65475 : (65475 : Int32) = nI 65475 := rfl
theorem k_65476 : (65476 : Int32) = nI 65476 := rfl
theorem k_65496 : (65496 : Int32) = nI 65496 := rfl
theorem k_65497 : (65497 : Int32) = nI 65497 := rfl
theorem k_65498 : (65498 : Int32) = nI 65498 := rfl
theorem k_65501 : (65501 : Int32) = nI 65501 := rfl
theorem k_65535 : (65535 : Int32) = nI 65535 := rfl
theorem k_65536 : (65536 : Int32) = nI 65536 := rfl
theorem bd_ite {α β : Type} {P : Prop} {i : Decidable P} {A B : Option α} {K : α → Option β} : (@ite _ P i A B).bind K = @ite _ P i (A.bind K) (B.bind K) := by
  split <;> rfl
theorem tz0 (h : mm_Hp) : mm_zr (nI 0) h = some (some (.int (nI 0)), h) := if_pos (Or.inl rfl)
theorem tz1 (h : mm_Hp) : mm_zr (nI 1) h = some (some (.int (nI 1)), h) := if_pos (Or.inr rfl)
theorem t_is {α : Type} {E : mm_Ev} {y : Nat} {h : mm_Hp} {as : List Value} {K : mm_Rs → Option α} : mm_is E h y as K = (E y as h).bind K := rfl
theorem t_iv {α : Type} {z : Nat} {X M : Nat → Nat → Int32} {R : Nat → Nat → Option Nat} {E : mm_Ev} {c y q : Nat} {as : List Value} {K : mm_Rs → Option α} (hs : st_sh q = some (.inl c)) : mm_iv E (st_h z X M R) c y (.ref q :: as) K = (E y (.ref q :: as) (st_h z X M R)).bind K := by
  unfold mm_iv
  exact if_pos (show mm_s (st_h z X M R) q = _ from hs)
theorem t_dv {α : Type} {a b : Nat} {K : Int32 → Option α} (h0 : 0 < b) (hb : b < 2 ^ 31) (ha : a < 2 ^ 31) : mm_dv (nI a) (nI b) K = K (nI (a / b)) := by
  unfold mm_dv
  rw [if_neg (nI_ne0 h0 hb), pk_div ha h0 hb]
theorem t_rm {α : Type} {a b : Nat} {K : Int32 → Option α} (h0 : 0 < b) (hb : b < 2 ^ 31) (ha : a < 2 ^ 31) : mm_rm (nI a) (nI b) K = K (nI (a % b)) := by
  unfold mm_rm
  rw [if_neg (nI_ne0 h0 hb), pk_rem ha h0 hb]
theorem st_us (F : Nat → Nat → Int32) (q k : Nat) (u : Int32) : st_u F q k u q k = u := by
  rw [st_u_at, if_pos ⟨rfl, rfl⟩]
theorem st_uk (F : Nat → Nat → Int32) (q k : Nat) (u : Int32) (j : Nat) (h : j ≠ k) : st_u F q k u q j = F q j := by
  rw [st_u_at, if_neg (fun e => h e.2)]
theorem st_uo (F : Nat → Nat → Int32) (q k : Nat) (u : Int32) (r : Nat) (h : r ≠ q) : st_u F q k u r = F r := st_u_o h
theorem nn_leT {a b : Nat} (h : a ≤ b) : (a ≤ b) = True := eq_true h
theorem nn_leF {a b : Nat} (h : b < a) : (a ≤ b) = False := eq_false (Nat.not_le.mpr h)
theorem nn_ltT {a b : Nat} (h : a < b) : (a < b) = True := eq_true h
theorem nn_ltF {a b : Nat} (h : b ≤ a) : (a < b) = False := eq_false (Nat.not_lt.mpr h)
theorem nn_eqT {a b : Nat} (h : a = b) : (a = b) = True := eq_true h
theorem nn_eqF {a b : Nat} (h : a ≠ b) : (a = b) = False := eq_false h
theorem nm1 {a : Nat} (h : a < 2 ^ 31) : (nI a = -nI 1) = False := eq_false (fun e => by
  have := congrArg Int32.toInt e
  rw [nI_toInt h] at this
  have h2 : (-nI 1 : Int32).toInt = -1 := rfl
  omega)
theorem nb_or (a b : Nat) : nI a ||| nI b = nI (a ||| b) := by
  apply Int32.toBitVec_inj.1
  show BitVec.ofNat 32 a ||| BitVec.ofNat 32 b = BitVec.ofNat 32 (a ||| b)
  apply BitVec.eq_of_getLsbD_eq
  intro i hi
  simp [hi]
theorem nb_and (a b : Nat) : nI a &&& nI b = nI (a &&& b) := by
  apply Int32.toBitVec_inj.1
  show BitVec.ofNat 32 a &&& BitVec.ofNat 32 b = BitVec.ofNat 32 (a &&& b)
  apply BitVec.eq_of_getLsbD_eq
  intro i hi
  simp [hi]
theorem nb_sm : ∀ n, n < 32 → ((nI n &&& 31).toBitVec.smod 32).toNat = n := by decide
theorem nb_shl (n : Nat) {k : Nat} (hk : k < 32) : nI n <<< (nI k &&& 31) = nI (n * 2 ^ k) := by
  apply Int32.toBitVec_inj.1
  apply BitVec.eq_of_toNat_eq
  rw [pk_shl _ _ k (nb_sm k hk)]
  show n % 2 ^ 32 * 2 ^ k % 2 ^ 32 = n * 2 ^ k % 2 ^ 32
  rw [Nat.mul_mod, Nat.mod_mod, ← Nat.mul_mod]
theorem nb_shr {n : Nat} (h : n < 2 ^ 31) {k : Nat} (hk : k < 32) : nI n >>> (nI k &&& 31) = nI (n / 2 ^ k) := pk_shrN h _ k (nb_sm k hk)
theorem tq_0_1 (p : Nat → Option Nat) (r : Option Nat) : va_up p 1 r 0 = p 0 := va_up_ne _ _ (by decide)
theorem tq_0_2 (p : Nat → Option Nat) (r : Option Nat) : va_up p 2 r 0 = p 0 := va_up_ne _ _ (by decide)
theorem tq_0_3 (p : Nat → Option Nat) (r : Option Nat) : va_up p 3 r 0 = p 0 := va_up_ne _ _ (by decide)
theorem tq_0_4 (p : Nat → Option Nat) (r : Option Nat) : va_up p 4 r 0 = p 0 := va_up_ne _ _ (by decide)
theorem tq_0_5 (p : Nat → Option Nat) (r : Option Nat) : va_up p 5 r 0 = p 0 := va_up_ne _ _ (by decide)
theorem tq_0_6 (p : Nat → Option Nat) (r : Option Nat) : va_up p 6 r 0 = p 0 := va_up_ne _ _ (by decide)
theorem tq_1_0 (p : Nat → Option Nat) (r : Option Nat) : va_up p 0 r 1 = p 1 := va_up_ne _ _ (by decide)
theorem tq_1_2 (p : Nat → Option Nat) (r : Option Nat) : va_up p 2 r 1 = p 1 := va_up_ne _ _ (by decide)
theorem tq_1_3 (p : Nat → Option Nat) (r : Option Nat) : va_up p 3 r 1 = p 1 := va_up_ne _ _ (by decide)
theorem tq_1_4 (p : Nat → Option Nat) (r : Option Nat) : va_up p 4 r 1 = p 1 := va_up_ne _ _ (by decide)
theorem tq_1_5 (p : Nat → Option Nat) (r : Option Nat) : va_up p 5 r 1 = p 1 := va_up_ne _ _ (by decide)
theorem tq_1_6 (p : Nat → Option Nat) (r : Option Nat) : va_up p 6 r 1 = p 1 := va_up_ne _ _ (by decide)
theorem tq_2_0 (p : Nat → Option Nat) (r : Option Nat) : va_up p 0 r 2 = p 2 := va_up_ne _ _ (by decide)
theorem tq_2_1 (p : Nat → Option Nat) (r : Option Nat) : va_up p 1 r 2 = p 2 := va_up_ne _ _ (by decide)
theorem tq_2_3 (p : Nat → Option Nat) (r : Option Nat) : va_up p 3 r 2 = p 2 := va_up_ne _ _ (by decide)
theorem tq_2_4 (p : Nat → Option Nat) (r : Option Nat) : va_up p 4 r 2 = p 2 := va_up_ne _ _ (by decide)
theorem tq_2_5 (p : Nat → Option Nat) (r : Option Nat) : va_up p 5 r 2 = p 2 := va_up_ne _ _ (by decide)
theorem tq_2_6 (p : Nat → Option Nat) (r : Option Nat) : va_up p 6 r 2 = p 2 := va_up_ne _ _ (by decide)
theorem tq_3_0 (p : Nat → Option Nat) (r : Option Nat) : va_up p 0 r 3 = p 3 := va_up_ne _ _ (by decide)
theorem tq_3_1 (p : Nat → Option Nat) (r : Option Nat) : va_up p 1 r 3 = p 3 := va_up_ne _ _ (by decide)
theorem tq_3_2 (p : Nat → Option Nat) (r : Option Nat) : va_up p 2 r 3 = p 3 := va_up_ne _ _ (by decide)
theorem tq_3_4 (p : Nat → Option Nat) (r : Option Nat) : va_up p 4 r 3 = p 3 := va_up_ne _ _ (by decide)
theorem tq_3_5 (p : Nat → Option Nat) (r : Option Nat) : va_up p 5 r 3 = p 3 := va_up_ne _ _ (by decide)
theorem tq_3_6 (p : Nat → Option Nat) (r : Option Nat) : va_up p 6 r 3 = p 3 := va_up_ne _ _ (by decide)
theorem tq_4_0 (p : Nat → Option Nat) (r : Option Nat) : va_up p 0 r 4 = p 4 := va_up_ne _ _ (by decide)
theorem tq_4_1 (p : Nat → Option Nat) (r : Option Nat) : va_up p 1 r 4 = p 4 := va_up_ne _ _ (by decide)
theorem tq_4_2 (p : Nat → Option Nat) (r : Option Nat) : va_up p 2 r 4 = p 4 := va_up_ne _ _ (by decide)
theorem tq_4_3 (p : Nat → Option Nat) (r : Option Nat) : va_up p 3 r 4 = p 4 := va_up_ne _ _ (by decide)
theorem tq_4_5 (p : Nat → Option Nat) (r : Option Nat) : va_up p 5 r 4 = p 4 := va_up_ne _ _ (by decide)
theorem tq_4_6 (p : Nat → Option Nat) (r : Option Nat) : va_up p 6 r 4 = p 4 := va_up_ne _ _ (by decide)
theorem tq_5_0 (p : Nat → Option Nat) (r : Option Nat) : va_up p 0 r 5 = p 5 := va_up_ne _ _ (by decide)
theorem tq_5_1 (p : Nat → Option Nat) (r : Option Nat) : va_up p 1 r 5 = p 5 := va_up_ne _ _ (by decide)
theorem tq_5_2 (p : Nat → Option Nat) (r : Option Nat) : va_up p 2 r 5 = p 5 := va_up_ne _ _ (by decide)
theorem tq_5_3 (p : Nat → Option Nat) (r : Option Nat) : va_up p 3 r 5 = p 5 := va_up_ne _ _ (by decide)
theorem tq_5_4 (p : Nat → Option Nat) (r : Option Nat) : va_up p 4 r 5 = p 5 := va_up_ne _ _ (by decide)
theorem tq_5_6 (p : Nat → Option Nat) (r : Option Nat) : va_up p 6 r 5 = p 5 := va_up_ne _ _ (by decide)
theorem tq_6_0 (p : Nat → Option Nat) (r : Option Nat) : va_up p 0 r 6 = p 6 := va_up_ne _ _ (by decide)
theorem tq_6_1 (p : Nat → Option Nat) (r : Option Nat) : va_up p 1 r 6 = p 6 := va_up_ne _ _ (by decide)
theorem tq_6_2 (p : Nat → Option Nat) (r : Option Nat) : va_up p 2 r 6 = p 6 := va_up_ne _ _ (by decide)
theorem tq_6_3 (p : Nat → Option Nat) (r : Option Nat) : va_up p 3 r 6 = p 6 := va_up_ne _ _ (by decide)
theorem tq_6_4 (p : Nat → Option Nat) (r : Option Nat) : va_up p 4 r 6 = p 6 := va_up_ne _ _ (by decide)
theorem tq_6_5 (p : Nat → Option Nat) (r : Option Nat) : va_up p 5 r 6 = p 6 := va_up_ne _ _ (by decide)
section
variable {α : Type} {z : Nat} {X M : Nat → Nat → Int32} {a b w v : Nat} {p : Nat → Option Nat}
theorem tf_0 {k : Nat} {K : Int32 → Option α} : mm_fI (st_h z X M (st_R a b w v p)) 0 10 k K = K (X 0 k) := st_fIX (by decide) rfl
theorem tp_0 {k : Nat} {u : Int32} {K : mm_Hp → Option α} : mm_pI (st_h z X M (st_R a b w v p)) 0 10 k u K = K (st_h z (st_u X 0 k u) M (st_R a b w v p)) := st_pIX (by decide) rfl
theorem tz_0 {k : Nat} {K : mm_Hp → Option α} : mm_pZ (st_h z X M (st_R a b w v p)) 0 10 k (nI 0) K = K (st_h z (st_u X 0 k (nI 0)) M (st_R a b w v p)) := st_pZX (by decide) rfl (Or.inl rfl)
theorem ty_0 {k : Nat} {K : mm_Hp → Option α} : mm_pZ (st_h z X M (st_R a b w v p)) 0 10 k (nI 1) K = K (st_h z (st_u X 0 k (nI 1)) M (st_R a b w v p)) := st_pZX (by decide) rfl (Or.inr rfl)
theorem tzl_0 {k : Nat} {K : mm_Hp → Option α} : mm_pZ (st_h z X M (st_R a b w v p)) 0 10 k (0 : Int32) K = K (st_h z (st_u X 0 k (nI 0)) M (st_R a b w v p)) := tz_0
theorem tyl_0 {k : Nat} {K : mm_Hp → Option α} : mm_pZ (st_h z X M (st_R a b w v p)) 0 10 k (1 : Int32) K = K (st_h z (st_u X 0 k (nI 1)) M (st_R a b w v p)) := ty_0
theorem tv_0 {E : mm_Ev} {y : Nat} {as : List Value} {K : mm_Rs → Option α} : mm_iv E (st_h z X M (st_R a b w v p)) 10 y (.ref 0 :: as) K = (E y (.ref 0 :: as) (st_h z X M (st_R a b w v p))).bind K := t_iv rfl
theorem tf_1 {k : Nat} {K : Int32 → Option α} : mm_fI (st_h z X M (st_R a b w v p)) 1 0 k K = K (X 1 k) := st_fIX (by decide) rfl
theorem tp_1 {k : Nat} {u : Int32} {K : mm_Hp → Option α} : mm_pI (st_h z X M (st_R a b w v p)) 1 0 k u K = K (st_h z (st_u X 1 k u) M (st_R a b w v p)) := st_pIX (by decide) rfl
theorem tz_1 {k : Nat} {K : mm_Hp → Option α} : mm_pZ (st_h z X M (st_R a b w v p)) 1 0 k (nI 0) K = K (st_h z (st_u X 1 k (nI 0)) M (st_R a b w v p)) := st_pZX (by decide) rfl (Or.inl rfl)
theorem ty_1 {k : Nat} {K : mm_Hp → Option α} : mm_pZ (st_h z X M (st_R a b w v p)) 1 0 k (nI 1) K = K (st_h z (st_u X 1 k (nI 1)) M (st_R a b w v p)) := st_pZX (by decide) rfl (Or.inr rfl)
theorem tzl_1 {k : Nat} {K : mm_Hp → Option α} : mm_pZ (st_h z X M (st_R a b w v p)) 1 0 k (0 : Int32) K = K (st_h z (st_u X 1 k (nI 0)) M (st_R a b w v p)) := tz_1
theorem tyl_1 {k : Nat} {K : mm_Hp → Option α} : mm_pZ (st_h z X M (st_R a b w v p)) 1 0 k (1 : Int32) K = K (st_h z (st_u X 1 k (nI 1)) M (st_R a b w v p)) := ty_1
theorem tv_1 {E : mm_Ev} {y : Nat} {as : List Value} {K : mm_Rs → Option α} : mm_iv E (st_h z X M (st_R a b w v p)) 0 y (.ref 1 :: as) K = (E y (.ref 1 :: as) (st_h z X M (st_R a b w v p))).bind K := t_iv rfl
theorem ta_2 {i : Nat} {K : Int32 → Option α} (hi : i < 4800) : mm_ld (st_h z X M (st_R a b w v p)) 0 2 (nI i) K = K (X 2 i) := by
  rw [st_ldX (n := 4800) (by decide) rfl (vp_in_nI hi (by decide)), nI_clamp (by omega)]
theorem ts_2 {i : Nat} {u : Int32} {K : mm_Hp → Option α} (hi : i < 4800) : mm_st (st_h z X M (st_R a b w v p)) 0 2 (nI i) u K = K (st_h z (st_u X 2 i u) M (st_R a b w v p)) := by
  rw [st_stX (n := 4800) (by decide) rfl (vp_in_nI hi (by decide)), nI_clamp (by omega)]
theorem tb_2 {K : Int32 → Option α} : mm_ld (st_h z X M (st_R a b w v p)) 0 2 (0 : Int32) K = K (X 2 0) := ta_2 (i := 0) (by decide)
theorem tl_2 {K : Int32 → Option α} : mm_al (st_h z X M (st_R a b w v p)) 2 K = K (nI 4800) := st_al rfl
theorem ta_3 {i : Nat} {K : Int32 → Option α} (hi : i < 10) : mm_ld (st_h z X M (st_R a b w v p)) 0 3 (nI i) K = K (X 3 i) := by
  rw [st_ldX (n := 10) (by decide) rfl (vp_in_nI hi (by decide)), nI_clamp (by omega)]
theorem ts_3 {i : Nat} {u : Int32} {K : mm_Hp → Option α} (hi : i < 10) : mm_st (st_h z X M (st_R a b w v p)) 0 3 (nI i) u K = K (st_h z (st_u X 3 i u) M (st_R a b w v p)) := by
  rw [st_stX (n := 10) (by decide) rfl (vp_in_nI hi (by decide)), nI_clamp (by omega)]
theorem tb_3 {K : Int32 → Option α} : mm_ld (st_h z X M (st_R a b w v p)) 0 3 (0 : Int32) K = K (X 3 0) := ta_3 (i := 0) (by decide)
theorem tl_3 {K : Int32 → Option α} : mm_al (st_h z X M (st_R a b w v p)) 3 K = K (nI 10) := st_al rfl
theorem tf_4 {k : Nat} {K : Int32 → Option α} : mm_fI (st_h z X M (st_R a b w v p)) 4 9 k K = K (X 4 k) := st_fIX (by decide) rfl
theorem tp_4 {k : Nat} {u : Int32} {K : mm_Hp → Option α} : mm_pI (st_h z X M (st_R a b w v p)) 4 9 k u K = K (st_h z (st_u X 4 k u) M (st_R a b w v p)) := st_pIX (by decide) rfl
theorem tz_4 {k : Nat} {K : mm_Hp → Option α} : mm_pZ (st_h z X M (st_R a b w v p)) 4 9 k (nI 0) K = K (st_h z (st_u X 4 k (nI 0)) M (st_R a b w v p)) := st_pZX (by decide) rfl (Or.inl rfl)
theorem ty_4 {k : Nat} {K : mm_Hp → Option α} : mm_pZ (st_h z X M (st_R a b w v p)) 4 9 k (nI 1) K = K (st_h z (st_u X 4 k (nI 1)) M (st_R a b w v p)) := st_pZX (by decide) rfl (Or.inr rfl)
theorem tzl_4 {k : Nat} {K : mm_Hp → Option α} : mm_pZ (st_h z X M (st_R a b w v p)) 4 9 k (0 : Int32) K = K (st_h z (st_u X 4 k (nI 0)) M (st_R a b w v p)) := tz_4
theorem tyl_4 {k : Nat} {K : mm_Hp → Option α} : mm_pZ (st_h z X M (st_R a b w v p)) 4 9 k (1 : Int32) K = K (st_h z (st_u X 4 k (nI 1)) M (st_R a b w v p)) := ty_4
theorem tv_4 {E : mm_Ev} {y : Nat} {as : List Value} {K : mm_Rs → Option α} : mm_iv E (st_h z X M (st_R a b w v p)) 9 y (.ref 4 :: as) K = (E y (.ref 4 :: as) (st_h z X M (st_R a b w v p))).bind K := t_iv rfl
theorem ta_5 {i : Nat} {K : Int32 → Option α} (hi : i < 6000) : mm_ld (st_h z X M (st_R a b w v p)) 1 5 (nI i) K = K (X 5 i) := by
  rw [st_ldX (n := 6000) (by decide) rfl (vp_in_nI hi (by decide)), nI_clamp (by omega)]
theorem ts_5 {i : Nat} {u : Int32} {K : mm_Hp → Option α} (hi : i < 6000) : mm_st (st_h z X M (st_R a b w v p)) 1 5 (nI i) u K = K (st_h z (st_u X 5 i u) M (st_R a b w v p)) := by
  rw [st_stX (n := 6000) (by decide) rfl (vp_in_nI hi (by decide)), nI_clamp (by omega)]
theorem tb_5 {K : Int32 → Option α} : mm_ld (st_h z X M (st_R a b w v p)) 1 5 (0 : Int32) K = K (X 5 0) := ta_5 (i := 0) (by decide)
theorem tl_5 {K : Int32 → Option α} : mm_al (st_h z X M (st_R a b w v p)) 5 K = K (nI 6000) := st_al rfl
theorem tf_6 {k : Nat} {K : Int32 → Option α} : mm_fI (st_h z X M (st_R a b w v p)) 6 5 k K = K (X 6 k) := st_fIX (by decide) rfl
theorem tp_6 {k : Nat} {u : Int32} {K : mm_Hp → Option α} : mm_pI (st_h z X M (st_R a b w v p)) 6 5 k u K = K (st_h z (st_u X 6 k u) M (st_R a b w v p)) := st_pIX (by decide) rfl
theorem tz_6 {k : Nat} {K : mm_Hp → Option α} : mm_pZ (st_h z X M (st_R a b w v p)) 6 5 k (nI 0) K = K (st_h z (st_u X 6 k (nI 0)) M (st_R a b w v p)) := st_pZX (by decide) rfl (Or.inl rfl)
theorem ty_6 {k : Nat} {K : mm_Hp → Option α} : mm_pZ (st_h z X M (st_R a b w v p)) 6 5 k (nI 1) K = K (st_h z (st_u X 6 k (nI 1)) M (st_R a b w v p)) := st_pZX (by decide) rfl (Or.inr rfl)
theorem tzl_6 {k : Nat} {K : mm_Hp → Option α} : mm_pZ (st_h z X M (st_R a b w v p)) 6 5 k (0 : Int32) K = K (st_h z (st_u X 6 k (nI 0)) M (st_R a b w v p)) := tz_6
theorem tyl_6 {k : Nat} {K : mm_Hp → Option α} : mm_pZ (st_h z X M (st_R a b w v p)) 6 5 k (1 : Int32) K = K (st_h z (st_u X 6 k (nI 1)) M (st_R a b w v p)) := ty_6
theorem tv_6 {E : mm_Ev} {y : Nat} {as : List Value} {K : mm_Rs → Option α} : mm_iv E (st_h z X M (st_R a b w v p)) 5 y (.ref 6 :: as) K = (E y (.ref 6 :: as) (st_h z X M (st_R a b w v p))).bind K := t_iv rfl
theorem ta_7 {i : Nat} {K : Int32 → Option α} (hi : i < 300) : mm_ld (st_h z X M (st_R a b w v p)) 0 7 (nI i) K = K (X 7 i) := by
  rw [st_ldX (n := 300) (by decide) rfl (vp_in_nI hi (by decide)), nI_clamp (by omega)]
theorem ts_7 {i : Nat} {u : Int32} {K : mm_Hp → Option α} (hi : i < 300) : mm_st (st_h z X M (st_R a b w v p)) 0 7 (nI i) u K = K (st_h z (st_u X 7 i u) M (st_R a b w v p)) := by
  rw [st_stX (n := 300) (by decide) rfl (vp_in_nI hi (by decide)), nI_clamp (by omega)]
theorem tb_7 {K : Int32 → Option α} : mm_ld (st_h z X M (st_R a b w v p)) 0 7 (0 : Int32) K = K (X 7 0) := ta_7 (i := 0) (by decide)
theorem tl_7 {K : Int32 → Option α} : mm_al (st_h z X M (st_R a b w v p)) 7 K = K (nI 300) := st_al rfl
theorem ta_8 {i : Nat} {K : Int32 → Option α} (hi : i < 192) : mm_ld (st_h z X M (st_R a b w v p)) 0 8 (nI i) K = K (X 8 i) := by
  rw [st_ldX (n := 192) (by decide) rfl (vp_in_nI hi (by decide)), nI_clamp (by omega)]
theorem ts_8 {i : Nat} {u : Int32} {K : mm_Hp → Option α} (hi : i < 192) : mm_st (st_h z X M (st_R a b w v p)) 0 8 (nI i) u K = K (st_h z (st_u X 8 i u) M (st_R a b w v p)) := by
  rw [st_stX (n := 192) (by decide) rfl (vp_in_nI hi (by decide)), nI_clamp (by omega)]
theorem tb_8 {K : Int32 → Option α} : mm_ld (st_h z X M (st_R a b w v p)) 0 8 (0 : Int32) K = K (X 8 0) := ta_8 (i := 0) (by decide)
theorem tl_8 {K : Int32 → Option α} : mm_al (st_h z X M (st_R a b w v p)) 8 K = K (nI 192) := st_al rfl
theorem tf_9 {k : Nat} {K : Int32 → Option α} : mm_fI (st_h z X M (st_R a b w v p)) 9 2 k K = K (X 9 k) := st_fIX (by decide) rfl
theorem tp_9 {k : Nat} {u : Int32} {K : mm_Hp → Option α} : mm_pI (st_h z X M (st_R a b w v p)) 9 2 k u K = K (st_h z (st_u X 9 k u) M (st_R a b w v p)) := st_pIX (by decide) rfl
theorem tz_9 {k : Nat} {K : mm_Hp → Option α} : mm_pZ (st_h z X M (st_R a b w v p)) 9 2 k (nI 0) K = K (st_h z (st_u X 9 k (nI 0)) M (st_R a b w v p)) := st_pZX (by decide) rfl (Or.inl rfl)
theorem ty_9 {k : Nat} {K : mm_Hp → Option α} : mm_pZ (st_h z X M (st_R a b w v p)) 9 2 k (nI 1) K = K (st_h z (st_u X 9 k (nI 1)) M (st_R a b w v p)) := st_pZX (by decide) rfl (Or.inr rfl)
theorem tzl_9 {k : Nat} {K : mm_Hp → Option α} : mm_pZ (st_h z X M (st_R a b w v p)) 9 2 k (0 : Int32) K = K (st_h z (st_u X 9 k (nI 0)) M (st_R a b w v p)) := tz_9
theorem tyl_9 {k : Nat} {K : mm_Hp → Option α} : mm_pZ (st_h z X M (st_R a b w v p)) 9 2 k (1 : Int32) K = K (st_h z (st_u X 9 k (nI 1)) M (st_R a b w v p)) := ty_9
theorem tv_9 {E : mm_Ev} {y : Nat} {as : List Value} {K : mm_Rs → Option α} : mm_iv E (st_h z X M (st_R a b w v p)) 2 y (.ref 9 :: as) K = (E y (.ref 9 :: as) (st_h z X M (st_R a b w v p))).bind K := t_iv rfl
theorem ta_10 {i : Nat} {K : Int32 → Option α} (hi : i < 3) : mm_ld (st_h z X M (st_R a b w v p)) 0 10 (nI i) K = K (X 10 i) := by
  rw [st_ldX (n := 3) (by decide) rfl (vp_in_nI hi (by decide)), nI_clamp (by omega)]
theorem ts_10 {i : Nat} {u : Int32} {K : mm_Hp → Option α} (hi : i < 3) : mm_st (st_h z X M (st_R a b w v p)) 0 10 (nI i) u K = K (st_h z (st_u X 10 i u) M (st_R a b w v p)) := by
  rw [st_stX (n := 3) (by decide) rfl (vp_in_nI hi (by decide)), nI_clamp (by omega)]
theorem tb_10 {K : Int32 → Option α} : mm_ld (st_h z X M (st_R a b w v p)) 0 10 (0 : Int32) K = K (X 10 0) := ta_10 (i := 0) (by decide)
theorem tl_10 {K : Int32 → Option α} : mm_al (st_h z X M (st_R a b w v p)) 10 K = K (nI 3) := st_al rfl
theorem ta_11 {i : Nat} {K : Int32 → Option α} (hi : i < 3) : mm_ld (st_h z X M (st_R a b w v p)) 0 11 (nI i) K = K (X 11 i) := by
  rw [st_ldX (n := 3) (by decide) rfl (vp_in_nI hi (by decide)), nI_clamp (by omega)]
theorem ts_11 {i : Nat} {u : Int32} {K : mm_Hp → Option α} (hi : i < 3) : mm_st (st_h z X M (st_R a b w v p)) 0 11 (nI i) u K = K (st_h z (st_u X 11 i u) M (st_R a b w v p)) := by
  rw [st_stX (n := 3) (by decide) rfl (vp_in_nI hi (by decide)), nI_clamp (by omega)]
theorem tb_11 {K : Int32 → Option α} : mm_ld (st_h z X M (st_R a b w v p)) 0 11 (0 : Int32) K = K (X 11 0) := ta_11 (i := 0) (by decide)
theorem tl_11 {K : Int32 → Option α} : mm_al (st_h z X M (st_R a b w v p)) 11 K = K (nI 3) := st_al rfl
theorem tf_12 {k : Nat} {K : Int32 → Option α} : mm_fI (st_h z X M (st_R a b w v p)) 12 7 k K = K (X 12 k) := st_fIX (by decide) rfl
theorem tp_12 {k : Nat} {u : Int32} {K : mm_Hp → Option α} : mm_pI (st_h z X M (st_R a b w v p)) 12 7 k u K = K (st_h z (st_u X 12 k u) M (st_R a b w v p)) := st_pIX (by decide) rfl
theorem tz_12 {k : Nat} {K : mm_Hp → Option α} : mm_pZ (st_h z X M (st_R a b w v p)) 12 7 k (nI 0) K = K (st_h z (st_u X 12 k (nI 0)) M (st_R a b w v p)) := st_pZX (by decide) rfl (Or.inl rfl)
theorem ty_12 {k : Nat} {K : mm_Hp → Option α} : mm_pZ (st_h z X M (st_R a b w v p)) 12 7 k (nI 1) K = K (st_h z (st_u X 12 k (nI 1)) M (st_R a b w v p)) := st_pZX (by decide) rfl (Or.inr rfl)
theorem tzl_12 {k : Nat} {K : mm_Hp → Option α} : mm_pZ (st_h z X M (st_R a b w v p)) 12 7 k (0 : Int32) K = K (st_h z (st_u X 12 k (nI 0)) M (st_R a b w v p)) := tz_12
theorem tyl_12 {k : Nat} {K : mm_Hp → Option α} : mm_pZ (st_h z X M (st_R a b w v p)) 12 7 k (1 : Int32) K = K (st_h z (st_u X 12 k (nI 1)) M (st_R a b w v p)) := ty_12
theorem tv_12 {E : mm_Ev} {y : Nat} {as : List Value} {K : mm_Rs → Option α} : mm_iv E (st_h z X M (st_R a b w v p)) 7 y (.ref 12 :: as) K = (E y (.ref 12 :: as) (st_h z X M (st_R a b w v p))).bind K := t_iv rfl
theorem tf_13 {k : Nat} {K : Int32 → Option α} : mm_fI (st_h z X M (st_R a b w v p)) 13 3 k K = K (X 13 k) := st_fIX (by decide) rfl
theorem tp_13 {k : Nat} {u : Int32} {K : mm_Hp → Option α} : mm_pI (st_h z X M (st_R a b w v p)) 13 3 k u K = K (st_h z (st_u X 13 k u) M (st_R a b w v p)) := st_pIX (by decide) rfl
theorem tz_13 {k : Nat} {K : mm_Hp → Option α} : mm_pZ (st_h z X M (st_R a b w v p)) 13 3 k (nI 0) K = K (st_h z (st_u X 13 k (nI 0)) M (st_R a b w v p)) := st_pZX (by decide) rfl (Or.inl rfl)
theorem ty_13 {k : Nat} {K : mm_Hp → Option α} : mm_pZ (st_h z X M (st_R a b w v p)) 13 3 k (nI 1) K = K (st_h z (st_u X 13 k (nI 1)) M (st_R a b w v p)) := st_pZX (by decide) rfl (Or.inr rfl)
theorem tzl_13 {k : Nat} {K : mm_Hp → Option α} : mm_pZ (st_h z X M (st_R a b w v p)) 13 3 k (0 : Int32) K = K (st_h z (st_u X 13 k (nI 0)) M (st_R a b w v p)) := tz_13
theorem tyl_13 {k : Nat} {K : mm_Hp → Option α} : mm_pZ (st_h z X M (st_R a b w v p)) 13 3 k (1 : Int32) K = K (st_h z (st_u X 13 k (nI 1)) M (st_R a b w v p)) := ty_13
theorem tv_13 {E : mm_Ev} {y : Nat} {as : List Value} {K : mm_Rs → Option α} : mm_iv E (st_h z X M (st_R a b w v p)) 3 y (.ref 13 :: as) K = (E y (.ref 13 :: as) (st_h z X M (st_R a b w v p))).bind K := t_iv rfl
theorem ta_14 {i : Nat} {K : Int32 → Option α} (hi : i < 3) : mm_ld (st_h z X M (st_R a b w v p)) 0 14 (nI i) K = K (X 14 i) := by
  rw [st_ldX (n := 3) (by decide) rfl (vp_in_nI hi (by decide)), nI_clamp (by omega)]
theorem ts_14 {i : Nat} {u : Int32} {K : mm_Hp → Option α} (hi : i < 3) : mm_st (st_h z X M (st_R a b w v p)) 0 14 (nI i) u K = K (st_h z (st_u X 14 i u) M (st_R a b w v p)) := by
  rw [st_stX (n := 3) (by decide) rfl (vp_in_nI hi (by decide)), nI_clamp (by omega)]
theorem tb_14 {K : Int32 → Option α} : mm_ld (st_h z X M (st_R a b w v p)) 0 14 (0 : Int32) K = K (X 14 0) := ta_14 (i := 0) (by decide)
theorem tl_14 {K : Int32 → Option α} : mm_al (st_h z X M (st_R a b w v p)) 14 K = K (nI 3) := st_al rfl
theorem tf_15 {k : Nat} {K : Int32 → Option α} : mm_fI (st_h z X M (st_R a b w v p)) 15 2 k K = K (X 15 k) := st_fIX (by decide) rfl
theorem tp_15 {k : Nat} {u : Int32} {K : mm_Hp → Option α} : mm_pI (st_h z X M (st_R a b w v p)) 15 2 k u K = K (st_h z (st_u X 15 k u) M (st_R a b w v p)) := st_pIX (by decide) rfl
theorem tz_15 {k : Nat} {K : mm_Hp → Option α} : mm_pZ (st_h z X M (st_R a b w v p)) 15 2 k (nI 0) K = K (st_h z (st_u X 15 k (nI 0)) M (st_R a b w v p)) := st_pZX (by decide) rfl (Or.inl rfl)
theorem ty_15 {k : Nat} {K : mm_Hp → Option α} : mm_pZ (st_h z X M (st_R a b w v p)) 15 2 k (nI 1) K = K (st_h z (st_u X 15 k (nI 1)) M (st_R a b w v p)) := st_pZX (by decide) rfl (Or.inr rfl)
theorem tzl_15 {k : Nat} {K : mm_Hp → Option α} : mm_pZ (st_h z X M (st_R a b w v p)) 15 2 k (0 : Int32) K = K (st_h z (st_u X 15 k (nI 0)) M (st_R a b w v p)) := tz_15
theorem tyl_15 {k : Nat} {K : mm_Hp → Option α} : mm_pZ (st_h z X M (st_R a b w v p)) 15 2 k (1 : Int32) K = K (st_h z (st_u X 15 k (nI 1)) M (st_R a b w v p)) := ty_15
theorem tv_15 {E : mm_Ev} {y : Nat} {as : List Value} {K : mm_Rs → Option α} : mm_iv E (st_h z X M (st_R a b w v p)) 2 y (.ref 15 :: as) K = (E y (.ref 15 :: as) (st_h z X M (st_R a b w v p))).bind K := t_iv rfl
theorem ta_16 {i : Nat} {K : Int32 → Option α} (hi : i < 3) : mm_ld (st_h z X M (st_R a b w v p)) 0 16 (nI i) K = K (X 16 i) := by
  rw [st_ldX (n := 3) (by decide) rfl (vp_in_nI hi (by decide)), nI_clamp (by omega)]
theorem ts_16 {i : Nat} {u : Int32} {K : mm_Hp → Option α} (hi : i < 3) : mm_st (st_h z X M (st_R a b w v p)) 0 16 (nI i) u K = K (st_h z (st_u X 16 i u) M (st_R a b w v p)) := by
  rw [st_stX (n := 3) (by decide) rfl (vp_in_nI hi (by decide)), nI_clamp (by omega)]
theorem tb_16 {K : Int32 → Option α} : mm_ld (st_h z X M (st_R a b w v p)) 0 16 (0 : Int32) K = K (X 16 0) := ta_16 (i := 0) (by decide)
theorem tl_16 {K : Int32 → Option α} : mm_al (st_h z X M (st_R a b w v p)) 16 K = K (nI 3) := st_al rfl
theorem ta_17 {i : Nat} {K : Int32 → Option α} (hi : i < 3) : mm_ld (st_h z X M (st_R a b w v p)) 0 17 (nI i) K = K (X 17 i) := by
  rw [st_ldX (n := 3) (by decide) rfl (vp_in_nI hi (by decide)), nI_clamp (by omega)]
theorem ts_17 {i : Nat} {u : Int32} {K : mm_Hp → Option α} (hi : i < 3) : mm_st (st_h z X M (st_R a b w v p)) 0 17 (nI i) u K = K (st_h z (st_u X 17 i u) M (st_R a b w v p)) := by
  rw [st_stX (n := 3) (by decide) rfl (vp_in_nI hi (by decide)), nI_clamp (by omega)]
theorem tb_17 {K : Int32 → Option α} : mm_ld (st_h z X M (st_R a b w v p)) 0 17 (0 : Int32) K = K (X 17 0) := ta_17 (i := 0) (by decide)
theorem tl_17 {K : Int32 → Option α} : mm_al (st_h z X M (st_R a b w v p)) 17 K = K (nI 3) := st_al rfl
theorem ta_19 {i : Nat} {K : Int32 → Option α} (hi : i < 3) : mm_ld (st_h z X M (st_R a b w v p)) 0 19 (nI i) K = K (X 19 i) := by
  rw [st_ldX (n := 3) (by decide) rfl (vp_in_nI hi (by decide)), nI_clamp (by omega)]
theorem ts_19 {i : Nat} {u : Int32} {K : mm_Hp → Option α} (hi : i < 3) : mm_st (st_h z X M (st_R a b w v p)) 0 19 (nI i) u K = K (st_h z (st_u X 19 i u) M (st_R a b w v p)) := by
  rw [st_stX (n := 3) (by decide) rfl (vp_in_nI hi (by decide)), nI_clamp (by omega)]
theorem tb_19 {K : Int32 → Option α} : mm_ld (st_h z X M (st_R a b w v p)) 0 19 (0 : Int32) K = K (X 19 0) := ta_19 (i := 0) (by decide)
theorem tl_19 {K : Int32 → Option α} : mm_al (st_h z X M (st_R a b w v p)) 19 K = K (nI 3) := st_al rfl
theorem tf_44 {k : Nat} {K : Int32 → Option α} : mm_fI (st_h z X M (st_R a b w v p)) 44 4 k K = K (X 44 k) := st_fIX (by decide) rfl
theorem tp_44 {k : Nat} {u : Int32} {K : mm_Hp → Option α} : mm_pI (st_h z X M (st_R a b w v p)) 44 4 k u K = K (st_h z (st_u X 44 k u) M (st_R a b w v p)) := st_pIX (by decide) rfl
theorem tz_44 {k : Nat} {K : mm_Hp → Option α} : mm_pZ (st_h z X M (st_R a b w v p)) 44 4 k (nI 0) K = K (st_h z (st_u X 44 k (nI 0)) M (st_R a b w v p)) := st_pZX (by decide) rfl (Or.inl rfl)
theorem ty_44 {k : Nat} {K : mm_Hp → Option α} : mm_pZ (st_h z X M (st_R a b w v p)) 44 4 k (nI 1) K = K (st_h z (st_u X 44 k (nI 1)) M (st_R a b w v p)) := st_pZX (by decide) rfl (Or.inr rfl)
theorem tzl_44 {k : Nat} {K : mm_Hp → Option α} : mm_pZ (st_h z X M (st_R a b w v p)) 44 4 k (0 : Int32) K = K (st_h z (st_u X 44 k (nI 0)) M (st_R a b w v p)) := tz_44
theorem tyl_44 {k : Nat} {K : mm_Hp → Option α} : mm_pZ (st_h z X M (st_R a b w v p)) 44 4 k (1 : Int32) K = K (st_h z (st_u X 44 k (nI 1)) M (st_R a b w v p)) := ty_44
theorem tv_44 {E : mm_Ev} {y : Nat} {as : List Value} {K : mm_Rs → Option α} : mm_iv E (st_h z X M (st_R a b w v p)) 4 y (.ref 44 :: as) K = (E y (.ref 44 :: as) (st_h z X M (st_R a b w v p))).bind K := t_iv rfl
theorem ta_45 {i : Nat} {K : Int32 → Option α} (hi : i < 3) : mm_ld (st_h z X M (st_R a b w v p)) 0 45 (nI i) K = K (X 45 i) := by
  rw [st_ldX (n := 3) (by decide) rfl (vp_in_nI hi (by decide)), nI_clamp (by omega)]
theorem ts_45 {i : Nat} {u : Int32} {K : mm_Hp → Option α} (hi : i < 3) : mm_st (st_h z X M (st_R a b w v p)) 0 45 (nI i) u K = K (st_h z (st_u X 45 i u) M (st_R a b w v p)) := by
  rw [st_stX (n := 3) (by decide) rfl (vp_in_nI hi (by decide)), nI_clamp (by omega)]
theorem tb_45 {K : Int32 → Option α} : mm_ld (st_h z X M (st_R a b w v p)) 0 45 (0 : Int32) K = K (X 45 0) := ta_45 (i := 0) (by decide)
theorem tl_45 {K : Int32 → Option α} : mm_al (st_h z X M (st_R a b w v p)) 45 K = K (nI 3) := st_al rfl
theorem ta_46 {i : Nat} {K : Int32 → Option α} (hi : i < 1000) : mm_ld (st_h z X M (st_R a b w v p)) 0 46 (nI i) K = K (X 46 i) := by
  rw [st_ldX (n := 1000) (by decide) rfl (vp_in_nI hi (by decide)), nI_clamp (by omega)]
theorem ts_46 {i : Nat} {u : Int32} {K : mm_Hp → Option α} (hi : i < 1000) : mm_st (st_h z X M (st_R a b w v p)) 0 46 (nI i) u K = K (st_h z (st_u X 46 i u) M (st_R a b w v p)) := by
  rw [st_stX (n := 1000) (by decide) rfl (vp_in_nI hi (by decide)), nI_clamp (by omega)]
theorem tb_46 {K : Int32 → Option α} : mm_ld (st_h z X M (st_R a b w v p)) 0 46 (0 : Int32) K = K (X 46 0) := ta_46 (i := 0) (by decide)
theorem tl_46 {K : Int32 → Option α} : mm_al (st_h z X M (st_R a b w v p)) 46 K = K (nI 1000) := st_al rfl
theorem ta_47 {i : Nat} {K : Int32 → Option α} (hi : i < 64) : mm_ld (st_h z X M (st_R a b w v p)) 0 47 (nI i) K = K (X 47 i) := by
  rw [st_ldX (n := 64) (by decide) rfl (vp_in_nI hi (by decide)), nI_clamp (by omega)]
theorem ts_47 {i : Nat} {u : Int32} {K : mm_Hp → Option α} (hi : i < 64) : mm_st (st_h z X M (st_R a b w v p)) 0 47 (nI i) u K = K (st_h z (st_u X 47 i u) M (st_R a b w v p)) := by
  rw [st_stX (n := 64) (by decide) rfl (vp_in_nI hi (by decide)), nI_clamp (by omega)]
theorem tb_47 {K : Int32 → Option α} : mm_ld (st_h z X M (st_R a b w v p)) 0 47 (0 : Int32) K = K (X 47 0) := ta_47 (i := 0) (by decide)
theorem tl_47 {K : Int32 → Option α} : mm_al (st_h z X M (st_R a b w v p)) 47 K = K (nI 64) := st_al rfl
theorem tf_70 {k : Nat} {K : Int32 → Option α} : mm_fI (st_h z X M (st_R a b w v p)) 70 11 k K = K (M 70 k) := st_fIM (by decide) rfl
theorem tp_70 {k : Nat} {u : Int32} {K : mm_Hp → Option α} : mm_pI (st_h z X M (st_R a b w v p)) 70 11 k u K = K (st_h z X (st_u M 70 k u) (st_R a b w v p)) := st_pIM (by decide) rfl
theorem tz_70 {k : Nat} {K : mm_Hp → Option α} : mm_pZ (st_h z X M (st_R a b w v p)) 70 11 k (nI 0) K = K (st_h z X (st_u M 70 k (nI 0)) (st_R a b w v p)) := st_pZM (by decide) rfl (Or.inl rfl)
theorem ty_70 {k : Nat} {K : mm_Hp → Option α} : mm_pZ (st_h z X M (st_R a b w v p)) 70 11 k (nI 1) K = K (st_h z X (st_u M 70 k (nI 1)) (st_R a b w v p)) := st_pZM (by decide) rfl (Or.inr rfl)
theorem tzl_70 {k : Nat} {K : mm_Hp → Option α} : mm_pZ (st_h z X M (st_R a b w v p)) 70 11 k (0 : Int32) K = K (st_h z X (st_u M 70 k (nI 0)) (st_R a b w v p)) := tz_70
theorem tyl_70 {k : Nat} {K : mm_Hp → Option α} : mm_pZ (st_h z X M (st_R a b w v p)) 70 11 k (1 : Int32) K = K (st_h z X (st_u M 70 k (nI 1)) (st_R a b w v p)) := ty_70
theorem tv_70 {E : mm_Ev} {y : Nat} {as : List Value} {K : mm_Rs → Option α} : mm_iv E (st_h z X M (st_R a b w v p)) 11 y (.ref 70 :: as) K = (E y (.ref 70 :: as) (st_h z X M (st_R a b w v p))).bind K := t_iv rfl
theorem ta_71 {i : Nat} {K : Int32 → Option α} (hi : i < 6000) : mm_ld (st_h z X M (st_R a b w v p)) 0 71 (nI i) K = K (M 71 i) := by
  rw [st_ldM (n := 6000) (by decide) rfl (vp_in_nI hi (by decide)), nI_clamp (by omega)]
theorem ts_71 {i : Nat} {u : Int32} {K : mm_Hp → Option α} (hi : i < 6000) : mm_st (st_h z X M (st_R a b w v p)) 0 71 (nI i) u K = K (st_h z X (st_u M 71 i u) (st_R a b w v p)) := by
  rw [st_stM (n := 6000) (by decide) rfl (vp_in_nI hi (by decide)), nI_clamp (by omega)]
theorem tb_71 {K : Int32 → Option α} : mm_ld (st_h z X M (st_R a b w v p)) 0 71 (0 : Int32) K = K (M 71 0) := ta_71 (i := 0) (by decide)
theorem tl_71 {K : Int32 → Option α} : mm_al (st_h z X M (st_R a b w v p)) 71 K = K (nI 6000) := st_al rfl
theorem ta_72 {i : Nat} {K : Int32 → Option α} (hi : i < 12000) : mm_ld (st_h z X M (st_R a b w v p)) 1 72 (nI i) K = K (M 72 i) := by
  rw [st_ldM (n := 12000) (by decide) rfl (vp_in_nI hi (by decide)), nI_clamp (by omega)]
theorem ts_72 {i : Nat} {u : Int32} {K : mm_Hp → Option α} (hi : i < 12000) : mm_st (st_h z X M (st_R a b w v p)) 1 72 (nI i) u K = K (st_h z X (st_u M 72 i u) (st_R a b w v p)) := by
  rw [st_stM (n := 12000) (by decide) rfl (vp_in_nI hi (by decide)), nI_clamp (by omega)]
theorem tb_72 {K : Int32 → Option α} : mm_ld (st_h z X M (st_R a b w v p)) 1 72 (0 : Int32) K = K (M 72 0) := ta_72 (i := 0) (by decide)
theorem tl_72 {K : Int32 → Option α} : mm_al (st_h z X M (st_R a b w v p)) 72 K = K (nI 12000) := st_al rfl
theorem ta_73 {i : Nat} {K : Int32 → Option α} (hi : i < 2) : mm_ld (st_h z X M (st_R a b w v p)) 0 73 (nI i) K = K (M 73 i) := by
  rw [st_ldM (n := 2) (by decide) rfl (vp_in_nI hi (by decide)), nI_clamp (by omega)]
theorem ts_73 {i : Nat} {u : Int32} {K : mm_Hp → Option α} (hi : i < 2) : mm_st (st_h z X M (st_R a b w v p)) 0 73 (nI i) u K = K (st_h z X (st_u M 73 i u) (st_R a b w v p)) := by
  rw [st_stM (n := 2) (by decide) rfl (vp_in_nI hi (by decide)), nI_clamp (by omega)]
theorem tb_73 {K : Int32 → Option α} : mm_ld (st_h z X M (st_R a b w v p)) 0 73 (0 : Int32) K = K (M 73 0) := ta_73 (i := 0) (by decide)
theorem tl_73 {K : Int32 → Option α} : mm_al (st_h z X M (st_R a b w v p)) 73 K = K (nI 2) := st_al rfl
theorem ta_74 {i : Nat} {K : Int32 → Option α} (hi : i < 2) : mm_ld (st_h z X M (st_R a b w v p)) 0 74 (nI i) K = K (M 74 i) := by
  rw [st_ldM (n := 2) (by decide) rfl (vp_in_nI hi (by decide)), nI_clamp (by omega)]
theorem ts_74 {i : Nat} {u : Int32} {K : mm_Hp → Option α} (hi : i < 2) : mm_st (st_h z X M (st_R a b w v p)) 0 74 (nI i) u K = K (st_h z X (st_u M 74 i u) (st_R a b w v p)) := by
  rw [st_stM (n := 2) (by decide) rfl (vp_in_nI hi (by decide)), nI_clamp (by omega)]
theorem tb_74 {K : Int32 → Option α} : mm_ld (st_h z X M (st_R a b w v p)) 0 74 (0 : Int32) K = K (M 74 0) := ta_74 (i := 0) (by decide)
theorem tl_74 {K : Int32 → Option α} : mm_al (st_h z X M (st_R a b w v p)) 74 K = K (nI 2) := st_al rfl
theorem ta_75 {i : Nat} {K : Int32 → Option α} (hi : i < 2) : mm_ld (st_h z X M (st_R a b w v p)) 0 75 (nI i) K = K (M 75 i) := by
  rw [st_ldM (n := 2) (by decide) rfl (vp_in_nI hi (by decide)), nI_clamp (by omega)]
theorem ts_75 {i : Nat} {u : Int32} {K : mm_Hp → Option α} (hi : i < 2) : mm_st (st_h z X M (st_R a b w v p)) 0 75 (nI i) u K = K (st_h z X (st_u M 75 i u) (st_R a b w v p)) := by
  rw [st_stM (n := 2) (by decide) rfl (vp_in_nI hi (by decide)), nI_clamp (by omega)]
theorem tb_75 {K : Int32 → Option α} : mm_ld (st_h z X M (st_R a b w v p)) 0 75 (0 : Int32) K = K (M 75 0) := ta_75 (i := 0) (by decide)
theorem tl_75 {K : Int32 → Option α} : mm_al (st_h z X M (st_R a b w v p)) 75 K = K (nI 2) := st_al rfl
theorem ta_76 {i : Nat} {K : Int32 → Option α} (hi : i < 2) : mm_ld (st_h z X M (st_R a b w v p)) 0 76 (nI i) K = K (M 76 i) := by
  rw [st_ldM (n := 2) (by decide) rfl (vp_in_nI hi (by decide)), nI_clamp (by omega)]
theorem ts_76 {i : Nat} {u : Int32} {K : mm_Hp → Option α} (hi : i < 2) : mm_st (st_h z X M (st_R a b w v p)) 0 76 (nI i) u K = K (st_h z X (st_u M 76 i u) (st_R a b w v p)) := by
  rw [st_stM (n := 2) (by decide) rfl (vp_in_nI hi (by decide)), nI_clamp (by omega)]
theorem tb_76 {K : Int32 → Option α} : mm_ld (st_h z X M (st_R a b w v p)) 0 76 (0 : Int32) K = K (M 76 0) := ta_76 (i := 0) (by decide)
theorem tl_76 {K : Int32 → Option α} : mm_al (st_h z X M (st_R a b w v p)) 76 K = K (nI 2) := st_al rfl
theorem ta_77 {i : Nat} {K : Int32 → Option α} (hi : i < 2) : mm_ld (st_h z X M (st_R a b w v p)) 0 77 (nI i) K = K (M 77 i) := by
  rw [st_ldM (n := 2) (by decide) rfl (vp_in_nI hi (by decide)), nI_clamp (by omega)]
theorem ts_77 {i : Nat} {u : Int32} {K : mm_Hp → Option α} (hi : i < 2) : mm_st (st_h z X M (st_R a b w v p)) 0 77 (nI i) u K = K (st_h z X (st_u M 77 i u) (st_R a b w v p)) := by
  rw [st_stM (n := 2) (by decide) rfl (vp_in_nI hi (by decide)), nI_clamp (by omega)]
theorem tb_77 {K : Int32 → Option α} : mm_ld (st_h z X M (st_R a b w v p)) 0 77 (0 : Int32) K = K (M 77 0) := ta_77 (i := 0) (by decide)
theorem tl_77 {K : Int32 → Option α} : mm_al (st_h z X M (st_R a b w v p)) 77 K = K (nI 2) := st_al rfl
theorem ta_78 {i : Nat} {K : Int32 → Option α} (hi : i < 6) : mm_ld (st_h z X M (st_R a b w v p)) 0 78 (nI i) K = K (M 78 i) := by
  rw [st_ldM (n := 6) (by decide) rfl (vp_in_nI hi (by decide)), nI_clamp (by omega)]
theorem ts_78 {i : Nat} {u : Int32} {K : mm_Hp → Option α} (hi : i < 6) : mm_st (st_h z X M (st_R a b w v p)) 0 78 (nI i) u K = K (st_h z X (st_u M 78 i u) (st_R a b w v p)) := by
  rw [st_stM (n := 6) (by decide) rfl (vp_in_nI hi (by decide)), nI_clamp (by omega)]
theorem tb_78 {K : Int32 → Option α} : mm_ld (st_h z X M (st_R a b w v p)) 0 78 (0 : Int32) K = K (M 78 0) := ta_78 (i := 0) (by decide)
theorem tl_78 {K : Int32 → Option α} : mm_al (st_h z X M (st_R a b w v p)) 78 K = K (nI 6) := st_al rfl
theorem ta_79 {i : Nat} {K : Int32 → Option α} (hi : i < 6) : mm_ld (st_h z X M (st_R a b w v p)) 0 79 (nI i) K = K (M 79 i) := by
  rw [st_ldM (n := 6) (by decide) rfl (vp_in_nI hi (by decide)), nI_clamp (by omega)]
theorem ts_79 {i : Nat} {u : Int32} {K : mm_Hp → Option α} (hi : i < 6) : mm_st (st_h z X M (st_R a b w v p)) 0 79 (nI i) u K = K (st_h z X (st_u M 79 i u) (st_R a b w v p)) := by
  rw [st_stM (n := 6) (by decide) rfl (vp_in_nI hi (by decide)), nI_clamp (by omega)]
theorem tb_79 {K : Int32 → Option α} : mm_ld (st_h z X M (st_R a b w v p)) 0 79 (0 : Int32) K = K (M 79 0) := ta_79 (i := 0) (by decide)
theorem tl_79 {K : Int32 → Option α} : mm_al (st_h z X M (st_R a b w v p)) 79 K = K (nI 6) := st_al rfl
theorem ta_80 {i : Nat} {K : Int32 → Option α} (hi : i < 6) : mm_ld (st_h z X M (st_R a b w v p)) 0 80 (nI i) K = K (M 80 i) := by
  rw [st_ldM (n := 6) (by decide) rfl (vp_in_nI hi (by decide)), nI_clamp (by omega)]
theorem ts_80 {i : Nat} {u : Int32} {K : mm_Hp → Option α} (hi : i < 6) : mm_st (st_h z X M (st_R a b w v p)) 0 80 (nI i) u K = K (st_h z X (st_u M 80 i u) (st_R a b w v p)) := by
  rw [st_stM (n := 6) (by decide) rfl (vp_in_nI hi (by decide)), nI_clamp (by omega)]
theorem tb_80 {K : Int32 → Option α} : mm_ld (st_h z X M (st_R a b w v p)) 0 80 (0 : Int32) K = K (M 80 0) := ta_80 (i := 0) (by decide)
theorem tl_80 {K : Int32 → Option α} : mm_al (st_h z X M (st_R a b w v p)) 80 K = K (nI 6) := st_al rfl
theorem ta_81 {i : Nat} {K : Int32 → Option α} (hi : i < 13824) : mm_ld (st_h z X M (st_R a b w v p)) 0 81 (nI i) K = K (M 81 i) := by
  rw [st_ldM (n := 13824) (by decide) rfl (vp_in_nI hi (by decide)), nI_clamp (by omega)]
theorem ts_81 {i : Nat} {u : Int32} {K : mm_Hp → Option α} (hi : i < 13824) : mm_st (st_h z X M (st_R a b w v p)) 0 81 (nI i) u K = K (st_h z X (st_u M 81 i u) (st_R a b w v p)) := by
  rw [st_stM (n := 13824) (by decide) rfl (vp_in_nI hi (by decide)), nI_clamp (by omega)]
theorem tb_81 {K : Int32 → Option α} : mm_ld (st_h z X M (st_R a b w v p)) 0 81 (0 : Int32) K = K (M 81 0) := ta_81 (i := 0) (by decide)
theorem tl_81 {K : Int32 → Option α} : mm_al (st_h z X M (st_R a b w v p)) 81 K = K (nI 13824) := st_al rfl
theorem ta_82 {i : Nat} {K : Int32 → Option α} (hi : i < 9600) : mm_ld (st_h z X M (st_R a b w v p)) 0 82 (nI i) K = K (M 82 i) := by
  rw [st_ldM (n := 9600) (by decide) rfl (vp_in_nI hi (by decide)), nI_clamp (by omega)]
theorem ts_82 {i : Nat} {u : Int32} {K : mm_Hp → Option α} (hi : i < 9600) : mm_st (st_h z X M (st_R a b w v p)) 0 82 (nI i) u K = K (st_h z X (st_u M 82 i u) (st_R a b w v p)) := by
  rw [st_stM (n := 9600) (by decide) rfl (vp_in_nI hi (by decide)), nI_clamp (by omega)]
theorem tb_82 {K : Int32 → Option α} : mm_ld (st_h z X M (st_R a b w v p)) 0 82 (0 : Int32) K = K (M 82 0) := ta_82 (i := 0) (by decide)
theorem tl_82 {K : Int32 → Option α} : mm_al (st_h z X M (st_R a b w v p)) 82 K = K (nI 9600) := st_al rfl
theorem ta_83 {i : Nat} {K : Int32 → Option α} (hi : i < 384) : mm_ld (st_h z X M (st_R a b w v p)) 0 83 (nI i) K = K (M 83 i) := by
  rw [st_ldM (n := 384) (by decide) rfl (vp_in_nI hi (by decide)), nI_clamp (by omega)]
theorem ts_83 {i : Nat} {u : Int32} {K : mm_Hp → Option α} (hi : i < 384) : mm_st (st_h z X M (st_R a b w v p)) 0 83 (nI i) u K = K (st_h z X (st_u M 83 i u) (st_R a b w v p)) := by
  rw [st_stM (n := 384) (by decide) rfl (vp_in_nI hi (by decide)), nI_clamp (by omega)]
theorem tb_83 {K : Int32 → Option α} : mm_ld (st_h z X M (st_R a b w v p)) 0 83 (0 : Int32) K = K (M 83 0) := ta_83 (i := 0) (by decide)
theorem tl_83 {K : Int32 → Option α} : mm_al (st_h z X M (st_R a b w v p)) 83 K = K (nI 384) := st_al rfl
theorem ta_84 {i : Nat} {K : Int32 → Option α} (hi : i < 300) : mm_ld (st_h z X M (st_R a b w v p)) 0 84 (nI i) K = K (M 84 i) := by
  rw [st_ldM (n := 300) (by decide) rfl (vp_in_nI hi (by decide)), nI_clamp (by omega)]
theorem ts_84 {i : Nat} {u : Int32} {K : mm_Hp → Option α} (hi : i < 300) : mm_st (st_h z X M (st_R a b w v p)) 0 84 (nI i) u K = K (st_h z X (st_u M 84 i u) (st_R a b w v p)) := by
  rw [st_stM (n := 300) (by decide) rfl (vp_in_nI hi (by decide)), nI_clamp (by omega)]
theorem tb_84 {K : Int32 → Option α} : mm_ld (st_h z X M (st_R a b w v p)) 0 84 (0 : Int32) K = K (M 84 0) := ta_84 (i := 0) (by decide)
theorem tl_84 {K : Int32 → Option α} : mm_al (st_h z X M (st_R a b w v p)) 84 K = K (nI 300) := st_al rfl
theorem ta_85 {i : Nat} {K : Int32 → Option α} (hi : i < 192) : mm_ld (st_h z X M (st_R a b w v p)) 0 85 (nI i) K = K (M 85 i) := by
  rw [st_ldM (n := 192) (by decide) rfl (vp_in_nI hi (by decide)), nI_clamp (by omega)]
theorem ts_85 {i : Nat} {u : Int32} {K : mm_Hp → Option α} (hi : i < 192) : mm_st (st_h z X M (st_R a b w v p)) 0 85 (nI i) u K = K (st_h z X (st_u M 85 i u) (st_R a b w v p)) := by
  rw [st_stM (n := 192) (by decide) rfl (vp_in_nI hi (by decide)), nI_clamp (by omega)]
theorem tb_85 {K : Int32 → Option α} : mm_ld (st_h z X M (st_R a b w v p)) 0 85 (0 : Int32) K = K (M 85 0) := ta_85 (i := 0) (by decide)
theorem tl_85 {K : Int32 → Option α} : mm_al (st_h z X M (st_R a b w v p)) 85 K = K (nI 192) := st_al rfl
theorem ta_86 {i : Nat} {K : Int32 → Option α} (hi : i < 3) : mm_ld (st_h z X M (st_R a b w v p)) 0 86 (nI i) K = K (M 86 i) := by
  rw [st_ldM (n := 3) (by decide) rfl (vp_in_nI hi (by decide)), nI_clamp (by omega)]
theorem ts_86 {i : Nat} {u : Int32} {K : mm_Hp → Option α} (hi : i < 3) : mm_st (st_h z X M (st_R a b w v p)) 0 86 (nI i) u K = K (st_h z X (st_u M 86 i u) (st_R a b w v p)) := by
  rw [st_stM (n := 3) (by decide) rfl (vp_in_nI hi (by decide)), nI_clamp (by omega)]
theorem tb_86 {K : Int32 → Option α} : mm_ld (st_h z X M (st_R a b w v p)) 0 86 (0 : Int32) K = K (M 86 0) := ta_86 (i := 0) (by decide)
theorem tl_86 {K : Int32 → Option α} : mm_al (st_h z X M (st_R a b w v p)) 86 K = K (nI 3) := st_al rfl
theorem ta_87 {i : Nat} {K : Int32 → Option α} (hi : i < 12000) : mm_ld (st_h z X M (st_R a b w v p)) 1 87 (nI i) K = K (M 87 i) := by
  rw [st_ldM (n := 12000) (by decide) rfl (vp_in_nI hi (by decide)), nI_clamp (by omega)]
theorem ts_87 {i : Nat} {u : Int32} {K : mm_Hp → Option α} (hi : i < 12000) : mm_st (st_h z X M (st_R a b w v p)) 1 87 (nI i) u K = K (st_h z X (st_u M 87 i u) (st_R a b w v p)) := by
  rw [st_stM (n := 12000) (by decide) rfl (vp_in_nI hi (by decide)), nI_clamp (by omega)]
theorem tb_87 {K : Int32 → Option α} : mm_ld (st_h z X M (st_R a b w v p)) 1 87 (0 : Int32) K = K (M 87 0) := ta_87 (i := 0) (by decide)
theorem tl_87 {K : Int32 → Option α} : mm_al (st_h z X M (st_R a b w v p)) 87 K = K (nI 12000) := st_al rfl
theorem ta_88 {i : Nat} {K : Int32 → Option α} (hi : i < 136) : mm_ld (st_h z X M (st_R a b w v p)) 0 88 (nI i) K = K (M 88 i) := by
  rw [st_ldM (n := 136) (by decide) rfl (vp_in_nI hi (by decide)), nI_clamp (by omega)]
theorem ts_88 {i : Nat} {u : Int32} {K : mm_Hp → Option α} (hi : i < 136) : mm_st (st_h z X M (st_R a b w v p)) 0 88 (nI i) u K = K (st_h z X (st_u M 88 i u) (st_R a b w v p)) := by
  rw [st_stM (n := 136) (by decide) rfl (vp_in_nI hi (by decide)), nI_clamp (by omega)]
theorem tb_88 {K : Int32 → Option α} : mm_ld (st_h z X M (st_R a b w v p)) 0 88 (0 : Int32) K = K (M 88 0) := ta_88 (i := 0) (by decide)
theorem tl_88 {K : Int32 → Option α} : mm_al (st_h z X M (st_R a b w v p)) 88 K = K (nI 136) := st_al rfl
theorem ta_89 {i : Nat} {K : Int32 → Option α} (hi : i < 2048) : mm_ld (st_h z X M (st_R a b w v p)) 0 89 (nI i) K = K (M 89 i) := by
  rw [st_ldM (n := 2048) (by decide) rfl (vp_in_nI hi (by decide)), nI_clamp (by omega)]
theorem ts_89 {i : Nat} {u : Int32} {K : mm_Hp → Option α} (hi : i < 2048) : mm_st (st_h z X M (st_R a b w v p)) 0 89 (nI i) u K = K (st_h z X (st_u M 89 i u) (st_R a b w v p)) := by
  rw [st_stM (n := 2048) (by decide) rfl (vp_in_nI hi (by decide)), nI_clamp (by omega)]
theorem tb_89 {K : Int32 → Option α} : mm_ld (st_h z X M (st_R a b w v p)) 0 89 (0 : Int32) K = K (M 89 0) := ta_89 (i := 0) (by decide)
theorem tl_89 {K : Int32 → Option α} : mm_al (st_h z X M (st_R a b w v p)) 89 K = K (nI 2048) := st_al rfl
theorem ta_90 {i : Nat} {K : Int32 → Option α} (hi : i < 8) : mm_ld (st_h z X M (st_R a b w v p)) 2 90 (nI i) K = K (M 90 i) := by
  rw [st_ldM (n := 8) (by decide) rfl (vp_in_nI hi (by decide)), nI_clamp (by omega)]
theorem ts_90 {i : Nat} {u : Int32} {K : mm_Hp → Option α} (hi : i < 8) : mm_st (st_h z X M (st_R a b w v p)) 2 90 (nI i) u K = K (st_h z X (st_u M 90 i u) (st_R a b w v p)) := by
  rw [st_stM (n := 8) (by decide) rfl (vp_in_nI hi (by decide)), nI_clamp (by omega)]
theorem tb_90 {K : Int32 → Option α} : mm_ld (st_h z X M (st_R a b w v p)) 2 90 (0 : Int32) K = K (M 90 0) := ta_90 (i := 0) (by decide)
theorem tl_90 {K : Int32 → Option α} : mm_al (st_h z X M (st_R a b w v p)) 90 K = K (nI 8) := st_al rfl
theorem ta_91 {i : Nat} {K : Int32 → Option α} (hi : i < 3) : mm_ld (st_h z X M (st_R a b w v p)) 0 91 (nI i) K = K (M 91 i) := by
  rw [st_ldM (n := 3) (by decide) rfl (vp_in_nI hi (by decide)), nI_clamp (by omega)]
theorem ts_91 {i : Nat} {u : Int32} {K : mm_Hp → Option α} (hi : i < 3) : mm_st (st_h z X M (st_R a b w v p)) 0 91 (nI i) u K = K (st_h z X (st_u M 91 i u) (st_R a b w v p)) := by
  rw [st_stM (n := 3) (by decide) rfl (vp_in_nI hi (by decide)), nI_clamp (by omega)]
theorem tb_91 {K : Int32 → Option α} : mm_ld (st_h z X M (st_R a b w v p)) 0 91 (0 : Int32) K = K (M 91 0) := ta_91 (i := 0) (by decide)
theorem tl_91 {K : Int32 → Option α} : mm_al (st_h z X M (st_R a b w v p)) 91 K = K (nI 3) := st_al rfl
theorem ta_92 {i : Nat} {K : Int32 → Option α} (hi : i < 1100) : mm_ld (st_h z X M (st_R a b w v p)) 1 92 (nI i) K = K (M 92 i) := by
  rw [st_ldM (n := 1100) (by decide) rfl (vp_in_nI hi (by decide)), nI_clamp (by omega)]
theorem ts_92 {i : Nat} {u : Int32} {K : mm_Hp → Option α} (hi : i < 1100) : mm_st (st_h z X M (st_R a b w v p)) 1 92 (nI i) u K = K (st_h z X (st_u M 92 i u) (st_R a b w v p)) := by
  rw [st_stM (n := 1100) (by decide) rfl (vp_in_nI hi (by decide)), nI_clamp (by omega)]
theorem tb_92 {K : Int32 → Option α} : mm_ld (st_h z X M (st_R a b w v p)) 1 92 (0 : Int32) K = K (M 92 0) := ta_92 (i := 0) (by decide)
theorem tl_92 {K : Int32 → Option α} : mm_al (st_h z X M (st_R a b w v p)) 92 K = K (nI 1100) := st_al rfl
theorem ta_93 {i : Nat} {K : Int32 → Option α} (hi : i < 64) : mm_ld (st_h z X M (st_R a b w v p)) 1 93 (nI i) K = K (M 93 i) := by
  rw [st_ldM (n := 64) (by decide) rfl (vp_in_nI hi (by decide)), nI_clamp (by omega)]
theorem ts_93 {i : Nat} {u : Int32} {K : mm_Hp → Option α} (hi : i < 64) : mm_st (st_h z X M (st_R a b w v p)) 1 93 (nI i) u K = K (st_h z X (st_u M 93 i u) (st_R a b w v p)) := by
  rw [st_stM (n := 64) (by decide) rfl (vp_in_nI hi (by decide)), nI_clamp (by omega)]
theorem tb_93 {K : Int32 → Option α} : mm_ld (st_h z X M (st_R a b w v p)) 1 93 (0 : Int32) K = K (M 93 0) := ta_93 (i := 0) (by decide)
theorem tl_93 {K : Int32 → Option α} : mm_al (st_h z X M (st_R a b w v p)) 93 K = K (nI 64) := st_al rfl
theorem ta_94 {i : Nat} {K : Int32 → Option α} (hi : i < 4800) : mm_ld (st_h z X M (st_R a b w v p)) 0 94 (nI i) K = K (M 94 i) := by
  rw [st_ldM (n := 4800) (by decide) rfl (vp_in_nI hi (by decide)), nI_clamp (by omega)]
theorem ts_94 {i : Nat} {u : Int32} {K : mm_Hp → Option α} (hi : i < 4800) : mm_st (st_h z X M (st_R a b w v p)) 0 94 (nI i) u K = K (st_h z X (st_u M 94 i u) (st_R a b w v p)) := by
  rw [st_stM (n := 4800) (by decide) rfl (vp_in_nI hi (by decide)), nI_clamp (by omega)]
theorem tb_94 {K : Int32 → Option α} : mm_ld (st_h z X M (st_R a b w v p)) 0 94 (0 : Int32) K = K (M 94 0) := ta_94 (i := 0) (by decide)
theorem tl_94 {K : Int32 → Option α} : mm_al (st_h z X M (st_R a b w v p)) 94 K = K (nI 4800) := st_al rfl
theorem ta_18 {i : Nat} {K : Nat → Option α} (hi : i < 8) : mm_lr (st_h z X M (st_R a b w v p)) 18 (nI i) K = K (20 + 3 * i) := by
  refine st_lr (n := 8) rfl (vp_in_nI hi (by decide)) ?_
  rw [nI_clamp (by omega)]
  rcases i with _ | _ | _ | _ | _ | _ | _ | _ | i <;> first | rfl | exact absurd hi (by omega)
theorem tr_0_0 {K : Nat → Option α} : mm_fR (st_h z X M (st_R a b w v p)) 0 10 0 K = K 4 := st_fR rfl rfl
theorem tr_0_1 {K : Nat → Option α} : mm_fR (st_h z X M (st_R a b w v p)) 0 10 1 K = K 6 := st_fR rfl rfl
theorem tr_0_2 {K : Nat → Option α} : mm_fR (st_h z X M (st_R a b w v p)) 0 10 2 K = K 9 := st_fR rfl rfl
theorem tr_0_3 {K : Nat → Option α} : mm_fR (st_h z X M (st_R a b w v p)) 0 10 3 K = K 12 := st_fR rfl rfl
theorem tr_0_4 {K : Nat → Option α} : mm_fR (st_h z X M (st_R a b w v p)) 0 10 4 K = K 44 := st_fR rfl rfl
theorem tr_1_0 {K : Nat → Option α} : mm_fR (st_h z X M (st_R a b w v p)) 1 0 0 K = K 2 := st_fR rfl rfl
theorem tr_1_1 {K : Nat → Option α} : mm_fR (st_h z X M (st_R a b w v p)) 1 0 1 K = K 3 := st_fR rfl rfl
theorem tr_4_0 {K : Nat → Option α} : mm_fR (st_h z X M (st_R a b w v p)) 4 9 0 K = K 5 := st_fR rfl rfl
theorem tr_6_0 {K : Nat → Option α} : mm_fR (st_h z X M (st_R a b w v p)) 6 5 0 K = K 7 := st_fR rfl rfl
theorem tr_6_1 {K : Nat → Option α} : mm_fR (st_h z X M (st_R a b w v p)) 6 5 1 K = K 8 := st_fR rfl rfl
theorem tr_9_6 {K : Nat → Option α} : mm_fR (st_h z X M (st_R a b w v p)) 9 2 6 K = K 10 := st_fR rfl rfl
theorem tr_9_7 {K : Nat → Option α} : mm_fR (st_h z X M (st_R a b w v p)) 9 2 7 K = K 11 := st_fR rfl rfl
theorem tr_12_0 {K : Nat → Option α} : mm_fR (st_h z X M (st_R a b w v p)) 12 7 0 K = K 4 := st_fR rfl rfl
theorem tr_12_1 {K : Nat → Option α} : mm_fR (st_h z X M (st_R a b w v p)) 12 7 1 K = K 13 := st_fR rfl rfl
theorem tr_12_2 {K : Nat → Option α} : mm_fR (st_h z X M (st_R a b w v p)) 12 7 2 K = K 15 := st_fR rfl rfl
theorem tr_12_3 {K : Nat → Option α} : mm_fR (st_h z X M (st_R a b w v p)) 12 7 3 K = K 18 := st_fR rfl rfl
theorem tr_12_4 {K : Nat → Option α} : mm_fR (st_h z X M (st_R a b w v p)) 12 7 4 K = K 19 := st_fR rfl rfl
theorem tr_13_0 {K : Nat → Option α} : mm_fR (st_h z X M (st_R a b w v p)) 13 3 0 K = K 4 := st_fR rfl rfl
theorem tr_13_1 {K : Nat → Option α} : mm_fR (st_h z X M (st_R a b w v p)) 13 3 1 K = K 1 := st_fR rfl rfl
theorem tr_13_2 {K : Nat → Option α} : mm_fR (st_h z X M (st_R a b w v p)) 13 3 2 K = K 14 := st_fR rfl rfl
theorem tr_15_6 {K : Nat → Option α} : mm_fR (st_h z X M (st_R a b w v p)) 15 2 6 K = K 16 := st_fR rfl rfl
theorem tr_15_7 {K : Nat → Option α} : mm_fR (st_h z X M (st_R a b w v p)) 15 2 7 K = K 17 := st_fR rfl rfl
theorem tr_44_0 {K : Nat → Option α} : mm_fR (st_h z X M (st_R a b w v p)) 44 4 0 K = K 1 := st_fR rfl rfl
theorem tr_44_1 {K : Nat → Option α} : mm_fR (st_h z X M (st_R a b w v p)) 44 4 1 K = K 45 := st_fR rfl rfl
theorem tr_44_2 {K : Nat → Option α} : mm_fR (st_h z X M (st_R a b w v p)) 44 4 2 K = K 46 := st_fR rfl rfl
theorem tr_44_3 {K : Nat → Option α} : mm_fR (st_h z X M (st_R a b w v p)) 44 4 3 K = K 47 := st_fR rfl rfl
theorem tr_70_1 {K : Nat → Option α} : mm_fR (st_h z X M (st_R a b w v p)) 70 11 1 K = K 71 := st_fR rfl rfl
theorem tr_70_3 {K : Nat → Option α} : mm_fR (st_h z X M (st_R a b w v p)) 70 11 3 K = K 72 := st_fR rfl rfl
theorem tr_70_5 {K : Nat → Option α} : mm_fR (st_h z X M (st_R a b w v p)) 70 11 5 K = K 73 := st_fR rfl rfl
theorem tr_70_6 {K : Nat → Option α} : mm_fR (st_h z X M (st_R a b w v p)) 70 11 6 K = K 74 := st_fR rfl rfl
theorem tr_70_7 {K : Nat → Option α} : mm_fR (st_h z X M (st_R a b w v p)) 70 11 7 K = K 75 := st_fR rfl rfl
theorem tr_70_8 {K : Nat → Option α} : mm_fR (st_h z X M (st_R a b w v p)) 70 11 8 K = K 76 := st_fR rfl rfl
theorem tr_70_9 {K : Nat → Option α} : mm_fR (st_h z X M (st_R a b w v p)) 70 11 9 K = K 77 := st_fR rfl rfl
theorem tr_70_10 {K : Nat → Option α} : mm_fR (st_h z X M (st_R a b w v p)) 70 11 10 K = K 78 := st_fR rfl rfl
theorem tr_70_11 {K : Nat → Option α} : mm_fR (st_h z X M (st_R a b w v p)) 70 11 11 K = K 79 := st_fR rfl rfl
theorem tr_70_12 {K : Nat → Option α} : mm_fR (st_h z X M (st_R a b w v p)) 70 11 12 K = K 80 := st_fR rfl rfl
theorem tr_70_13 {K : Nat → Option α} : mm_fR (st_h z X M (st_R a b w v p)) 70 11 13 K = K 81 := st_fR rfl rfl
theorem tr_70_14 {K : Nat → Option α} : mm_fR (st_h z X M (st_R a b w v p)) 70 11 14 K = K 82 := st_fR rfl rfl
theorem tr_70_15 {K : Nat → Option α} : mm_fR (st_h z X M (st_R a b w v p)) 70 11 15 K = K 83 := st_fR rfl rfl
theorem tr_70_17 {K : Nat → Option α} : mm_fR (st_h z X M (st_R a b w v p)) 70 11 17 K = K 84 := st_fR rfl rfl
theorem tr_70_19 {K : Nat → Option α} : mm_fR (st_h z X M (st_R a b w v p)) 70 11 19 K = K 85 := st_fR rfl rfl
theorem tr_70_29 {K : Nat → Option α} : mm_fR (st_h z X M (st_R a b w v p)) 70 11 29 K = K 86 := st_fR rfl rfl
theorem tr_70_41 {K : Nat → Option α} : mm_fR (st_h z X M (st_R a b w v p)) 70 11 41 K = K 87 := st_fR rfl rfl
theorem tr_70_44 {K : Nat → Option α} : mm_fR (st_h z X M (st_R a b w v p)) 70 11 44 K = K 88 := st_fR rfl rfl
theorem tr_70_45 {K : Nat → Option α} : mm_fR (st_h z X M (st_R a b w v p)) 70 11 45 K = K 89 := st_fR rfl rfl
theorem tr_70_46 {K : Nat → Option α} : mm_fR (st_h z X M (st_R a b w v p)) 70 11 46 K = K 90 := st_fR rfl rfl
theorem tr_70_47 {K : Nat → Option α} : mm_fR (st_h z X M (st_R a b w v p)) 70 11 47 K = K 91 := st_fR rfl rfl
theorem tr_70_49 {K : Nat → Option α} : mm_fR (st_h z X M (st_R a b w v p)) 70 11 49 K = K 92 := st_fR rfl rfl
theorem tr_70_51 {K : Nat → Option α} : mm_fR (st_h z X M (st_R a b w v p)) 70 11 51 K = K 93 := st_fR rfl rfl
theorem tr_70_53 {K : Nat → Option α} : mm_fR (st_h z X M (st_R a b w v p)) 70 11 53 K = K 94 := st_fR rfl rfl
theorem tr_0_5 {K : Nat → Option α} : mm_fR (st_h z X M (st_R a b w v p)) 0 10 5 K = K a := st_fR rfl rfl
theorem tr_0_6 {K : Nat → Option α} : mm_fR (st_h z X M (st_R a b w v p)) 0 10 6 K = K b := st_fR rfl rfl
theorem tr_0_7 {K : Nat → Option α} : mm_fR (st_h z X M (st_R a b w v p)) 0 10 7 K = K w := st_fR rfl rfl
theorem tr_0_8 {K : Nat → Option α} : mm_fR (st_h z X M (st_R a b w v p)) 0 10 8 K = K v := st_fR rfl rfl
theorem tr_12_5 {K : Nat → Option α} : mm_fR (st_h z X M (st_R a b w v p)) 12 7 5 K = (p 0).bind K := if_pos rfl
theorem tr_13_3 {K : Nat → Option α} : mm_fR (st_h z X M (st_R a b w v p)) 13 3 3 K = (p 1).bind K := if_pos rfl
theorem tr_13_4 {K : Nat → Option α} : mm_fR (st_h z X M (st_R a b w v p)) 13 3 4 K = (p 2).bind K := if_pos rfl
theorem tr_13_5 {K : Nat → Option α} : mm_fR (st_h z X M (st_R a b w v p)) 13 3 5 K = (p 3).bind K := if_pos rfl
theorem tr_44_4 {K : Nat → Option α} : mm_fR (st_h z X M (st_R a b w v p)) 44 4 4 K = (p 4).bind K := if_pos rfl
theorem tr_44_5 {K : Nat → Option α} : mm_fR (st_h z X M (st_R a b w v p)) 44 4 5 K = (p 5).bind K := if_pos rfl
theorem tr_44_6 {K : Nat → Option α} : mm_fR (st_h z X M (st_R a b w v p)) 44 4 6 K = (p 6).bind K := if_pos rfl
theorem tu_0_5 {r : Nat} {K : mm_Hp → Option α} : mm_pR (st_h z X M (st_R a b w v p)) 0 10 5 (some r) K = K (st_h z X M (st_R r b w v p)) := by
  rw [st_pR (c := 10) rfl]
  have e : va_up (st_R a b w v p) 0 (va_up (st_R a b w v p 0) 5 (some r)) = (st_R r b w v p) := by
    funext i j
    by_cases hi : i = 0
    · subst hi
      rw [va_up_self]
      by_cases hj : j = 5
      · subst hj
        rw [va_up_self]
        rfl
      · rw [va_up_ne _ _ hj]
        simp only [st_R, hj, and_false, true_and, if_false]
    · rw [va_up_ne _ _ hi]
      simp only [st_R, hi, false_and, if_false]
  rw [e]
theorem tu_0_6 {r : Nat} {K : mm_Hp → Option α} : mm_pR (st_h z X M (st_R a b w v p)) 0 10 6 (some r) K = K (st_h z X M (st_R a r w v p)) := by
  rw [st_pR (c := 10) rfl]
  have e : va_up (st_R a b w v p) 0 (va_up (st_R a b w v p 0) 6 (some r)) = (st_R a r w v p) := by
    funext i j
    by_cases hi : i = 0
    · subst hi
      rw [va_up_self]
      by_cases hj : j = 6
      · subst hj
        rw [va_up_self]
        rfl
      · rw [va_up_ne _ _ hj]
        simp only [st_R, hj, and_false, true_and, if_false]
    · rw [va_up_ne _ _ hi]
      simp only [st_R, hi, false_and, if_false]
  rw [e]
theorem tu_0_7 {r : Nat} {K : mm_Hp → Option α} : mm_pR (st_h z X M (st_R a b w v p)) 0 10 7 (some r) K = K (st_h z X M (st_R a b r v p)) := by
  rw [st_pR (c := 10) rfl]
  have e : va_up (st_R a b w v p) 0 (va_up (st_R a b w v p 0) 7 (some r)) = (st_R a b r v p) := by
    funext i j
    by_cases hi : i = 0
    · subst hi
      rw [va_up_self]
      by_cases hj : j = 7
      · subst hj
        rw [va_up_self]
        rfl
      · rw [va_up_ne _ _ hj]
        simp only [st_R, hj, and_false, true_and, if_false]
    · rw [va_up_ne _ _ hi]
      simp only [st_R, hi, false_and, if_false]
  rw [e]
theorem tu_0_8 {r : Nat} {K : mm_Hp → Option α} : mm_pR (st_h z X M (st_R a b w v p)) 0 10 8 (some r) K = K (st_h z X M (st_R a b w r p)) := by
  rw [st_pR (c := 10) rfl]
  have e : va_up (st_R a b w v p) 0 (va_up (st_R a b w v p 0) 8 (some r)) = (st_R a b w r p) := by
    funext i j
    by_cases hi : i = 0
    · subst hi
      rw [va_up_self]
      by_cases hj : j = 8
      · subst hj
        rw [va_up_self]
        rfl
      · rw [va_up_ne _ _ hj]
        simp only [st_R, hj, and_false, true_and, if_false]
    · rw [va_up_ne _ _ hi]
      simp only [st_R, hi, false_and, if_false]
  rw [e]
theorem tu_12_5 {r : Nat} {K : mm_Hp → Option α} : mm_pR (st_h z X M (st_R a b w v p)) 12 7 5 (some r) K = K (st_h z X M (st_R a b w v (va_up p 0 (some r)))) := by
  rw [st_pR (c := 7) rfl]
  have e : va_up (st_R a b w v p) 12 (va_up (st_R a b w v p 12) 5 (some r)) = (st_R a b w v (va_up p 0 (some r))) := by
    funext i j
    by_cases hi : i = 12
    · subst hi
      rw [va_up_self]
      by_cases hj : j = 5
      · subst hj
        rw [va_up_self]
        rfl
      · rw [va_up_ne _ _ hj]
        simp only [st_R, hj, and_false, true_and, if_false, tq_1_0, tq_2_0, tq_3_0, tq_4_0, tq_5_0, tq_6_0]
    · rw [va_up_ne _ _ hi]
      simp only [st_R, hi, false_and, if_false, tq_1_0, tq_2_0, tq_3_0, tq_4_0, tq_5_0, tq_6_0]
  rw [e]
theorem tu_13_3 {r : Nat} {K : mm_Hp → Option α} : mm_pR (st_h z X M (st_R a b w v p)) 13 3 3 (some r) K = K (st_h z X M (st_R a b w v (va_up p 1 (some r)))) := by
  rw [st_pR (c := 3) rfl]
  have e : va_up (st_R a b w v p) 13 (va_up (st_R a b w v p 13) 3 (some r)) = (st_R a b w v (va_up p 1 (some r))) := by
    funext i j
    by_cases hi : i = 13
    · subst hi
      rw [va_up_self]
      by_cases hj : j = 3
      · subst hj
        rw [va_up_self]
        rfl
      · rw [va_up_ne _ _ hj]
        simp only [st_R, hj, and_false, true_and, if_false, tq_0_1, tq_2_1, tq_3_1, tq_4_1, tq_5_1, tq_6_1]
    · rw [va_up_ne _ _ hi]
      simp only [st_R, hi, false_and, if_false, tq_0_1, tq_2_1, tq_3_1, tq_4_1, tq_5_1, tq_6_1]
  rw [e]
theorem tu_13_4 {r : Nat} {K : mm_Hp → Option α} : mm_pR (st_h z X M (st_R a b w v p)) 13 3 4 (some r) K = K (st_h z X M (st_R a b w v (va_up p 2 (some r)))) := by
  rw [st_pR (c := 3) rfl]
  have e : va_up (st_R a b w v p) 13 (va_up (st_R a b w v p 13) 4 (some r)) = (st_R a b w v (va_up p 2 (some r))) := by
    funext i j
    by_cases hi : i = 13
    · subst hi
      rw [va_up_self]
      by_cases hj : j = 4
      · subst hj
        rw [va_up_self]
        rfl
      · rw [va_up_ne _ _ hj]
        simp only [st_R, hj, and_false, true_and, if_false, tq_0_2, tq_1_2, tq_3_2, tq_4_2, tq_5_2, tq_6_2]
    · rw [va_up_ne _ _ hi]
      simp only [st_R, hi, false_and, if_false, tq_0_2, tq_1_2, tq_3_2, tq_4_2, tq_5_2, tq_6_2]
  rw [e]
theorem tu_13_5 {r : Nat} {K : mm_Hp → Option α} : mm_pR (st_h z X M (st_R a b w v p)) 13 3 5 (some r) K = K (st_h z X M (st_R a b w v (va_up p 3 (some r)))) := by
  rw [st_pR (c := 3) rfl]
  have e : va_up (st_R a b w v p) 13 (va_up (st_R a b w v p 13) 5 (some r)) = (st_R a b w v (va_up p 3 (some r))) := by
    funext i j
    by_cases hi : i = 13
    · subst hi
      rw [va_up_self]
      by_cases hj : j = 5
      · subst hj
        rw [va_up_self]
        rfl
      · rw [va_up_ne _ _ hj]
        simp only [st_R, hj, and_false, true_and, if_false, tq_0_3, tq_1_3, tq_2_3, tq_4_3, tq_5_3, tq_6_3]
    · rw [va_up_ne _ _ hi]
      simp only [st_R, hi, false_and, if_false, tq_0_3, tq_1_3, tq_2_3, tq_4_3, tq_5_3, tq_6_3]
  rw [e]
theorem tu_44_4 {r : Nat} {K : mm_Hp → Option α} : mm_pR (st_h z X M (st_R a b w v p)) 44 4 4 (some r) K = K (st_h z X M (st_R a b w v (va_up p 4 (some r)))) := by
  rw [st_pR (c := 4) rfl]
  have e : va_up (st_R a b w v p) 44 (va_up (st_R a b w v p 44) 4 (some r)) = (st_R a b w v (va_up p 4 (some r))) := by
    funext i j
    by_cases hi : i = 44
    · subst hi
      rw [va_up_self]
      by_cases hj : j = 4
      · subst hj
        rw [va_up_self]
        rfl
      · rw [va_up_ne _ _ hj]
        simp only [st_R, hj, and_false, true_and, if_false, tq_0_4, tq_1_4, tq_2_4, tq_3_4, tq_5_4, tq_6_4]
    · rw [va_up_ne _ _ hi]
      simp only [st_R, hi, false_and, if_false, tq_0_4, tq_1_4, tq_2_4, tq_3_4, tq_5_4, tq_6_4]
  rw [e]
theorem tu_44_5 {r : Nat} {K : mm_Hp → Option α} : mm_pR (st_h z X M (st_R a b w v p)) 44 4 5 (some r) K = K (st_h z X M (st_R a b w v (va_up p 5 (some r)))) := by
  rw [st_pR (c := 4) rfl]
  have e : va_up (st_R a b w v p) 44 (va_up (st_R a b w v p 44) 5 (some r)) = (st_R a b w v (va_up p 5 (some r))) := by
    funext i j
    by_cases hi : i = 44
    · subst hi
      rw [va_up_self]
      by_cases hj : j = 5
      · subst hj
        rw [va_up_self]
        rfl
      · rw [va_up_ne _ _ hj]
        simp only [st_R, hj, and_false, true_and, if_false, tq_0_5, tq_1_5, tq_2_5, tq_3_5, tq_4_5, tq_6_5]
    · rw [va_up_ne _ _ hi]
      simp only [st_R, hi, false_and, if_false, tq_0_5, tq_1_5, tq_2_5, tq_3_5, tq_4_5, tq_6_5]
  rw [e]
theorem tu_44_6 {r : Nat} {K : mm_Hp → Option α} : mm_pR (st_h z X M (st_R a b w v p)) 44 4 6 (some r) K = K (st_h z X M (st_R a b w v (va_up p 6 (some r)))) := by
  rw [st_pR (c := 4) rfl]
  have e : va_up (st_R a b w v p) 44 (va_up (st_R a b w v p 44) 6 (some r)) = (st_R a b w v (va_up p 6 (some r))) := by
    funext i j
    by_cases hi : i = 44
    · subst hi
      rw [va_up_self]
      by_cases hj : j = 6
      · subst hj
        rw [va_up_self]
        rfl
      · rw [va_up_ne _ _ hj]
        simp only [st_R, hj, and_false, true_and, if_false, tq_0_6, tq_1_6, tq_2_6, tq_3_6, tq_4_6, tq_5_6]
    · rw [va_up_ne _ _ hi]
      simp only [st_R, hi, false_and, if_false, tq_0_6, tq_1_6, tq_2_6, tq_3_6, tq_4_6, tq_5_6]
  rw [e]
theorem tfP {q k : Nat} {K : Int32 → Option α} (hq : q = 48 ∨ q = 57) : mm_fI (st_h z X M (st_R a b w v p)) q 1 k K = K (X q k) := by
  rcases hq with rfl | rfl <;> exact st_fIX (by decide) rfl
theorem tpP {q k : Nat} {u : Int32} {K : mm_Hp → Option α} (hq : q = 48 ∨ q = 57) : mm_pI (st_h z X M (st_R a b w v p)) q 1 k u K = K (st_h z (st_u X q k u) M (st_R a b w v p)) := by
  rcases hq with rfl | rfl <;> exact st_pIX (by decide) rfl
theorem tvP {q : Nat} {E : mm_Ev} {y : Nat} {as : List Value} {K : mm_Rs → Option α} (hq : q = 48 ∨ q = 57) : mm_iv E (st_h z X M (st_R a b w v p)) 1 y (.ref q :: as) K = (E y (.ref q :: as) (st_h z X M (st_R a b w v p))).bind K := by
  rcases hq with rfl | rfl <;> exact t_iv rfl
theorem trP_7 {q : Nat} {K : Nat → Option α} (hq : q = 48 ∨ q = 57) : mm_fR (st_h z X M (st_R a b w v p)) q 1 7 K = K (q + 1) := by
  rcases hq with rfl | rfl <;> exact st_fR rfl rfl
theorem trP_8 {q : Nat} {K : Nat → Option α} (hq : q = 48 ∨ q = 57) : mm_fR (st_h z X M (st_R a b w v p)) q 1 8 K = K (q + 2) := by
  rcases hq with rfl | rfl <;> exact st_fR rfl rfl
theorem trP_9 {q : Nat} {K : Nat → Option α} (hq : q = 48 ∨ q = 57) : mm_fR (st_h z X M (st_R a b w v p)) q 1 9 K = K (q + 3) := by
  rcases hq with rfl | rfl <;> exact st_fR rfl rfl
theorem trP_10 {q : Nat} {K : Nat → Option α} (hq : q = 48 ∨ q = 57) : mm_fR (st_h z X M (st_R a b w v p)) q 1 10 K = K (q + 4) := by
  rcases hq with rfl | rfl <;> exact st_fR rfl rfl
theorem trP_11 {q : Nat} {K : Nat → Option α} (hq : q = 48 ∨ q = 57) : mm_fR (st_h z X M (st_R a b w v p)) q 1 11 K = K (q + 5) := by
  rcases hq with rfl | rfl <;> exact st_fR rfl rfl
theorem trP_12 {q : Nat} {K : Nat → Option α} (hq : q = 48 ∨ q = 57) : mm_fR (st_h z X M (st_R a b w v p)) q 1 12 K = K (q + 6) := by
  rcases hq with rfl | rfl <;> exact st_fR rfl rfl
theorem trP_13 {q : Nat} {K : Nat → Option α} (hq : q = 48 ∨ q = 57) : mm_fR (st_h z X M (st_R a b w v p)) q 1 13 K = K (q + 7) := by
  rcases hq with rfl | rfl <;> exact st_fR rfl rfl
theorem trP_14 {q : Nat} {K : Nat → Option α} (hq : q = 48 ∨ q = 57) : mm_fR (st_h z X M (st_R a b w v p)) q 1 14 K = K (q + 8) := by
  rcases hq with rfl | rfl <;> exact st_fR rfl rfl
theorem taP_1 {q i : Nat} {K : Int32 → Option α} (hq : q = 48 ∨ q = 57) (hi : i < 3) : mm_ld (st_h z X M (st_R a b w v p)) 0 (q + 1) (nI i) K = K (X (q + 1) i) := by
  rcases hq with rfl | rfl <;> rw [st_ldX (n := 3) (by decide) rfl (vp_in_nI hi (by decide)), nI_clamp (by omega)]
theorem tsP_1 {q i : Nat} {u : Int32} {K : mm_Hp → Option α} (hq : q = 48 ∨ q = 57) (hi : i < 3) : mm_st (st_h z X M (st_R a b w v p)) 0 (q + 1) (nI i) u K = K (st_h z (st_u X (q + 1) i u) M (st_R a b w v p)) := by
  rcases hq with rfl | rfl <;> rw [st_stX (n := 3) (by decide) rfl (vp_in_nI hi (by decide)), nI_clamp (by omega)]
theorem tlP_1 {q : Nat} {K : Int32 → Option α} (hq : q = 48 ∨ q = 57) : mm_al (st_h z X M (st_R a b w v p)) (q + 1) K = K (nI 3) := by
  rcases hq with rfl | rfl <;> exact st_al rfl
theorem taP_2 {q i : Nat} {K : Int32 → Option α} (hq : q = 48 ∨ q = 57) (hi : i < 3) : mm_ld (st_h z X M (st_R a b w v p)) 0 (q + 2) (nI i) K = K (X (q + 2) i) := by
  rcases hq with rfl | rfl <;> rw [st_ldX (n := 3) (by decide) rfl (vp_in_nI hi (by decide)), nI_clamp (by omega)]
theorem tsP_2 {q i : Nat} {u : Int32} {K : mm_Hp → Option α} (hq : q = 48 ∨ q = 57) (hi : i < 3) : mm_st (st_h z X M (st_R a b w v p)) 0 (q + 2) (nI i) u K = K (st_h z (st_u X (q + 2) i u) M (st_R a b w v p)) := by
  rcases hq with rfl | rfl <;> rw [st_stX (n := 3) (by decide) rfl (vp_in_nI hi (by decide)), nI_clamp (by omega)]
theorem tlP_2 {q : Nat} {K : Int32 → Option α} (hq : q = 48 ∨ q = 57) : mm_al (st_h z X M (st_R a b w v p)) (q + 2) K = K (nI 3) := by
  rcases hq with rfl | rfl <;> exact st_al rfl
theorem taP_3 {q i : Nat} {K : Int32 → Option α} (hq : q = 48 ∨ q = 57) (hi : i < 3) : mm_ld (st_h z X M (st_R a b w v p)) 0 (q + 3) (nI i) K = K (X (q + 3) i) := by
  rcases hq with rfl | rfl <;> rw [st_ldX (n := 3) (by decide) rfl (vp_in_nI hi (by decide)), nI_clamp (by omega)]
theorem tsP_3 {q i : Nat} {u : Int32} {K : mm_Hp → Option α} (hq : q = 48 ∨ q = 57) (hi : i < 3) : mm_st (st_h z X M (st_R a b w v p)) 0 (q + 3) (nI i) u K = K (st_h z (st_u X (q + 3) i u) M (st_R a b w v p)) := by
  rcases hq with rfl | rfl <;> rw [st_stX (n := 3) (by decide) rfl (vp_in_nI hi (by decide)), nI_clamp (by omega)]
theorem tlP_3 {q : Nat} {K : Int32 → Option α} (hq : q = 48 ∨ q = 57) : mm_al (st_h z X M (st_R a b w v p)) (q + 3) K = K (nI 3) := by
  rcases hq with rfl | rfl <;> exact st_al rfl
theorem taP_4 {q i : Nat} {K : Int32 → Option α} (hq : q = 48 ∨ q = 57) (hi : i < 3) : mm_ld (st_h z X M (st_R a b w v p)) 0 (q + 4) (nI i) K = K (X (q + 4) i) := by
  rcases hq with rfl | rfl <;> rw [st_ldX (n := 3) (by decide) rfl (vp_in_nI hi (by decide)), nI_clamp (by omega)]
theorem tsP_4 {q i : Nat} {u : Int32} {K : mm_Hp → Option α} (hq : q = 48 ∨ q = 57) (hi : i < 3) : mm_st (st_h z X M (st_R a b w v p)) 0 (q + 4) (nI i) u K = K (st_h z (st_u X (q + 4) i u) M (st_R a b w v p)) := by
  rcases hq with rfl | rfl <;> rw [st_stX (n := 3) (by decide) rfl (vp_in_nI hi (by decide)), nI_clamp (by omega)]
theorem tlP_4 {q : Nat} {K : Int32 → Option α} (hq : q = 48 ∨ q = 57) : mm_al (st_h z X M (st_R a b w v p)) (q + 4) K = K (nI 3) := by
  rcases hq with rfl | rfl <;> exact st_al rfl
theorem taP_5 {q i : Nat} {K : Int32 → Option α} (hq : q = 48 ∨ q = 57) (hi : i < 3) : mm_ld (st_h z X M (st_R a b w v p)) 0 (q + 5) (nI i) K = K (X (q + 5) i) := by
  rcases hq with rfl | rfl <;> rw [st_ldX (n := 3) (by decide) rfl (vp_in_nI hi (by decide)), nI_clamp (by omega)]
theorem tsP_5 {q i : Nat} {u : Int32} {K : mm_Hp → Option α} (hq : q = 48 ∨ q = 57) (hi : i < 3) : mm_st (st_h z X M (st_R a b w v p)) 0 (q + 5) (nI i) u K = K (st_h z (st_u X (q + 5) i u) M (st_R a b w v p)) := by
  rcases hq with rfl | rfl <;> rw [st_stX (n := 3) (by decide) rfl (vp_in_nI hi (by decide)), nI_clamp (by omega)]
theorem tlP_5 {q : Nat} {K : Int32 → Option α} (hq : q = 48 ∨ q = 57) : mm_al (st_h z X M (st_R a b w v p)) (q + 5) K = K (nI 3) := by
  rcases hq with rfl | rfl <;> exact st_al rfl
theorem taP_6 {q i : Nat} {K : Int32 → Option α} (hq : q = 48 ∨ q = 57) (hi : i < 3) : mm_ld (st_h z X M (st_R a b w v p)) 0 (q + 6) (nI i) K = K (X (q + 6) i) := by
  rcases hq with rfl | rfl <;> rw [st_ldX (n := 3) (by decide) rfl (vp_in_nI hi (by decide)), nI_clamp (by omega)]
theorem tsP_6 {q i : Nat} {u : Int32} {K : mm_Hp → Option α} (hq : q = 48 ∨ q = 57) (hi : i < 3) : mm_st (st_h z X M (st_R a b w v p)) 0 (q + 6) (nI i) u K = K (st_h z (st_u X (q + 6) i u) M (st_R a b w v p)) := by
  rcases hq with rfl | rfl <;> rw [st_stX (n := 3) (by decide) rfl (vp_in_nI hi (by decide)), nI_clamp (by omega)]
theorem tlP_6 {q : Nat} {K : Int32 → Option α} (hq : q = 48 ∨ q = 57) : mm_al (st_h z X M (st_R a b w v p)) (q + 6) K = K (nI 3) := by
  rcases hq with rfl | rfl <;> exact st_al rfl
theorem taP_7 {q i : Nat} {K : Int32 → Option α} (hq : q = 48 ∨ q = 57) (hi : i < 6912) : mm_ld (st_h z X M (st_R a b w v p)) 0 (q + 7) (nI i) K = K (X (q + 7) i) := by
  rcases hq with rfl | rfl <;> rw [st_ldX (n := 6912) (by decide) rfl (vp_in_nI hi (by decide)), nI_clamp (by omega)]
theorem tsP_7 {q i : Nat} {u : Int32} {K : mm_Hp → Option α} (hq : q = 48 ∨ q = 57) (hi : i < 6912) : mm_st (st_h z X M (st_R a b w v p)) 0 (q + 7) (nI i) u K = K (st_h z (st_u X (q + 7) i u) M (st_R a b w v p)) := by
  rcases hq with rfl | rfl <;> rw [st_stX (n := 6912) (by decide) rfl (vp_in_nI hi (by decide)), nI_clamp (by omega)]
theorem tlP_7 {q : Nat} {K : Int32 → Option α} (hq : q = 48 ∨ q = 57) : mm_al (st_h z X M (st_R a b w v p)) (q + 7) K = K (nI 6912) := by
  rcases hq with rfl | rfl <;> exact st_al rfl
theorem taP_8 {q i : Nat} {K : Int32 → Option α} (hq : q = 48 ∨ q = 57) (hi : i < 192) : mm_ld (st_h z X M (st_R a b w v p)) 0 (q + 8) (nI i) K = K (X (q + 8) i) := by
  rcases hq with rfl | rfl <;> rw [st_ldX (n := 192) (by decide) rfl (vp_in_nI hi (by decide)), nI_clamp (by omega)]
theorem tsP_8 {q i : Nat} {u : Int32} {K : mm_Hp → Option α} (hq : q = 48 ∨ q = 57) (hi : i < 192) : mm_st (st_h z X M (st_R a b w v p)) 0 (q + 8) (nI i) u K = K (st_h z (st_u X (q + 8) i u) M (st_R a b w v p)) := by
  rcases hq with rfl | rfl <;> rw [st_stX (n := 192) (by decide) rfl (vp_in_nI hi (by decide)), nI_clamp (by omega)]
theorem tlP_8 {q : Nat} {K : Int32 → Option α} (hq : q = 48 ∨ q = 57) : mm_al (st_h z X M (st_R a b w v p)) (q + 8) K = K (nI 192) := by
  rcases hq with rfl | rfl <;> exact st_al rfl
theorem tfS {q k : Nat} {K : Int32 → Option α} (hq : q = 66 ∨ q = 68) : mm_fI (st_h z X M (st_R a b w v p)) q 6 k K = K (X q k) := by
  rcases hq with rfl | rfl <;> exact st_fIX (by decide) rfl
theorem tpS {q k : Nat} {u : Int32} {K : mm_Hp → Option α} (hq : q = 66 ∨ q = 68) : mm_pI (st_h z X M (st_R a b w v p)) q 6 k u K = K (st_h z (st_u X q k u) M (st_R a b w v p)) := by
  rcases hq with rfl | rfl <;> exact st_pIX (by decide) rfl
theorem tvS {q : Nat} {E : mm_Ev} {y : Nat} {as : List Value} {K : mm_Rs → Option α} (hq : q = 66 ∨ q = 68) : mm_iv E (st_h z X M (st_R a b w v p)) 6 y (.ref q :: as) K = (E y (.ref q :: as) (st_h z X M (st_R a b w v p))).bind K := by
  rcases hq with rfl | rfl <;> exact t_iv rfl
theorem trS {q : Nat} {K : Nat → Option α} (hq : q = 66 ∨ q = 68) : mm_fR (st_h z X M (st_R a b w v p)) q 6 0 K = K (q + 1) := by
  rcases hq with rfl | rfl <;> exact st_fR rfl rfl
theorem taS {q i : Nat} {K : Int32 → Option α} (hq : q = 66 ∨ q = 68) (hi : i < 12000) : mm_ld (st_h z X M (st_R a b w v p)) 1 (q + 1) (nI i) K = K (X (q + 1) i) := by
  rcases hq with rfl | rfl <;> rw [st_ldX (n := 12000) (by decide) rfl (vp_in_nI hi (by decide)), nI_clamp (by omega)]
theorem tsS {q i : Nat} {u : Int32} {K : mm_Hp → Option α} (hq : q = 66 ∨ q = 68) (hi : i < 12000) : mm_st (st_h z X M (st_R a b w v p)) 1 (q + 1) (nI i) u K = K (st_h z (st_u X (q + 1) i u) M (st_R a b w v p)) := by
  rcases hq with rfl | rfl <;> rw [st_stX (n := 12000) (by decide) rfl (vp_in_nI hi (by decide)), nI_clamp (by omega)]
theorem tlS {q : Nat} {K : Int32 → Option α} (hq : q = 66 ∨ q = 68) : mm_al (st_h z X M (st_R a b w v p)) (q + 1) K = K (nI 12000) := by
  rcases hq with rfl | rfl <;> exact st_al rfl
theorem tfT {t k : Nat} {K : Int32 → Option α} (ht : t < 8) : mm_fI (st_h z X M (st_R a b w v p)) (20 + 3 * t) 8 k K = K (X (20 + 3 * t) k) := by
  rcases (show t = 0 ∨ t = 1 ∨ t = 2 ∨ t = 3 ∨ t = 4 ∨ t = 5 ∨ t = 6 ∨ t = 7 by omega) with rfl | rfl | rfl | rfl | rfl | rfl | rfl | rfl <;> exact st_fIX (by decide) rfl
theorem tpT {t k : Nat} {u : Int32} {K : mm_Hp → Option α} (ht : t < 8) : mm_pI (st_h z X M (st_R a b w v p)) (20 + 3 * t) 8 k u K = K (st_h z (st_u X (20 + 3 * t) k u) M (st_R a b w v p)) := by
  rcases (show t = 0 ∨ t = 1 ∨ t = 2 ∨ t = 3 ∨ t = 4 ∨ t = 5 ∨ t = 6 ∨ t = 7 by omega) with rfl | rfl | rfl | rfl | rfl | rfl | rfl | rfl <;> exact st_pIX (by decide) rfl
theorem tvT {t : Nat} {E : mm_Ev} {y : Nat} {as : List Value} {K : mm_Rs → Option α} (ht : t < 8) : mm_iv E (st_h z X M (st_R a b w v p)) 8 y (.ref (20 + 3 * t) :: as) K = (E y (.ref (20 + 3 * t) :: as) (st_h z X M (st_R a b w v p))).bind K := by
  rcases (show t = 0 ∨ t = 1 ∨ t = 2 ∨ t = 3 ∨ t = 4 ∨ t = 5 ∨ t = 6 ∨ t = 7 by omega) with rfl | rfl | rfl | rfl | rfl | rfl | rfl | rfl <;> exact t_iv rfl
theorem tzlT {t k : Nat} {K : mm_Hp → Option α} (ht : t < 8) : mm_pZ (st_h z X M (st_R a b w v p)) (20 + 3 * t) 8 k (0 : Int32) K = K (st_h z (st_u X (20 + 3 * t) k (nI 0)) M (st_R a b w v p)) := by
  rcases (show t = 0 ∨ t = 1 ∨ t = 2 ∨ t = 3 ∨ t = 4 ∨ t = 5 ∨ t = 6 ∨ t = 7 by omega) with rfl | rfl | rfl | rfl | rfl | rfl | rfl | rfl <;> exact st_pZX (by decide) rfl (Or.inl rfl)
theorem tzT {t k : Nat} {K : mm_Hp → Option α} (ht : t < 8) : mm_pZ (st_h z X M (st_R a b w v p)) (20 + 3 * t) 8 k (nI 0) K = K (st_h z (st_u X (20 + 3 * t) k (nI 0)) M (st_R a b w v p)) := by
  rcases (show t = 0 ∨ t = 1 ∨ t = 2 ∨ t = 3 ∨ t = 4 ∨ t = 5 ∨ t = 6 ∨ t = 7 by omega) with rfl | rfl | rfl | rfl | rfl | rfl | rfl | rfl <;> exact st_pZX (by decide) rfl (Or.inl rfl)
theorem tylT {t k : Nat} {K : mm_Hp → Option α} (ht : t < 8) : mm_pZ (st_h z X M (st_R a b w v p)) (20 + 3 * t) 8 k (1 : Int32) K = K (st_h z (st_u X (20 + 3 * t) k (nI 1)) M (st_R a b w v p)) := by
  rcases (show t = 0 ∨ t = 1 ∨ t = 2 ∨ t = 3 ∨ t = 4 ∨ t = 5 ∨ t = 6 ∨ t = 7 by omega) with rfl | rfl | rfl | rfl | rfl | rfl | rfl | rfl <;> exact st_pZX (by decide) rfl (Or.inr rfl)
theorem tyT {t k : Nat} {K : mm_Hp → Option α} (ht : t < 8) : mm_pZ (st_h z X M (st_R a b w v p)) (20 + 3 * t) 8 k (nI 1) K = K (st_h z (st_u X (20 + 3 * t) k (nI 1)) M (st_R a b w v p)) := by
  rcases (show t = 0 ∨ t = 1 ∨ t = 2 ∨ t = 3 ∨ t = 4 ∨ t = 5 ∨ t = 6 ∨ t = 7 by omega) with rfl | rfl | rfl | rfl | rfl | rfl | rfl | rfl <;> exact st_pZX (by decide) rfl (Or.inr rfl)
theorem trT_0 {t : Nat} {K : Nat → Option α} (ht : t < 8) : mm_fR (st_h z X M (st_R a b w v p)) (20 + 3 * t) 8 0 K = K (21 + 3 * t) := by
  rcases (show t = 0 ∨ t = 1 ∨ t = 2 ∨ t = 3 ∨ t = 4 ∨ t = 5 ∨ t = 6 ∨ t = 7 by omega) with rfl | rfl | rfl | rfl | rfl | rfl | rfl | rfl <;> exact st_fR rfl rfl
theorem trT_1 {t : Nat} {K : Nat → Option α} (ht : t < 8) : mm_fR (st_h z X M (st_R a b w v p)) (20 + 3 * t) 8 1 K = K (22 + 3 * t) := by
  rcases (show t = 0 ∨ t = 1 ∨ t = 2 ∨ t = 3 ∨ t = 4 ∨ t = 5 ∨ t = 6 ∨ t = 7 by omega) with rfl | rfl | rfl | rfl | rfl | rfl | rfl | rfl <;> exact st_fR rfl rfl
theorem taT_1 {t i : Nat} {K : Int32 → Option α} (ht : t < 8) (hi : i < 17) : mm_ld (st_h z X M (st_R a b w v p)) 0 (21 + 3 * t) (nI i) K = K (X (21 + 3 * t) i) := by
  rcases (show t = 0 ∨ t = 1 ∨ t = 2 ∨ t = 3 ∨ t = 4 ∨ t = 5 ∨ t = 6 ∨ t = 7 by omega) with rfl | rfl | rfl | rfl | rfl | rfl | rfl | rfl <;> rw [st_ldX (n := 17) (by decide) rfl (vp_in_nI hi (by decide)), nI_clamp (by omega)]
theorem tsT_1 {t i : Nat} {u : Int32} {K : mm_Hp → Option α} (ht : t < 8) (hi : i < 17) : mm_st (st_h z X M (st_R a b w v p)) 0 (21 + 3 * t) (nI i) u K = K (st_h z (st_u X (21 + 3 * t) i u) M (st_R a b w v p)) := by
  rcases (show t = 0 ∨ t = 1 ∨ t = 2 ∨ t = 3 ∨ t = 4 ∨ t = 5 ∨ t = 6 ∨ t = 7 by omega) with rfl | rfl | rfl | rfl | rfl | rfl | rfl | rfl <;> rw [st_stX (n := 17) (by decide) rfl (vp_in_nI hi (by decide)), nI_clamp (by omega)]
theorem tlT_1 {t : Nat} {K : Int32 → Option α} (ht : t < 8) : mm_al (st_h z X M (st_R a b w v p)) (21 + 3 * t) K = K (nI 17) := by
  rcases (show t = 0 ∨ t = 1 ∨ t = 2 ∨ t = 3 ∨ t = 4 ∨ t = 5 ∨ t = 6 ∨ t = 7 by omega) with rfl | rfl | rfl | rfl | rfl | rfl | rfl | rfl <;> exact st_al rfl
theorem taT_2 {t i : Nat} {K : Int32 → Option α} (ht : t < 8) (hi : i < 256) : mm_ld (st_h z X M (st_R a b w v p)) 0 (22 + 3 * t) (nI i) K = K (X (22 + 3 * t) i) := by
  rcases (show t = 0 ∨ t = 1 ∨ t = 2 ∨ t = 3 ∨ t = 4 ∨ t = 5 ∨ t = 6 ∨ t = 7 by omega) with rfl | rfl | rfl | rfl | rfl | rfl | rfl | rfl <;> rw [st_ldX (n := 256) (by decide) rfl (vp_in_nI hi (by decide)), nI_clamp (by omega)]
theorem tsT_2 {t i : Nat} {u : Int32} {K : mm_Hp → Option α} (ht : t < 8) (hi : i < 256) : mm_st (st_h z X M (st_R a b w v p)) 0 (22 + 3 * t) (nI i) u K = K (st_h z (st_u X (22 + 3 * t) i u) M (st_R a b w v p)) := by
  rcases (show t = 0 ∨ t = 1 ∨ t = 2 ∨ t = 3 ∨ t = 4 ∨ t = 5 ∨ t = 6 ∨ t = 7 by omega) with rfl | rfl | rfl | rfl | rfl | rfl | rfl | rfl <;> rw [st_stX (n := 256) (by decide) rfl (vp_in_nI hi (by decide)), nI_clamp (by omega)]
theorem tlT_2 {t : Nat} {K : Int32 → Option α} (ht : t < 8) : mm_al (st_h z X M (st_R a b w v p)) (22 + 3 * t) K = K (nI 256) := by
  rcases (show t = 0 ∨ t = 1 ∨ t = 2 ∨ t = 3 ∨ t = 4 ∨ t = 5 ∨ t = 6 ∨ t = 7 by omega) with rfl | rfl | rfl | rfl | rfl | rfl | rfl | rfl <;> exact st_al rfl
end
