/-! ===== the law's loop, its entry, the claim ===== -/
theorem sub8 : ∀ a, a < 8 → ∀ i, i < 8 → nI a - nI 8 < nI i := by decide
theorem sub8b {a : Nat} (h : 8 ≤ a) : nI a - nI 8 = nI (a - 8) := by
  have e : nI a = nI (a - 8) + nI 8 := by rw [nI_add, Nat.sub_add_cancel h]
  rw [e, Int32.add_sub_cancel]
theorem le_of_sub8 {a i : Nat} (ha : a ≤ 4096) (hi : i ≤ a) (h : ¬ nI a - nI 8 < nI i) : i + 8 ≤ a := by
  rcases Nat.lt_or_ge a 8 with g | g
  · exact absurd (sub8 a g i (by omega)) h
  · rw [sub8b g, nI_ltI (by omega) (by omega)] at h
    omega
theorem lw_in {i a : Nat} (ha : a ≤ 4096) (h : i + 8 ≤ a) (n : Int) (h1 : 1 ≤ n) (h7 : n ≤ 7) : vp_in (nI i + Int32.ofInt n) a := by
  obtain ⟨k, rfl⟩ := Int.eq_ofNat_of_zero_le (show 0 ≤ n by omega)
  have e : Int32.ofInt (k : Int) = nI k := rfl
  rw [e, nI_add]
  exact vp_in_nI (by omega) (by omega)
section
variable {p : Program} {l : Launch} {e : Env} {s : State} {m : MethodId} {below : List Frame} {meth : Method} {c : Code} {b L : Nat} {xs : Nat → Int32} {D : va_G} {cA : Nat → ClassId}
set_option maxHeartbeats 4000000 in
set_option maxRecDepth 20000 in
theorem lw_loop (hL : L ≤ 4096) (G : lw_G p s m meth c b L xs D cA) (z : Nat) {cells slots : Nat} (hc : cells ≤ 600000 ∧ slots ≤ 7302250) : ∀ (n i : Nat), i ≤ L → L + 1 ≤ i + n → ∀ (X M : Nat → Nat → Int32) (qa qb qw qv : Nat) (pp : Nat → Option Nat) (ad : Nat → Nat) (H : Heap) (locs : List Loc) (ls : Array Slot), Inv X M qa qb qw qv → lw_W s D cA ad (st_h z X M (st_R qa qb qw qv pp)) H locs → lv_has ls 4 [(0, .ref b), (1, .ref (ad 0)), (2, .ref (ad 70)), (3, .int (nI i))] → W p l e room_1 s m #[Value.ref b] below meth c H locs cells slots (lw_Z below #[Value.ref b] s) (F0 m 18 ls []) := by
  intro n
  have hx := G.1.1
  have hb := G.1.2.1
  have hX := G.1.2.2.2.2.2.2.1
  have hbl := G.1.2.2.2.2.2.2.2.1
  have hbA : ¬ lw_A s b := Nat.not_le.mpr hbl
  induction n with
  | zero =>
    intro i h1 h2
    exact absurd h2 (by omega)
  | succ n ih =>
    intro i hi hn X M qa qb qw qv pp ad H locs ls hI hw hl
    have hS := hw.2.2.1
    refine lv_iload_n hx hb (show decode code 18 = .ok (.iload_n 3, 1) by decide +kernel) rfl (lv_at hl 3 rfl) ?_
    refine lv_aload_n hx hb (show decode code 19 = .ok (.aload_n 0, 1) by decide +kernel) rfl (lv_at hl 0 rfl) ?_
    refine va_slen hx hb hX hbl hbA hS (show decode code 20 = .ok (.arraylength, 1) by decide +kernel) ?_
    refine lv_bipush (v := nI 8) hx hb (show decode code 21 = .ok (.bipush 8, 2) by decide +kernel) rfl ?_
    refine lv_isub hx hb (show decode code 23 = .ok (.isub, 1) by decide +kernel) ?_
    refine lv_icmp_gt (tgt := 752) hx hb (show decode code 24 = .ok (.if_icmp .gt 728, 3) by decide +kernel) (by decide) (fun _ => ?_) (fun c1 => ?_)
    · refine lv_iconst (v := 1) hx hb (show decode code 752 = .ok (.iconst 1, 1) by decide +kernel) (by decide) ?_
      refine va_forget (fun q hq => hS.2.2 q hq) ?_
      refine W.widen (k := 600000) (n := 7302250) hc.1 hc.2 ?_
      exact lw_ret hx hb G.1.2.2.1 G.1.2.2.2.2.2.2.2.2.1 (show decode code 753 = .ok (.ireturn, 1) by decide +kernel)
    · have h8 : i + 8 ≤ L := le_of_sub8 hL hi c1
      have hin := lw_in hL h8
      refine lv_aload_n hx hb (show decode code 27 = .ok (.aload_n 0, 1) by decide +kernel) rfl (lv_at hl 0 rfl) ?_
      refine lv_iload_n hx hb (show decode code 28 = .ok (.iload_n 3, 1) by decide +kernel) rfl (lv_at hl 3 rfl) ?_
      refine va_sld hx hb hX hbl hbA hS (vp_in_nI (by omega) (by omega)) (show decode code 29 = .ok (.iaload, 1) by decide +kernel) ?_
      refine lv_bipush (v := nI 31) hx hb (show decode code 30 = .ok (.bipush 31, 2) by decide +kernel) rfl ?_
      refine lv_iand hx hb (show decode code 32 = .ok (.iand, 1) by decide +kernel) ?_
      have hd : decode code 33 = .ok (.tableswitch 713 0 17 #[87, 150, 173, 186, 273, 326, 379, 442, 453, 476, 489, 512, 525, 538, 561, 594, 637, 680], 87) := by decide +kernel
      have hend : ∀ (X M : Nat → Nat → Int32) (qa qb qw qv : Nat) (pp : Nat → Option Nat) (ad' : Nat → Nat) (H1 : Heap) (locs1 : List Loc), Inv X M qa qb qw qv → lw_W s D cA ad' (st_h z X M (st_R qa qb qw qv pp)) H1 locs1 → lv_has ls 4 [(0, .ref b), (1, .ref (ad' 0)), (2, .ref (ad' 70)), (3, .int (nI i))] → W p l e room_1 s m #[Value.ref b] below meth c H1 locs1 cells slots (lw_Z below #[Value.ref b] s) (F0 m 746 ls []) := by
        intro X M qa qb qw qv pp ad' H1 locs1 hI1 hw1 hl1
        refine lv_iinc (v := nI (i + 8)) (lv' := [(3, .int (nI (i + 8))), (0, .ref b), (1, .ref (ad' 0)), (2, .ref (ad' 70))]) hx hb (show decode code 746 = .ok (.iinc 3 8, 3) by decide +kernel) hl1 (k := 3) rfl (nI_add i 8) (by decide) rfl (fun ls' hl2 => ?_)
        refine lv_goto (tgt := 18) hx hb (show decode code 749 = .ok (.goto (-731), 3) by decide +kernel) (by decide) ?_
        exact ih (i + 8) h8 (by omega) X M qa qb qw qv pp ad' H1 locs1 ls' hI1 hw1 (lv_sub hl2 [1, 2, 3, 0] rfl)
      obtain ⟨k, hk, ek⟩ := pk_andE (xs (nI i).toNatClampNeg) (m := nI 31) 5 rfl
      rw [ek]
      rcases Nat.lt_or_ge k 18 with hk18 | hk18
      · match k, hk18 with
        | 0, _ => exact lv_tableIn (tgt := 120) (off := 87) hx hb hd (by decide +kernel) (by decide +kernel) (by decide +kernel) (by decide) (lc_120 G hw hI hl hin hc hend)
        | 1, _ => exact lv_tableIn (tgt := 183) (off := 150) hx hb hd (by decide +kernel) (by decide +kernel) (by decide +kernel) (by decide) (lc_183 G hw hI hl hin hc hend)
        | 2, _ => exact lv_tableIn (tgt := 206) (off := 173) hx hb hd (by decide +kernel) (by decide +kernel) (by decide +kernel) (by decide) (lc_206 G hw hI hl hin hc hend)
        | 3, _ => exact lv_tableIn (tgt := 219) (off := 186) hx hb hd (by decide +kernel) (by decide +kernel) (by decide +kernel) (by decide) (lc_219 G hw hI hl hin hc hend)
        | 4, _ => exact lv_tableIn (tgt := 306) (off := 273) hx hb hd (by decide +kernel) (by decide +kernel) (by decide +kernel) (by decide) (lc_306 G hw hI hl hin hc hend)
        | 5, _ => exact lv_tableIn (tgt := 359) (off := 326) hx hb hd (by decide +kernel) (by decide +kernel) (by decide +kernel) (by decide) (lc_359 G hw hI hl hin hc hend)
        | 6, _ => exact lv_tableIn (tgt := 412) (off := 379) hx hb hd (by decide +kernel) (by decide +kernel) (by decide +kernel) (by decide) (lc_412 G hw hI hl hin hc hend)
        | 7, _ => exact lv_tableIn (tgt := 475) (off := 442) hx hb hd (by decide +kernel) (by decide +kernel) (by decide +kernel) (by decide) (lc_475 G hw hI hl hin hc hend)
        | 8, _ => exact lv_tableIn (tgt := 486) (off := 453) hx hb hd (by decide +kernel) (by decide +kernel) (by decide +kernel) (by decide) (lc_486 G hw hI hl hin hc hend)
        | 9, _ => exact lv_tableIn (tgt := 509) (off := 476) hx hb hd (by decide +kernel) (by decide +kernel) (by decide +kernel) (by decide) (lc_509 G hw hI hl hin hc hend)
        | 10, _ => exact lv_tableIn (tgt := 522) (off := 489) hx hb hd (by decide +kernel) (by decide +kernel) (by decide +kernel) (by decide) (lc_522 G hw hI hl hin hc hend)
        | 11, _ => exact lv_tableIn (tgt := 545) (off := 512) hx hb hd (by decide +kernel) (by decide +kernel) (by decide +kernel) (by decide) (lc_545 G hw hI hl hin hc hend)
        | 12, _ => exact lv_tableIn (tgt := 558) (off := 525) hx hb hd (by decide +kernel) (by decide +kernel) (by decide +kernel) (by decide) (lc_558 G hw hI hl hin hc hend)
        | 13, _ => exact lv_tableIn (tgt := 571) (off := 538) hx hb hd (by decide +kernel) (by decide +kernel) (by decide +kernel) (by decide) (lc_571 G hw hI hl hin hc hend)
        | 14, _ => exact lv_tableIn (tgt := 594) (off := 561) hx hb hd (by decide +kernel) (by decide +kernel) (by decide +kernel) (by decide) (lc_594 G hw hI hl hin hc hend)
        | 15, _ => exact lv_tableIn (tgt := 627) (off := 594) hx hb hd (by decide +kernel) (by decide +kernel) (by decide +kernel) (by decide) (lc_627 G hw hI hl hin hc hend)
        | 16, _ => exact lv_tableIn (tgt := 670) (off := 637) hx hb hd (by decide +kernel) (by decide +kernel) (by decide +kernel) (by decide) (lc_670 G hw hI hl hin hc hend)
        | 17, _ => exact lv_tableIn (tgt := 713) (off := 680) hx hb hd (by decide +kernel) (by decide +kernel) (by decide +kernel) (by decide) (lc_713 G hw hI hl hin hc hend)
        | k + 18, h => exact absurd h (by omega)
      · exact lv_tableOut (tgt := 746) hx hb hd (Or.inr (by rw [nI_toInt (by omega)]; omega)) (by decide) (hend _ _ _ _ _ _ _ _ _ _ hI hw hl)
end
theorem lw_arr {s : State} {args : Array Value} {ty : FieldType} (h : (Cond.arrayClass ty).before args s = true) : ∃ cA : ClassId, ArrOfT s cA ty ∧ s.vm.findClass ("[" ++ ty.toString) = some cA := by
  obtain ⟨cA, kA, comp, h1, h2, h3⟩ := Cond.arrayClass_spec h
  exact ⟨cA, fun n z => ⟨fun k h => (by cases h), kA, h2, comp, h3⟩, h1⟩
theorem lw_aro {s : State} {args : Array Value} {C : String} (h : (Cond.arrayOver (.object C)).before args s = true) : ∃ cA : ClassId, ArrOfT s cA (.object C) ∧ va_RA s cA (.object C) := by
  obtain ⟨comp, cA, kA, h1, h2, h3, h4, h5⟩ := Cond.arrayOver_spec h
  exact ⟨cA, fun n z => ⟨fun k h => (by cases h), kA, h3, comp, h4⟩, kA, comp, h3, h4, h1, h5⟩
theorem lw_xo : Cond.arrayOver (.object lw_tc) ∈ pg_xs := by decide +kernel
set_option maxHeartbeats 4000000 in
theorem lw_known {p : Program} {s : State} {m : MethodId} {meth : Method} {c : Code} {b L : Nat} {xs : Nat → Int32} (C0 : lw_At p s m meth c b L xs) : ∃ (D : va_G) (cA : Nat → ClassId), lw_G p s m meth c b L xs D cA := by
  have hts := C0.2.2.2.2.2.1
  have hT : ∀ w ∈ pg_T, w.before #[Value.ref b] s = true := fun w hw => hts w (List.mem_filter.mp hw).1
  have hk : ∀ ci : Nat, ∃ (cC : ClassId) (iS : Nat → Nat), ∀ r : vw_C, pg_cl[ci]? = some r → u_Kn s r.1 r.2.1 r.2.2 cC iS := by
    intro ci
    cases hq : pg_cl[ci]? with
    | none => exact ⟨m.cls, fun _ => 0, fun r h => by cases h⟩
    | some r =>
      have hC := pg_Cl ci r hq
      obtain ⟨cC, iS, h⟩ := u_known hT hC.1 (hT _ hC.2.2.2.2.2.1)
      exact ⟨cC, iS, fun r' h' => by cases h'; exact h⟩
  obtain ⟨c0, a0, n0⟩ := lw_arr (hT (.arrayClass .int) (pg_in1 (List.mem_of_getElem? (i := 47) rfl) rfl))
  obtain ⟨c1, a1, n1⟩ := lw_arr (hT (.arrayClass .byte) (pg_in1 (List.mem_of_getElem? (i := 83) rfl) rfl))
  obtain ⟨c2, a2, n2⟩ := lw_arr (hT (.arrayClass .boolean) (pg_in5 (List.mem_of_getElem? (i := 234) rfl) rfl))
  obtain ⟨c3, a3, n3⟩ := lw_aro (hts _ (pg_xm _ lw_xo))
  refine ⟨(fun ci => (hk ci).choose, fun ci => (hk ci).choose_spec.choose), fun k => match k with | 0 => c0 | 1 => c1 | 2 => c2 | _ => c3, C0, ⟨fun ci r h => (hk ci).choose_spec.choose_spec r h, fun k q h => ?_⟩, fun w hw => ?_⟩
  · match k, h with
    | 0, h => cases h; exact ⟨a0, n0⟩
    | 1, h => cases h; exact ⟨a1, n1⟩
    | 2, h => cases h; exact ⟨a2, n2⟩
    | 3, h => cases h; exact ⟨a3, n3⟩
    | k + 4, h => simp at h
  · have h := hts w (pg_xm w hw)
    rcases pg_xk w hw with ⟨a, i, x, g, rfl⟩ | ⟨C, rfl⟩
    · exact h
    · exact h
theorem lw_wf0 : mm_wf (st_k 0 0 zX []) := by
  have e : ∀ k, mm_s (st_k 0 0 zX []) k = none := fun k => if_neg (t := st_sh k) (Nat.not_lt_zero k)
  refine ⟨fun k _ => e k, fun k j r h => ?_, fun k t n h => ?_⟩
  · cases h
  · rw [e] at h
    cases h
theorem nw_0 : mm_nw (st_k 0 0 zX []) 12 (.inl 10) = st_k 1 (0 + 12) zX [] := gk_w2 ⟨⟨rfl, rfl⟩, rfl⟩
theorem nw_70 (z : Nat) : mm_nw (st_k 70 z hX1 hL1) 59 (.inl 11) = st_k 71 (z + 59) hX1 hL1 := gk_w2 ⟨⟨rfl, rfl⟩, rfl⟩
set_option maxHeartbeats 4000000 in
set_option maxRecDepth 20000 in
/-- from the entry, for every script of at most 4096 ints, the law comes to its end with true -/
theorem whole_start {p : Program} {e : Env} {s : State} {m : MethodId} {below : List Frame} {meth : Method} {c : Code} (l : Launch) {b L : Nat} {xs : Nat → Int32} (hL : L ≤ 4096) (C0 : lw_At p s m meth c b L xs) : W p l e room_1 s m #[Value.ref b] below meth c s.heap [] 0 0 (lw_Z below #[Value.ref b] s) (entryFrame m ([Value.ref b] : List Value).toArray 4) := by
  obtain ⟨D, cA, G⟩ := lw_known C0
  have hx := G.1.1
  have hb := G.1.2.1
  have hw0 : lw_W s D cA (fun _ => 0) (st_k 0 0 zX []) s.heap [] := ⟨fun k q h => by simp [mm_ws, mm_n, st_k] at h, ⟨fun i j p q h => by simp [mm_ws, mm_n, st_k] at h, fun k q h => by simp [mm_ws, mm_n, st_k] at h⟩, va_S.rf, lw_wf0⟩
  have hl := lv_entry ([.ref b]) (n := 4) (Nat.le_of_ble_eq_true rfl)
  rw [lg_entry_eq]
  generalize (lg_sl ([.ref b]) ++ List.replicate (4 - (lg_sl ([.ref b])).length) Slot.unset).toArray = ls at hl ⊢
  have hl : lv_has ls 4 [(0, .ref b)] := hl
  refine lw_new (k := 7) (a := 10) (r0 := (RX11, TX11, 12)) G hw0 rfl (pg_in1 (List.mem_of_getElem? (i := 18) rfl) rfl) (by decide +kernel) ⟨by decide, by decide⟩ (fun q0 H1 hw1 => ?_)
  have hw1 : lw_W s D cA (va_up (fun _ => 0) 0 q0) (mm_nw (st_k 0 0 zX []) 12 (.inl 10)) H1 [] := hw1
  rw [nw_0] at hw1
  generalize e0 : va_up (fun _ => 0) 0 q0 = ad at hw1
  have e0 : q0 = ad 0 := by rw [← e0]; exact (va_up_self _ _ _).symm
  rw [e0]
  refine lv_dup hx hb (show decode code 3 = .ok (.dup, 1) by decide +kernel) rfl ?_
  refine lw_init (k := 9) (a := 121) (q0 := 0) (q1 := pg_m121) (h1 := st_k 70 (0 + 12 + 52947) hX1 hL1) G hw1 ⟨rfl, rfl⟩ (pg_in1 (List.mem_of_getElem? (i := 20) rfl) rfl) (by decide +kernel) rfl (ctor_X2 9 (0 + 12)) (show 0 < 1 by decide) (Nat.le_of_ble_eq_true rfl) hl.1 (show 0 + 1 + (70 - 1) ≤ 600000 ∧ 0 + 12 + (0 + 12 + 52947 - (0 + 12)) ≤ 7302250 by decide) (fun ad1 H2 locs2 ha1 hw2 => ?_)
  refine W.widen (k := 70) (n := 52959) (show 0 + 1 + (70 - 1) ≤ 70 by decide) (show 0 + 12 + (0 + 12 + 52947 - (0 + 12)) ≤ 52959 by decide) ?_
  rw [← ha1 0 (show 0 < 1 by decide)]
  refine lv_astore_n (lv' := [(1, .ref (ad1 0)), (0, .ref b)]) hx hb (show decode code 7 = .ok (.astore_n 1, 1) by decide +kernel) rfl hl (by decide) rfl (fun ls hl => ?_)
  refine lw_new (k := 10) (a := 11) (r0 := (RX12, TX12, 59)) G hw2 rfl (pg_in5 (List.mem_of_getElem? (i := 46) rfl) rfl) (by decide +kernel) ⟨by decide, by decide⟩ (fun q1 H3 hw3 => ?_)
  have hw3 : lw_W s D cA (va_up ad1 70 q1) (mm_nw (st_k 70 (0 + 12 + 52947) hX1 hL1) 59 (.inl 11)) H3 locs2 := hw3
  rw [nw_70] at hw3
  generalize e1 : va_up ad1 70 q1 = ad2 at hw3
  have e2 : ad1 0 = ad2 0 := by rw [← e1]; exact (va_up_ne _ _ (by decide)).symm
  have e1 : q1 = ad2 70 := by rw [← e1]; exact (va_up_self _ _ _).symm
  rw [e1]
  refine lv_dup hx hb (show decode code 11 = .ok (.dup, 1) by decide +kernel) rfl ?_
  refine lw_init (k := 12) (a := 144) (q0 := 70) (q1 := pg_m144) (h1 := st_h (0 + 12 + 52947 + 59 + 62490) hX2 (fgM hX2 0) (st_R 48 57 66 68 (fun _ => none))) G hw3 ⟨rfl, rfl⟩ (pg_in5 (List.mem_of_getElem? (i := 48) rfl) rfl) (by decide +kernel) rfl (ctor_M 9 (0 + 12 + 52947 + 59)) (show 70 < 71 by decide) (Nat.le_of_ble_eq_true rfl) hl.1 (show 70 + 1 + (95 - 71) ≤ 600000 ∧ 52959 + 59 + (0 + 12 + 52947 + 59 + 62490 - (0 + 12 + 52947 + 59)) ≤ 7302250 by decide) (fun ad3 H4 locs4 ha3 hw4 => ?_)
  refine W.widen (k := 95) (n := 115508) (show 70 + 1 + (95 - 71) ≤ 95 by decide) (show 52959 + 59 + (0 + 12 + 52947 + 59 + 62490 - (0 + 12 + 52947 + 59)) ≤ 115508 by decide) ?_
  rw [← ha3 70 (show 70 < 71 by decide)]
  refine lv_astore_n (lv' := [(2, .ref (ad3 70)), (1, .ref (ad1 0)), (0, .ref b)]) hx hb (show decode code 15 = .ok (.astore_n 2, 1) by decide +kernel) rfl hl (by decide) rfl (fun ls hl => ?_)
  rw [e2, ← ha3 0 (show 0 < 71 by decide)] at hl
  refine lv_iconst (v := nI 0) hx hb (show decode code 16 = .ok (.iconst 0, 1) by decide +kernel) rfl ?_
  refine lv_istore_n (lv' := [(3, .int (nI 0)), (2, .ref (ad3 70)), (1, .ref (ad3 0)), (0, .ref b)]) hx hb (show decode code 17 = .ok (.istore_n 3, 1) by decide +kernel) rfl hl (by decide) rfl (fun ls hl => ?_)
  exact lw_loop hL G _ ⟨by decide, by decide⟩ (L + 1) 0 (Nat.zero_le L) (by omega) _ _ _ _ _ _ _ ad3 H4 locs4 ls inv_0 hw4 (lv_sub hl [3, 2, 1, 0] rfl)
set_option maxHeartbeats 4000000 in
theorem lw_walk (l : Launch) (b : Addr) (xs : List Int32) : MetFree l x (headSpec (Jvm.Cond.code x code maxLocals ret :: tables_1) room_1) (lw_P b xs) (fun _ _ _ _ _ => True) lw_Q := by
  refine MetFree.of_bodyS (code := code) (maxLocals := maxLocals) (ret := ret) (by decide) ?_ ?_
  · intro args s m h hn
    obtain ⟨meth, c, h1, h2, h3, h4, h5, h6, -, -⟩ := Cond.code_spec hn (atoms_spec (ws := Jvm.Cond.code x code maxLocals ret :: tables_1) h _ List.mem_cons_self)
    exact ⟨meth, c, h1, h2, h3, h4, h5, h6⟩
  · intro p e s m args below meth c s₁ B hml0 hP _
    obtain ⟨rfl, hx, hbd, hgv⟩ := hP
    obtain ⟨scr, harrAt, hlist, hof, hsmall⟩ := hx
    obtain ⟨hcb, hkn, -, -⟩ := State.arrayAt?_spec harrAt
    have hown : s.vm.findClass R_law = some m.cls := findClass_of_methodNamed B.named
    have hts0 : ∀ c ∈ (Jvm.Cond.code x code maxLocals ret :: tables_1), c.before #[Value.ref b] s = true := atoms_spec (ws := Jvm.Cond.code x code maxLocals ret :: tables_1) B.pre
    have hts : ∀ w ∈ lw_tbl, w.before #[Value.ref b] s = true := k2_hts_sels lw_privs (fun w hw => hts0 w (List.mem_cons_of_mem _ hw)) lw_privs_ok
    have hml : c.maxLocals = 4 := B.maxLocals_eq (hts0 _ List.mem_cons_self)
    have X₀ : Stand p l e room_1 s m #[Value.ref b] below meth c s₁ [] 0 0 := Stand.of_body B
    have hh0 : s₁.heap = s.heap := by rw [B.state]; rfl
    have hsz : scr.slots.size = xs.length := by rw [← Array.length_toList, hlist, List.length_map]
    have hval : ∀ j : Nat, j < xs.length → scr.slots[j]? = some (.int (xs.getD j 0)) := fun j hj => by
      rw [← Array.getElem?_toList, hlist]
      simp [hj]
    have hbl : b < s.heap.size := (Array.getElem?_eq_some_iff.mp hcb).1
    have hX : va_X b xs.length (fun j => xs.getD j 0) s s.heap := ⟨scr, hcb, hof, hkn, hsz, hval⟩
    have K : W p l e room_1 s m #[Value.ref b] below meth c s₁.heap [] 0 0 (lw_Z below #[Value.ref b] s) (entryFrame m ([Value.ref b] : List Value).toArray 4) := by
      rw [hh0]
      exact whole_start l hbd ⟨B.exec, B.bytes, B.returns, hml, hown, hts, hX, hbl, B.notSynchronized, hgv⟩
    obtain ⟨t, a1, o, b1, b2, b3⟩ := K s₁ rfl X₀
    exact ⟨t, o, a1, b1, b2, b3⟩
theorem lw_pre_spec {args : Array Value} {s : State} (h : (Jvm.Cond.and given_1 narrow_1).before args s = true) (hr : rest_1_c.before args s = true) : ∃ (b : Addr) (xs : List Int32), lw_P b xs args s := by
  have hs := flat_of_before _ h
  have hq := flat_of_before _ hr
  have hc : (Cond.count 1).before args s = true := hs _ (by decide +kernel)
  have harr : (Cond.arrayOf (.arg 0) .int).before args s = true := hs _ (by decide +kernel)
  have hle : (Cond.le (.length (.arg 0)) (.int 4096)).before args s = true := hs _ (by decide +kernel)
  have hlen : (Cond.isInt (.length (.arg 0))).before args s = true := hq _ (by decide +kernel)
  have hall : (Cond.all (.arg 0) (.isInt (.elem (.arg 0) (.index 0)))).before args s = true := hq _ (by decide +kernel)
  obtain ⟨b, xs, hb, hx⟩ := State.ints_of_pre rfl harr hlen hall
  have hsm : xs.length < 2 ^ 31 := hx.choose_spec.2.2.2
  have hev : (Term.length (.arg 0)).eval args s none [] s = some (.int xs.length.toInt32) := hx.length_eval hb
  have hv := Cond.le_ints hev (show (Term.int 4096).eval args s none [] s = some (.int 4096) from rfl)
  have hd : xs.length.toInt32 ≤ 4096 := by
    simpa [Cond.before, Cond.holds, hv] using hle
  have hN : xs.length ≤ 4096 := (Int32.ofNat_le_ofNat hsm (by decide)).mp (show Int32.ofNat xs.length ≤ Int32.ofNat 4096 from hd)
  exact ⟨b, xs, Cond.one_arg hc (show args[0]? = some (.ref b) from hb), hx, hN, h⟩
theorem lw_comes (l : Launch) : Comes l x (Jvm.Cond.code x code maxLocals ret :: tables_1) room_1 (fun tb e args s => Calls_1 tb e args s ∧ rest_1 tb e args s ∧ Pre_1 tb e args s)
    (fun _ _ args s o t => lw_Q args s o t) := by
  intro p e ha hc hk s m args below hf hfit hheap happ hpre
  obtain ⟨b, xs, hP⟩ := lw_pre_spec hpre.2.2 hpre.2.1
  obtain ⟨k, o, h1, h2, h3, hQ⟩ := lw_walk l b xs p e ha hc hk s m args below hf ((Spec.applies_iff_loose hf).mp happ).1 hP trivial
  exact ⟨k, o, h1, h2, h3, hQ⟩
theorem lw_frame {s t : State} {o : Outcome} {args : Array Value} (h : Framed s o t [] 600000 7302250) :
    Framed s o t (fieldLocs frame_1_writes args s ++ arrayLocs frame_1_arrays args s ++ staticLocs frame_1_statics s) 600000 7302250 := h
theorem lw_limb (L : Cond) (hL : ∀ (args : Array Value) (s t : State), L.after args s (.returned (some (.int 1))) t = true) :
    ArmFor flags0 classFile x code maxLocals ret World_1 tables_1 room_1 Calls_1 rest_1 Pre_1
      (fun tb e a s o t => postC L tb e a s o t ∧ Framed s o t (fieldLocs frame_1_writes a s ++ arrayLocs frame_1_arrays a s ++ staticLocs frame_1_statics s) 600000 7302250) := by
  intro l _ _ _ p e ha hc hk s m args below hf hfit hheap happ hpre
  obtain ⟨k, o, h1, h2, h3, rfl, hF⟩ := lw_comes l p e ha hc hk s m args below hf hfit hheap happ hpre
  exact ⟨k, _, h1, h2, h3, hL args s _, lw_frame hF⟩
theorem i_vc : Claimed_1_1 ∧ Claimed_1_2 := ⟨lw_limb limb_1_1 (fun args s t => by simp [limb_1_1, Cond.after, Cond.holds, Cond.value]), lw_limb limb_1_2 (fun args s t => Cond.after_iff.mpr (by
  first | (rw [show limb_1_2 = Cond.eq .result (.int 1) from rfl, Cond.eq_ints (x := 1) (y := 1) rfl rfl]; simp; done) | (simp [limb_1_2, Cond.value, Term.eval]; done)))⟩
