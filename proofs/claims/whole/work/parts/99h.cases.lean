/-! ===== the law's eighteen cases ===== -/
section
variable {p : Program} {l : Launch} {e : Env} {s : State} {m : MethodId} {below : List Frame} {meth : Method} {c : Code} {b L : Nat} {xs : Nat → Int32} {H : Heap} {locs : List Loc} {cells slots : Nat} {Q : State → Prop} {pc : Nat} {ls : Array Slot} {D : va_G} {cA : Nat → ClassId} {ad : Nat → Nat} {X M : Nat → Nat → Int32} {qa qb qw qv z : Nat} {pp : Nat → Option Nat} {x3 : Int32}
theorem lw_hl {ad ad' : Nat → Nat} (hl : lv_has ls 4 [(0, .ref b), (1, .ref (ad 0)), (2, .ref (ad 70)), (3, .int x3)]) (h : ∀ k, k < 95 → ad' k = ad k) : lv_has ls 4 [(0, .ref b), (1, .ref (ad' 0)), (2, .ref (ad' 70)), (3, .int x3)] := by
  rw [h 0 (by decide), h 70 (by decide)]
  exact hl
set_option maxHeartbeats 4000000 in
set_option maxRecDepth 20000 in
theorem lc_120 (G : lw_G p s m meth c b L xs D cA) (hw : lw_W s D cA ad (st_h z X M (st_R qa qb qw qv pp)) H locs) (hI : Inv X M qa qb qw qv) (hl : lv_has ls 4 [(0, .ref b), (1, .ref (ad 0)), (2, .ref (ad 70)), (3, .int x3)]) (hin : ∀ n : Int, 1 ≤ n → n ≤ 7 → vp_in (x3 + Int32.ofInt n) L) (hc : cells ≤ 600000 ∧ slots ≤ 7302250)
    (kk : ∀ (X M : Nat → Nat → Int32) (qa qb qw qv : Nat) (pp : Nat → Option Nat) (ad' : Nat → Nat) (H1 : Heap) (locs1 : List Loc), Inv X M qa qb qw qv → lw_W s D cA ad' (st_h z X M (st_R qa qb qw qv pp)) H1 locs1 → lv_has ls 4 [(0, .ref b), (1, .ref (ad' 0)), (2, .ref (ad' 70)), (3, .int x3)] → W p l e room_1 s m #[Value.ref b] below meth c H1 locs1 cells slots Q (F0 m 746 ls [])) :
    W p l e room_1 s m #[Value.ref b] below meth c H locs cells slots Q (F0 m 120 ls []) := by
  have hx := G.1.1
  have hb := G.1.2.1
  obtain ⟨r, X', M', a', b', w', v', p', e1, e2, hI'⟩ := q_feed (xs (x3 + Int32.ofInt 1).toNatClampNeg) (xs (x3 + Int32.ofInt 2).toNatClampNeg) (xs (x3 + Int32.ofInt 3).toNatClampNeg) (xs (x3 + Int32.ofInt 4).toNatClampNeg) (xs (x3 + Int32.ofInt 5).toNatClampNeg) 9 z X M qa qb qw qv pp hI
  have E1 := e1 M
  have E2 := e2 X' a' b' w' v' p'
  obtain ⟨y, rfl⟩ : ∃ y, r = some (.int y) := mm_ev_i (q := pg_m122) rfl (by decide +kernel) E1
  refine lv_aload_n hx hb (show decode code 120 = .ok (.aload_n 1, 1) by decide +kernel) rfl (lv_at hl 1 rfl) ?_
  refine lw_ld (n := 1) G hw hl (hin 1 (by decide) (by decide)) (by decide +kernel) ?_
  refine lw_ld (n := 2) G hw hl (hin 2 (by decide) (by decide)) (by decide +kernel) ?_
  refine lw_ld (n := 3) G hw hl (hin 3 (by decide) (by decide)) (by decide +kernel) ?_
  refine lw_ld (n := 4) G hw hl (hin 4 (by decide) (by decide)) (by decide +kernel) ?_
  refine lw_ld (n := 5) G hw hl (hin 5 (by decide) (by decide)) (by decide +kernel) ?_
  refine lw_call (as := [(xs (x3 + Int32.ofInt 1).toNatClampNeg), (xs (x3 + Int32.ofInt 2).toNatClampNeg), (xs (x3 + Int32.ofInt 3).toNatClampNeg), (xs (x3 + Int32.ofInt 4).toNatClampNeg), (xs (x3 + Int32.ofInt 5).toNatClampNeg)]) (rest := []) (q1 := pg_m122) (r0 := (RX11, TX11, 12)) (c' := 10) (a := 122) (k := 13) (q0 := 0) G hw ⟨⟨rfl, rfl⟩, rfl, rfl⟩ (pg_in2 (List.mem_of_getElem? (i := 194) rfl) rfl) (by decide +kernel) rfl E1 rfl ⟨rfl, rfl⟩ (Nat.le_of_ble_eq_true rfl) hl.1 hc (fun ad1 H1 locs1 ha1 hw1 => ?_)
  have hl := lw_hl hl ha1
  show W p l e room_1 s m #[Value.ref b] below meth c H1 locs1 cells slots Q (F0 m 149 ls [.int y])
  refine lv_aload_n hx hb (show decode code 149 = .ok (.aload_n 2, 1) by decide +kernel) rfl (lv_at hl 2 rfl) ?_
  refine lw_ld (n := 1) G hw1 hl (hin 1 (by decide) (by decide)) (by decide +kernel) ?_
  refine lw_ld (n := 2) G hw1 hl (hin 2 (by decide) (by decide)) (by decide +kernel) ?_
  refine lw_ld (n := 3) G hw1 hl (hin 3 (by decide) (by decide)) (by decide +kernel) ?_
  refine lw_ld (n := 4) G hw1 hl (hin 4 (by decide) (by decide)) (by decide +kernel) ?_
  refine lw_ld (n := 5) G hw1 hl (hin 5 (by decide) (by decide)) (by decide +kernel) ?_
  refine lw_call (as := [(xs (x3 + Int32.ofInt 1).toNatClampNeg), (xs (x3 + Int32.ofInt 2).toNatClampNeg), (xs (x3 + Int32.ofInt 3).toNatClampNeg), (xs (x3 + Int32.ofInt 4).toNatClampNeg), (xs (x3 + Int32.ofInt 5).toNatClampNeg)]) (rest := [.int y]) (q1 := pg_m145) (r0 := (RX12, TX12, 59)) (c' := 11) (a := 145) (k := 17) (q0 := 70) G hw1 ⟨⟨rfl, rfl⟩, rfl, rfl⟩ (pg_in5 (List.mem_of_getElem? (i := 235) rfl) rfl) (by decide +kernel) rfl E2 rfl ⟨rfl, rfl⟩ (Nat.le_of_ble_eq_true rfl) hl.1 hc (fun ad2 H2 locs2 ha2 hw2 => ?_)
  have hl := lw_hl hl ha2
  show W p l e room_1 s m #[Value.ref b] below meth c H2 locs2 cells slots Q (F0 m 178 ls [.int y, .int y])
  exact lv_icmp_eq (tgt := 746) hx hb (show decode code 178 = .ok (.if_icmp .eq 568, 3) by decide +kernel) (by decide) (fun _ => kk _ _ _ _ _ _ _ ad2 H2 locs2 hI' hw2 hl) (fun hne => absurd rfl hne)
set_option maxHeartbeats 4000000 in
set_option maxRecDepth 20000 in
theorem lc_183 (G : lw_G p s m meth c b L xs D cA) (hw : lw_W s D cA ad (st_h z X M (st_R qa qb qw qv pp)) H locs) (hI : Inv X M qa qb qw qv) (hl : lv_has ls 4 [(0, .ref b), (1, .ref (ad 0)), (2, .ref (ad 70)), (3, .int x3)]) (hin : ∀ n : Int, 1 ≤ n → n ≤ 7 → vp_in (x3 + Int32.ofInt n) L) (hc : cells ≤ 600000 ∧ slots ≤ 7302250)
    (kk : ∀ (X M : Nat → Nat → Int32) (qa qb qw qv : Nat) (pp : Nat → Option Nat) (ad' : Nat → Nat) (H1 : Heap) (locs1 : List Loc), Inv X M qa qb qw qv → lw_W s D cA ad' (st_h z X M (st_R qa qb qw qv pp)) H1 locs1 → lv_has ls 4 [(0, .ref b), (1, .ref (ad' 0)), (2, .ref (ad' 70)), (3, .int x3)] → W p l e room_1 s m #[Value.ref b] below meth c H1 locs1 cells slots Q (F0 m 746 ls [])) :
    W p l e room_1 s m #[Value.ref b] below meth c H locs cells slots Q (F0 m 183 ls []) := by
  have hx := G.1.1
  have hb := G.1.2.1
  obtain ⟨r, X', M', a', b', w', v', p', e1, e2, hI'⟩ := q_end (xs (x3 + Int32.ofInt 1).toNatClampNeg) 9 z X M qa qb qw qv pp hI
  have E1 := e1 M
  have E2 := e2 X' a' b' w' v' p'
  obtain ⟨y, rfl⟩ : ∃ y, r = some (.int y) := mm_ev_i (q := pg_m123) rfl (by decide +kernel) E1
  refine lv_aload_n hx hb (show decode code 183 = .ok (.aload_n 1, 1) by decide +kernel) rfl (lv_at hl 1 rfl) ?_
  refine lw_ld (n := 1) G hw hl (hin 1 (by decide) (by decide)) (by decide +kernel) ?_
  refine lw_call (as := [(xs (x3 + Int32.ofInt 1).toNatClampNeg)]) (rest := []) (q1 := pg_m123) (r0 := (RX11, TX11, 12)) (c' := 10) (a := 123) (k := 18) (q0 := 0) G hw ⟨⟨rfl, rfl⟩, rfl, rfl⟩ (pg_in2 (List.mem_of_getElem? (i := 202) rfl) rfl) (by decide +kernel) rfl E1 rfl ⟨rfl, rfl⟩ (Nat.le_of_ble_eq_true rfl) hl.1 hc (fun ad1 H1 locs1 ha1 hw1 => ?_)
  have hl := lw_hl hl ha1
  show W p l e room_1 s m #[Value.ref b] below meth c H1 locs1 cells slots Q (F0 m 192 ls [.int y])
  refine lv_aload_n hx hb (show decode code 192 = .ok (.aload_n 2, 1) by decide +kernel) rfl (lv_at hl 2 rfl) ?_
  refine lw_ld (n := 1) G hw1 hl (hin 1 (by decide) (by decide)) (by decide +kernel) ?_
  refine lw_call (as := [(xs (x3 + Int32.ofInt 1).toNatClampNeg)]) (rest := [.int y]) (q1 := pg_m146) (r0 := (RX12, TX12, 59)) (c' := 11) (a := 146) (k := 22) (q0 := 70) G hw1 ⟨⟨rfl, rfl⟩, rfl, rfl⟩ (pg_in5 (List.mem_of_getElem? (i := 239) rfl) rfl) (by decide +kernel) rfl E2 rfl ⟨rfl, rfl⟩ (Nat.le_of_ble_eq_true rfl) hl.1 hc (fun ad2 H2 locs2 ha2 hw2 => ?_)
  have hl := lw_hl hl ha2
  show W p l e room_1 s m #[Value.ref b] below meth c H2 locs2 cells slots Q (F0 m 201 ls [.int y, .int y])
  exact lv_icmp_eq (tgt := 746) hx hb (show decode code 201 = .ok (.if_icmp .eq 545, 3) by decide +kernel) (by decide) (fun _ => kk _ _ _ _ _ _ _ ad2 H2 locs2 hI' hw2 hl) (fun hne => absurd rfl hne)
set_option maxHeartbeats 4000000 in
set_option maxRecDepth 20000 in
theorem lc_206 (G : lw_G p s m meth c b L xs D cA) (hw : lw_W s D cA ad (st_h z X M (st_R qa qb qw qv pp)) H locs) (hI : Inv X M qa qb qw qv) (hl : lv_has ls 4 [(0, .ref b), (1, .ref (ad 0)), (2, .ref (ad 70)), (3, .int x3)]) (hin : ∀ n : Int, 1 ≤ n → n ≤ 7 → vp_in (x3 + Int32.ofInt n) L) (hc : cells ≤ 600000 ∧ slots ≤ 7302250)
    (kk : ∀ (X M : Nat → Nat → Int32) (qa qb qw qv : Nat) (pp : Nat → Option Nat) (ad' : Nat → Nat) (H1 : Heap) (locs1 : List Loc), Inv X M qa qb qw qv → lw_W s D cA ad' (st_h z X M (st_R qa qb qw qv pp)) H1 locs1 → lv_has ls 4 [(0, .ref b), (1, .ref (ad' 0)), (2, .ref (ad' 70)), (3, .int x3)] → W p l e room_1 s m #[Value.ref b] below meth c H1 locs1 cells slots Q (F0 m 746 ls [])) :
    W p l e room_1 s m #[Value.ref b] below meth c H locs cells slots Q (F0 m 206 ls []) := by
  have hx := G.1.1
  have hb := G.1.2.1
  obtain ⟨r, X', M', a', b', w', v', p', e1, e2, hI'⟩ := q_take  9 z X M qa qb qw qv pp hI
  have E1 := e1 M
  have E2 := e2 X' a' b' w' v' p'
  obtain ⟨y, rfl⟩ : ∃ y, r = some (.int y) := mm_ev_i (q := pg_m124) rfl (by decide +kernel) E1
  refine lv_aload_n hx hb (show decode code 206 = .ok (.aload_n 1, 1) by decide +kernel) rfl (lv_at hl 1 rfl) ?_
  refine lw_call (as := []) (rest := []) (q1 := pg_m124) (r0 := (RX11, TX11, 12)) (c' := 10) (a := 124) (k := 23) (q0 := 0) G hw ⟨⟨rfl, rfl⟩, rfl, rfl⟩ (pg_in2 (List.mem_of_getElem? (i := 206) rfl) rfl) (by decide +kernel) rfl E1 rfl ⟨rfl, rfl⟩ (Nat.le_of_ble_eq_true rfl) hl.1 hc (fun ad1 H1 locs1 ha1 hw1 => ?_)
  have hl := lw_hl hl ha1
  show W p l e room_1 s m #[Value.ref b] below meth c H1 locs1 cells slots Q (F0 m 210 ls [.int y])
  refine lv_aload_n hx hb (show decode code 210 = .ok (.aload_n 2, 1) by decide +kernel) rfl (lv_at hl 2 rfl) ?_
  refine lw_call (as := []) (rest := [.int y]) (q1 := pg_m147) (r0 := (RX12, TX12, 59)) (c' := 11) (a := 147) (k := 27) (q0 := 70) G hw1 ⟨⟨rfl, rfl⟩, rfl, rfl⟩ (pg_in6 (List.mem_of_getElem? (i := 3) rfl) rfl) (by decide +kernel) rfl E2 rfl ⟨rfl, rfl⟩ (Nat.le_of_ble_eq_true rfl) hl.1 hc (fun ad2 H2 locs2 ha2 hw2 => ?_)
  have hl := lw_hl hl ha2
  show W p l e room_1 s m #[Value.ref b] below meth c H2 locs2 cells slots Q (F0 m 214 ls [.int y, .int y])
  exact lv_icmp_eq (tgt := 746) hx hb (show decode code 214 = .ok (.if_icmp .eq 532, 3) by decide +kernel) (by decide) (fun _ => kk _ _ _ _ _ _ _ ad2 H2 locs2 hI' hw2 hl) (fun hne => absurd rfl hne)
set_option maxHeartbeats 4000000 in
set_option maxRecDepth 20000 in
theorem lc_219 (G : lw_G p s m meth c b L xs D cA) (hw : lw_W s D cA ad (st_h z X M (st_R qa qb qw qv pp)) H locs) (hI : Inv X M qa qb qw qv) (hl : lv_has ls 4 [(0, .ref b), (1, .ref (ad 0)), (2, .ref (ad 70)), (3, .int x3)]) (hin : ∀ n : Int, 1 ≤ n → n ≤ 7 → vp_in (x3 + Int32.ofInt n) L) (hc : cells ≤ 600000 ∧ slots ≤ 7302250)
    (kk : ∀ (X M : Nat → Nat → Int32) (qa qb qw qv : Nat) (pp : Nat → Option Nat) (ad' : Nat → Nat) (H1 : Heap) (locs1 : List Loc), Inv X M qa qb qw qv → lw_W s D cA ad' (st_h z X M (st_R qa qb qw qv pp)) H1 locs1 → lv_has ls 4 [(0, .ref b), (1, .ref (ad' 0)), (2, .ref (ad' 70)), (3, .int x3)] → W p l e room_1 s m #[Value.ref b] below meth c H1 locs1 cells slots Q (F0 m 746 ls [])) :
    W p l e room_1 s m #[Value.ref b] below meth c H locs cells slots Q (F0 m 219 ls []) := by
  have hx := G.1.1
  have hb := G.1.2.1
  obtain ⟨r, X', M', a', b', w', v', p', e1, e2, hI'⟩ := q_picture (xs (x3 + Int32.ofInt 1).toNatClampNeg) (xs (x3 + Int32.ofInt 2).toNatClampNeg) (xs (x3 + Int32.ofInt 3).toNatClampNeg) (xs (x3 + Int32.ofInt 4).toNatClampNeg) (xs (x3 + Int32.ofInt 5).toNatClampNeg) (xs (x3 + Int32.ofInt 6).toNatClampNeg) (xs (x3 + Int32.ofInt 7).toNatClampNeg) 9 z X M qa qb qw qv pp hI
  have E1 := e1 M
  have E2 := e2 X' a' b' w' v' p'
  obtain ⟨y, rfl⟩ : ∃ y, r = some (.int y) := mm_ev_i (q := pg_m125) rfl (by decide +kernel) E1
  refine lv_aload_n hx hb (show decode code 219 = .ok (.aload_n 1, 1) by decide +kernel) rfl (lv_at hl 1 rfl) ?_
  refine lw_ld (n := 1) G hw hl (hin 1 (by decide) (by decide)) (by decide +kernel) ?_
  refine lw_ld (n := 2) G hw hl (hin 2 (by decide) (by decide)) (by decide +kernel) ?_
  refine lw_ld (n := 3) G hw hl (hin 3 (by decide) (by decide)) (by decide +kernel) ?_
  refine lw_ld (n := 4) G hw hl (hin 4 (by decide) (by decide)) (by decide +kernel) ?_
  refine lw_ld (n := 5) G hw hl (hin 5 (by decide) (by decide)) (by decide +kernel) ?_
  refine lw_ldb (n := 6) G hw hl (hin 6 (by decide) (by decide)) rfl (by decide +kernel) ?_
  refine lw_ldb (n := 7) G hw hl (hin 7 (by decide) (by decide)) rfl (by decide +kernel) ?_
  refine lw_call (as := [(xs (x3 + Int32.ofInt 1).toNatClampNeg), (xs (x3 + Int32.ofInt 2).toNatClampNeg), (xs (x3 + Int32.ofInt 3).toNatClampNeg), (xs (x3 + Int32.ofInt 4).toNatClampNeg), (xs (x3 + Int32.ofInt 5).toNatClampNeg), (xs (x3 + Int32.ofInt 6).toNatClampNeg), (xs (x3 + Int32.ofInt 7).toNatClampNeg)]) (rest := []) (q1 := pg_m125) (r0 := (RX11, TX11, 12)) (c' := 10) (a := 125) (k := 28) (q0 := 0) G hw ⟨⟨rfl, rfl⟩, rfl, rfl⟩ (pg_in2 (List.mem_of_getElem? (i := 213) rfl) rfl) (by decide +kernel) rfl E1 rfl ⟨rfl, rfl⟩ (Nat.le_of_ble_eq_true rfl) hl.1 hc (fun ad1 H1 locs1 ha1 hw1 => ?_)
  have hl := lw_hl hl ha1
  show W p l e room_1 s m #[Value.ref b] below meth c H1 locs1 cells slots Q (F0 m 260 ls [.int y])
  refine lv_aload_n hx hb (show decode code 260 = .ok (.aload_n 2, 1) by decide +kernel) rfl (lv_at hl 2 rfl) ?_
  refine lw_ld (n := 1) G hw1 hl (hin 1 (by decide) (by decide)) (by decide +kernel) ?_
  refine lw_ld (n := 2) G hw1 hl (hin 2 (by decide) (by decide)) (by decide +kernel) ?_
  refine lw_ld (n := 3) G hw1 hl (hin 3 (by decide) (by decide)) (by decide +kernel) ?_
  refine lw_ld (n := 4) G hw1 hl (hin 4 (by decide) (by decide)) (by decide +kernel) ?_
  refine lw_ld (n := 5) G hw1 hl (hin 5 (by decide) (by decide)) (by decide +kernel) ?_
  refine lw_ldb (n := 6) G hw1 hl (hin 6 (by decide) (by decide)) rfl (by decide +kernel) ?_
  refine lw_ldb (n := 7) G hw1 hl (hin 7 (by decide) (by decide)) rfl (by decide +kernel) ?_
  refine lw_call (as := [(xs (x3 + Int32.ofInt 1).toNatClampNeg), (xs (x3 + Int32.ofInt 2).toNatClampNeg), (xs (x3 + Int32.ofInt 3).toNatClampNeg), (xs (x3 + Int32.ofInt 4).toNatClampNeg), (xs (x3 + Int32.ofInt 5).toNatClampNeg), (xs (x3 + Int32.ofInt 6).toNatClampNeg), (xs (x3 + Int32.ofInt 7).toNatClampNeg)]) (rest := [.int y]) (q1 := pg_m160) (r0 := (RX12, TX12, 59)) (c' := 11) (a := 160) (k := 32) (q0 := 70) G hw1 ⟨⟨rfl, rfl⟩, rfl, rfl⟩ (pg_in6 (List.mem_of_getElem? (i := 11) rfl) rfl) (by decide +kernel) rfl E2 rfl ⟨rfl, rfl⟩ (Nat.le_of_ble_eq_true rfl) hl.1 hc (fun ad2 H2 locs2 ha2 hw2 => ?_)
  have hl := lw_hl hl ha2
  show W p l e room_1 s m #[Value.ref b] below meth c H2 locs2 cells slots Q (F0 m 301 ls [.int y, .int y])
  exact lv_icmp_eq (tgt := 746) hx hb (show decode code 301 = .ok (.if_icmp .eq 445, 3) by decide +kernel) (by decide) (fun _ => kk _ _ _ _ _ _ _ ad2 H2 locs2 hI' hw2 hl) (fun hne => absurd rfl hne)
set_option maxHeartbeats 4000000 in
set_option maxRecDepth 20000 in
theorem lc_306 (G : lw_G p s m meth c b L xs D cA) (hw : lw_W s D cA ad (st_h z X M (st_R qa qb qw qv pp)) H locs) (hI : Inv X M qa qb qw qv) (hl : lv_has ls 4 [(0, .ref b), (1, .ref (ad 0)), (2, .ref (ad 70)), (3, .int x3)]) (hin : ∀ n : Int, 1 ≤ n → n ≤ 7 → vp_in (x3 + Int32.ofInt n) L) (hc : cells ≤ 600000 ∧ slots ≤ 7302250)
    (kk : ∀ (X M : Nat → Nat → Int32) (qa qb qw qv : Nat) (pp : Nat → Option Nat) (ad' : Nat → Nat) (H1 : Heap) (locs1 : List Loc), Inv X M qa qb qw qv → lw_W s D cA ad' (st_h z X M (st_R qa qb qw qv pp)) H1 locs1 → lv_has ls 4 [(0, .ref b), (1, .ref (ad' 0)), (2, .ref (ad' 70)), (3, .int x3)] → W p l e room_1 s m #[Value.ref b] below meth c H1 locs1 cells slots Q (F0 m 746 ls [])) :
    W p l e room_1 s m #[Value.ref b] below meth c H locs cells slots Q (F0 m 306 ls []) := by
  have hx := G.1.1
  have hb := G.1.2.1
  obtain ⟨r, X', M', a', b', w', v', p', e1, e2, hI'⟩ := q_put (xs (x3 + Int32.ofInt 1).toNatClampNeg) (xs (x3 + Int32.ofInt 2).toNatClampNeg) (xs (x3 + Int32.ofInt 3).toNatClampNeg) (xs (x3 + Int32.ofInt 4).toNatClampNeg) 9 z X M qa qb qw qv pp hI
  have E1 := e1 M
  have E2 := e2 X' a' b' w' v' p'
  obtain ⟨y, rfl⟩ : ∃ y, r = some (.int y) := mm_ev_i (q := pg_m126) rfl (by decide +kernel) E1
  refine lv_aload_n hx hb (show decode code 306 = .ok (.aload_n 1, 1) by decide +kernel) rfl (lv_at hl 1 rfl) ?_
  refine lw_ld (n := 1) G hw hl (hin 1 (by decide) (by decide)) (by decide +kernel) ?_
  refine lw_ld (n := 2) G hw hl (hin 2 (by decide) (by decide)) (by decide +kernel) ?_
  refine lw_ld (n := 3) G hw hl (hin 3 (by decide) (by decide)) (by decide +kernel) ?_
  refine lw_ld (n := 4) G hw hl (hin 4 (by decide) (by decide)) (by decide +kernel) ?_
  refine lw_call (as := [(xs (x3 + Int32.ofInt 1).toNatClampNeg), (xs (x3 + Int32.ofInt 2).toNatClampNeg), (xs (x3 + Int32.ofInt 3).toNatClampNeg), (xs (x3 + Int32.ofInt 4).toNatClampNeg)]) (rest := []) (q1 := pg_m126) (r0 := (RX11, TX11, 12)) (c' := 10) (a := 126) (k := 33) (q0 := 0) G hw ⟨⟨rfl, rfl⟩, rfl, rfl⟩ (pg_in3 (List.mem_of_getElem? (i := 11) rfl) rfl) (by decide +kernel) rfl E1 rfl ⟨rfl, rfl⟩ (Nat.le_of_ble_eq_true rfl) hl.1 hc (fun ad1 H1 locs1 ha1 hw1 => ?_)
  have hl := lw_hl hl ha1
  show W p l e room_1 s m #[Value.ref b] below meth c H1 locs1 cells slots Q (F0 m 330 ls [.int y])
  refine lv_aload_n hx hb (show decode code 330 = .ok (.aload_n 2, 1) by decide +kernel) rfl (lv_at hl 2 rfl) ?_
  refine lw_ld (n := 1) G hw1 hl (hin 1 (by decide) (by decide)) (by decide +kernel) ?_
  refine lw_ld (n := 2) G hw1 hl (hin 2 (by decide) (by decide)) (by decide +kernel) ?_
  refine lw_ld (n := 3) G hw1 hl (hin 3 (by decide) (by decide)) (by decide +kernel) ?_
  refine lw_ld (n := 4) G hw1 hl (hin 4 (by decide) (by decide)) (by decide +kernel) ?_
  refine lw_call (as := [(xs (x3 + Int32.ofInt 1).toNatClampNeg), (xs (x3 + Int32.ofInt 2).toNatClampNeg), (xs (x3 + Int32.ofInt 3).toNatClampNeg), (xs (x3 + Int32.ofInt 4).toNatClampNeg)]) (rest := [.int y]) (q1 := pg_m163) (r0 := (RX12, TX12, 59)) (c' := 11) (a := 163) (k := 37) (q0 := 70) G hw1 ⟨⟨rfl, rfl⟩, rfl, rfl⟩ (pg_in6 (List.mem_of_getElem? (i := 21) rfl) rfl) (by decide +kernel) rfl E2 rfl ⟨rfl, rfl⟩ (Nat.le_of_ble_eq_true rfl) hl.1 hc (fun ad2 H2 locs2 ha2 hw2 => ?_)
  have hl := lw_hl hl ha2
  show W p l e room_1 s m #[Value.ref b] below meth c H2 locs2 cells slots Q (F0 m 354 ls [.int y, .int y])
  exact lv_icmp_eq (tgt := 746) hx hb (show decode code 354 = .ok (.if_icmp .eq 392, 3) by decide +kernel) (by decide) (fun _ => kk _ _ _ _ _ _ _ ad2 H2 locs2 hI' hw2 hl) (fun hne => absurd rfl hne)
set_option maxHeartbeats 4000000 in
set_option maxRecDepth 20000 in
theorem lc_359 (G : lw_G p s m meth c b L xs D cA) (hw : lw_W s D cA ad (st_h z X M (st_R qa qb qw qv pp)) H locs) (hI : Inv X M qa qb qw qv) (hl : lv_has ls 4 [(0, .ref b), (1, .ref (ad 0)), (2, .ref (ad 70)), (3, .int x3)]) (hin : ∀ n : Int, 1 ≤ n → n ≤ 7 → vp_in (x3 + Int32.ofInt n) L) (hc : cells ≤ 600000 ∧ slots ≤ 7302250)
    (kk : ∀ (X M : Nat → Nat → Int32) (qa qb qw qv : Nat) (pp : Nat → Option Nat) (ad' : Nat → Nat) (H1 : Heap) (locs1 : List Loc), Inv X M qa qb qw qv → lw_W s D cA ad' (st_h z X M (st_R qa qb qw qv pp)) H1 locs1 → lv_has ls 4 [(0, .ref b), (1, .ref (ad' 0)), (2, .ref (ad' 70)), (3, .int x3)] → W p l e room_1 s m #[Value.ref b] below meth c H1 locs1 cells slots Q (F0 m 746 ls [])) :
    W p l e room_1 s m #[Value.ref b] below meth c H locs cells slots Q (F0 m 359 ls []) := by
  have hx := G.1.1
  have hb := G.1.2.1
  obtain ⟨r, X', M', a', b', w', v', p', e1, e2, hI'⟩ := q_set (xs (x3 + Int32.ofInt 1).toNatClampNeg) (xs (x3 + Int32.ofInt 2).toNatClampNeg) (xs (x3 + Int32.ofInt 3).toNatClampNeg) (xs (x3 + Int32.ofInt 4).toNatClampNeg) 9 z X M qa qb qw qv pp hI
  have E1 := e1 M
  have E2 := e2 X' a' b' w' v' p'
  obtain ⟨y, rfl⟩ : ∃ y, r = some (.int y) := mm_ev_i (q := pg_m127) rfl (by decide +kernel) E1
  refine lv_aload_n hx hb (show decode code 359 = .ok (.aload_n 1, 1) by decide +kernel) rfl (lv_at hl 1 rfl) ?_
  refine lw_ld (n := 1) G hw hl (hin 1 (by decide) (by decide)) (by decide +kernel) ?_
  refine lw_ld (n := 2) G hw hl (hin 2 (by decide) (by decide)) (by decide +kernel) ?_
  refine lw_ld (n := 3) G hw hl (hin 3 (by decide) (by decide)) (by decide +kernel) ?_
  refine lw_ld (n := 4) G hw hl (hin 4 (by decide) (by decide)) (by decide +kernel) ?_
  refine lw_call (as := [(xs (x3 + Int32.ofInt 1).toNatClampNeg), (xs (x3 + Int32.ofInt 2).toNatClampNeg), (xs (x3 + Int32.ofInt 3).toNatClampNeg), (xs (x3 + Int32.ofInt 4).toNatClampNeg)]) (rest := []) (q1 := pg_m127) (r0 := (RX11, TX11, 12)) (c' := 10) (a := 127) (k := 38) (q0 := 0) G hw ⟨⟨rfl, rfl⟩, rfl, rfl⟩ (pg_in3 (List.mem_of_getElem? (i := 27) rfl) rfl) (by decide +kernel) rfl E1 rfl ⟨rfl, rfl⟩ (Nat.le_of_ble_eq_true rfl) hl.1 hc (fun ad1 H1 locs1 ha1 hw1 => ?_)
  have hl := lw_hl hl ha1
  show W p l e room_1 s m #[Value.ref b] below meth c H1 locs1 cells slots Q (F0 m 383 ls [.int y])
  refine lv_aload_n hx hb (show decode code 383 = .ok (.aload_n 2, 1) by decide +kernel) rfl (lv_at hl 2 rfl) ?_
  refine lw_ld (n := 1) G hw1 hl (hin 1 (by decide) (by decide)) (by decide +kernel) ?_
  refine lw_ld (n := 2) G hw1 hl (hin 2 (by decide) (by decide)) (by decide +kernel) ?_
  refine lw_ld (n := 3) G hw1 hl (hin 3 (by decide) (by decide)) (by decide +kernel) ?_
  refine lw_ld (n := 4) G hw1 hl (hin 4 (by decide) (by decide)) (by decide +kernel) ?_
  refine lw_call (as := [(xs (x3 + Int32.ofInt 1).toNatClampNeg), (xs (x3 + Int32.ofInt 2).toNatClampNeg), (xs (x3 + Int32.ofInt 3).toNatClampNeg), (xs (x3 + Int32.ofInt 4).toNatClampNeg)]) (rest := [.int y]) (q1 := pg_m164) (r0 := (RX12, TX12, 59)) (c' := 11) (a := 164) (k := 41) (q0 := 70) G hw1 ⟨⟨rfl, rfl⟩, rfl, rfl⟩ (pg_in6 (List.mem_of_getElem? (i := 53) rfl) rfl) (by decide +kernel) rfl E2 rfl ⟨rfl, rfl⟩ (Nat.le_of_ble_eq_true rfl) hl.1 hc (fun ad2 H2 locs2 ha2 hw2 => ?_)
  have hl := lw_hl hl ha2
  show W p l e room_1 s m #[Value.ref b] below meth c H2 locs2 cells slots Q (F0 m 407 ls [.int y, .int y])
  exact lv_icmp_eq (tgt := 746) hx hb (show decode code 407 = .ok (.if_icmp .eq 339, 3) by decide +kernel) (by decide) (fun _ => kk _ _ _ _ _ _ _ ad2 H2 locs2 hI' hw2 hl) (fun hne => absurd rfl hne)
set_option maxHeartbeats 4000000 in
set_option maxRecDepth 20000 in
theorem lc_412 (G : lw_G p s m meth c b L xs D cA) (hw : lw_W s D cA ad (st_h z X M (st_R qa qb qw qv pp)) H locs) (hI : Inv X M qa qb qw qv) (hl : lv_has ls 4 [(0, .ref b), (1, .ref (ad 0)), (2, .ref (ad 70)), (3, .int x3)]) (hin : ∀ n : Int, 1 ≤ n → n ≤ 7 → vp_in (x3 + Int32.ofInt n) L) (hc : cells ≤ 600000 ∧ slots ≤ 7302250)
    (kk : ∀ (X M : Nat → Nat → Int32) (qa qb qw qv : Nat) (pp : Nat → Option Nat) (ad' : Nat → Nat) (H1 : Heap) (locs1 : List Loc), Inv X M qa qb qw qv → lw_W s D cA ad' (st_h z X M (st_R qa qb qw qv pp)) H1 locs1 → lv_has ls 4 [(0, .ref b), (1, .ref (ad' 0)), (2, .ref (ad' 70)), (3, .int x3)] → W p l e room_1 s m #[Value.ref b] below meth c H1 locs1 cells slots Q (F0 m 746 ls [])) :
    W p l e room_1 s m #[Value.ref b] below meth c H locs cells slots Q (F0 m 412 ls []) := by
  have hx := G.1.1
  have hb := G.1.2.1
  obtain ⟨r, X', M', a', b', w', v', p', e1, e2, hI'⟩ := q_scan (xs (x3 + Int32.ofInt 1).toNatClampNeg) (xs (x3 + Int32.ofInt 2).toNatClampNeg) (xs (x3 + Int32.ofInt 3).toNatClampNeg) (xs (x3 + Int32.ofInt 4).toNatClampNeg) (xs (x3 + Int32.ofInt 5).toNatClampNeg) 9 z X M qa qb qw qv pp hI
  have E1 := e1 M
  have E2 := e2 X' a' b' w' v' p'
  obtain ⟨y, rfl⟩ : ∃ y, r = some (.int y) := mm_ev_i (q := pg_m128) rfl (by decide +kernel) E1
  refine lv_aload_n hx hb (show decode code 412 = .ok (.aload_n 1, 1) by decide +kernel) rfl (lv_at hl 1 rfl) ?_
  refine lw_ld (n := 1) G hw hl (hin 1 (by decide) (by decide)) (by decide +kernel) ?_
  refine lw_ld (n := 2) G hw hl (hin 2 (by decide) (by decide)) (by decide +kernel) ?_
  refine lw_ld (n := 3) G hw hl (hin 3 (by decide) (by decide)) (by decide +kernel) ?_
  refine lw_ld (n := 4) G hw hl (hin 4 (by decide) (by decide)) (by decide +kernel) ?_
  refine lw_ld (n := 5) G hw hl (hin 5 (by decide) (by decide)) (by decide +kernel) ?_
  refine lw_call (as := [(xs (x3 + Int32.ofInt 1).toNatClampNeg), (xs (x3 + Int32.ofInt 2).toNatClampNeg), (xs (x3 + Int32.ofInt 3).toNatClampNeg), (xs (x3 + Int32.ofInt 4).toNatClampNeg), (xs (x3 + Int32.ofInt 5).toNatClampNeg)]) (rest := []) (q1 := pg_m128) (r0 := (RX11, TX11, 12)) (c' := 10) (a := 128) (k := 42) (q0 := 0) G hw ⟨⟨rfl, rfl⟩, rfl, rfl⟩ (pg_in3 (List.mem_of_getElem? (i := 39) rfl) rfl) (by decide +kernel) rfl E1 rfl ⟨rfl, rfl⟩ (Nat.le_of_ble_eq_true rfl) hl.1 hc (fun ad1 H1 locs1 ha1 hw1 => ?_)
  have hl := lw_hl hl ha1
  show W p l e room_1 s m #[Value.ref b] below meth c H1 locs1 cells slots Q (F0 m 441 ls [.int y])
  refine lv_aload_n hx hb (show decode code 441 = .ok (.aload_n 2, 1) by decide +kernel) rfl (lv_at hl 2 rfl) ?_
  refine lw_ld (n := 1) G hw1 hl (hin 1 (by decide) (by decide)) (by decide +kernel) ?_
  refine lw_ld (n := 2) G hw1 hl (hin 2 (by decide) (by decide)) (by decide +kernel) ?_
  refine lw_ld (n := 3) G hw1 hl (hin 3 (by decide) (by decide)) (by decide +kernel) ?_
  refine lw_ld (n := 4) G hw1 hl (hin 4 (by decide) (by decide)) (by decide +kernel) ?_
  refine lw_ld (n := 5) G hw1 hl (hin 5 (by decide) (by decide)) (by decide +kernel) ?_
  refine lw_call (as := [(xs (x3 + Int32.ofInt 1).toNatClampNeg), (xs (x3 + Int32.ofInt 2).toNatClampNeg), (xs (x3 + Int32.ofInt 3).toNatClampNeg), (xs (x3 + Int32.ofInt 4).toNatClampNeg), (xs (x3 + Int32.ofInt 5).toNatClampNeg)]) (rest := [.int y]) (q1 := pg_m176) (r0 := (RX12, TX12, 59)) (c' := 11) (a := 176) (k := 45) (q0 := 70) G hw1 ⟨⟨rfl, rfl⟩, rfl, rfl⟩ (pg_in6 (List.mem_of_getElem? (i := 89) rfl) rfl) (by decide +kernel) rfl E2 rfl ⟨rfl, rfl⟩ (Nat.le_of_ble_eq_true rfl) hl.1 hc (fun ad2 H2 locs2 ha2 hw2 => ?_)
  have hl := lw_hl hl ha2
  show W p l e room_1 s m #[Value.ref b] below meth c H2 locs2 cells slots Q (F0 m 470 ls [.int y, .int y])
  exact lv_icmp_eq (tgt := 746) hx hb (show decode code 470 = .ok (.if_icmp .eq 276, 3) by decide +kernel) (by decide) (fun _ => kk _ _ _ _ _ _ _ ad2 H2 locs2 hI' hw2 hl) (fun hne => absurd rfl hne)
set_option maxHeartbeats 4000000 in
set_option maxRecDepth 20000 in
theorem lc_475 (G : lw_G p s m meth c b L xs D cA) (hw : lw_W s D cA ad (st_h z X M (st_R qa qb qw qv pp)) H locs) (hI : Inv X M qa qb qw qv) (hl : lv_has ls 4 [(0, .ref b), (1, .ref (ad 0)), (2, .ref (ad 70)), (3, .int x3)]) (hin : ∀ n : Int, 1 ≤ n → n ≤ 7 → vp_in (x3 + Int32.ofInt n) L) (hc : cells ≤ 600000 ∧ slots ≤ 7302250)
    (kk : ∀ (X M : Nat → Nat → Int32) (qa qb qw qv : Nat) (pp : Nat → Option Nat) (ad' : Nat → Nat) (H1 : Heap) (locs1 : List Loc), Inv X M qa qb qw qv → lw_W s D cA ad' (st_h z X M (st_R qa qb qw qv pp)) H1 locs1 → lv_has ls 4 [(0, .ref b), (1, .ref (ad' 0)), (2, .ref (ad' 70)), (3, .int x3)] → W p l e room_1 s m #[Value.ref b] below meth c H1 locs1 cells slots Q (F0 m 746 ls [])) :
    W p l e room_1 s m #[Value.ref b] below meth c H locs cells slots Q (F0 m 475 ls []) := by
  have hx := G.1.1
  have hb := G.1.2.1
  obtain ⟨r, X', M', a', b', w', v', p', e1, e2, hI'⟩ := q_clear  9 z X M qa qb qw qv pp hI
  have E1 := e1 M
  have E2 := e2 X' a' b' w' v' p'
  obtain rfl : r = none := mm_ev_v (q := pg_m129) rfl (by decide +kernel) E1
  refine lv_aload_n hx hb (show decode code 475 = .ok (.aload_n 1, 1) by decide +kernel) rfl (lv_at hl 1 rfl) ?_
  refine lw_call (as := []) (rest := []) (q1 := pg_m129) (r0 := (RX11, TX11, 12)) (c' := 10) (a := 129) (k := 46) (q0 := 0) G hw ⟨⟨rfl, rfl⟩, rfl, rfl⟩ (pg_in3 (List.mem_of_getElem? (i := 85) rfl) rfl) (by decide +kernel) rfl E1 rfl ⟨rfl, rfl⟩ (Nat.le_of_ble_eq_true rfl) hl.1 hc (fun ad1 H1 locs1 ha1 hw1 => ?_)
  have hl := lw_hl hl ha1
  show W p l e room_1 s m #[Value.ref b] below meth c H1 locs1 cells slots Q (F0 m 479 ls [])
  refine lv_aload_n hx hb (show decode code 479 = .ok (.aload_n 2, 1) by decide +kernel) rfl (lv_at hl 2 rfl) ?_
  refine lw_call (as := []) (rest := []) (q1 := pg_m177) (r0 := (RX12, TX12, 59)) (c' := 11) (a := 177) (k := 49) (q0 := 70) G hw1 ⟨⟨rfl, rfl⟩, rfl, rfl⟩ (pg_in6 (List.mem_of_getElem? (i := 115) rfl) rfl) (by decide +kernel) rfl E2 rfl ⟨rfl, rfl⟩ (Nat.le_of_ble_eq_true rfl) hl.1 hc (fun ad2 H2 locs2 ha2 hw2 => ?_)
  have hl := lw_hl hl ha2
  show W p l e room_1 s m #[Value.ref b] below meth c H2 locs2 cells slots Q (F0 m 483 ls [])
  exact lv_goto (tgt := 746) hx hb (show decode code 483 = .ok (.goto 263, 3) by decide +kernel) (by decide) (kk _ _ _ _ _ _ _ ad2 H2 locs2 hI' hw2 hl)
set_option maxHeartbeats 4000000 in
set_option maxRecDepth 20000 in
theorem lc_486 (G : lw_G p s m meth c b L xs D cA) (hw : lw_W s D cA ad (st_h z X M (st_R qa qb qw qv pp)) H locs) (hI : Inv X M qa qb qw qv) (hl : lv_has ls 4 [(0, .ref b), (1, .ref (ad 0)), (2, .ref (ad 70)), (3, .int x3)]) (hin : ∀ n : Int, 1 ≤ n → n ≤ 7 → vp_in (x3 + Int32.ofInt n) L) (hc : cells ≤ 600000 ∧ slots ≤ 7302250)
    (kk : ∀ (X M : Nat → Nat → Int32) (qa qb qw qv : Nat) (pp : Nat → Option Nat) (ad' : Nat → Nat) (H1 : Heap) (locs1 : List Loc), Inv X M qa qb qw qv → lw_W s D cA ad' (st_h z X M (st_R qa qb qw qv pp)) H1 locs1 → lv_has ls 4 [(0, .ref b), (1, .ref (ad' 0)), (2, .ref (ad' 70)), (3, .int x3)] → W p l e room_1 s m #[Value.ref b] below meth c H1 locs1 cells slots Q (F0 m 746 ls [])) :
    W p l e room_1 s m #[Value.ref b] below meth c H locs cells slots Q (F0 m 486 ls []) := by
  have hx := G.1.1
  have hb := G.1.2.1
  obtain ⟨r, X', M', a', b', w', v', p', e1, e2, hI'⟩ := q_restart (xs (x3 + Int32.ofInt 1).toNatClampNeg) 13 z X M qa qb qw qv pp hI
  have E1 := e1 M
  have E2 := e2 X' a' b' w' v' p'
  obtain ⟨y, rfl⟩ : ∃ y, r = some (.int y) := mm_ev_i (q := pg_m130) rfl (by decide +kernel) E1
  refine lv_aload_n hx hb (show decode code 486 = .ok (.aload_n 1, 1) by decide +kernel) rfl (lv_at hl 1 rfl) ?_
  refine lw_ld (n := 1) G hw hl (hin 1 (by decide) (by decide)) (by decide +kernel) ?_
  refine lw_call (as := [(xs (x3 + Int32.ofInt 1).toNatClampNeg)]) (rest := []) (q1 := pg_m130) (r0 := (RX11, TX11, 12)) (c' := 10) (a := 130) (k := 50) (q0 := 0) G hw ⟨⟨rfl, rfl⟩, rfl, rfl⟩ (pg_in3 (List.mem_of_getElem? (i := 89) rfl) rfl) (by decide +kernel) rfl E1 rfl ⟨rfl, rfl⟩ (Nat.le_of_ble_eq_true rfl) hl.1 hc (fun ad1 H1 locs1 ha1 hw1 => ?_)
  have hl := lw_hl hl ha1
  show W p l e room_1 s m #[Value.ref b] below meth c H1 locs1 cells slots Q (F0 m 495 ls [.int y])
  refine lv_aload_n hx hb (show decode code 495 = .ok (.aload_n 2, 1) by decide +kernel) rfl (lv_at hl 2 rfl) ?_
  refine lw_ld (n := 1) G hw1 hl (hin 1 (by decide) (by decide)) (by decide +kernel) ?_
  refine lw_call (as := [(xs (x3 + Int32.ofInt 1).toNatClampNeg)]) (rest := [.int y]) (q1 := pg_m178) (r0 := (RX12, TX12, 59)) (c' := 11) (a := 178) (k := 54) (q0 := 70) G hw1 ⟨⟨rfl, rfl⟩, rfl, rfl⟩ (pg_in6 (List.mem_of_getElem? (i := 119) rfl) rfl) (by decide +kernel) rfl E2 rfl ⟨rfl, rfl⟩ (Nat.le_of_ble_eq_true rfl) hl.1 hc (fun ad2 H2 locs2 ha2 hw2 => ?_)
  have hl := lw_hl hl ha2
  show W p l e room_1 s m #[Value.ref b] below meth c H2 locs2 cells slots Q (F0 m 504 ls [.int y, .int y])
  exact lv_icmp_eq (tgt := 746) hx hb (show decode code 504 = .ok (.if_icmp .eq 242, 3) by decide +kernel) (by decide) (fun _ => kk _ _ _ _ _ _ _ ad2 H2 locs2 hI' hw2 hl) (fun hne => absurd rfl hne)
set_option maxHeartbeats 4000000 in
set_option maxRecDepth 20000 in
theorem lc_509 (G : lw_G p s m meth c b L xs D cA) (hw : lw_W s D cA ad (st_h z X M (st_R qa qb qw qv pp)) H locs) (hI : Inv X M qa qb qw qv) (hl : lv_has ls 4 [(0, .ref b), (1, .ref (ad 0)), (2, .ref (ad 70)), (3, .int x3)]) (hin : ∀ n : Int, 1 ≤ n → n ≤ 7 → vp_in (x3 + Int32.ofInt n) L) (hc : cells ≤ 600000 ∧ slots ≤ 7302250)
    (kk : ∀ (X M : Nat → Nat → Int32) (qa qb qw qv : Nat) (pp : Nat → Option Nat) (ad' : Nat → Nat) (H1 : Heap) (locs1 : List Loc), Inv X M qa qb qw qv → lw_W s D cA ad' (st_h z X M (st_R qa qb qw qv pp)) H1 locs1 → lv_has ls 4 [(0, .ref b), (1, .ref (ad' 0)), (2, .ref (ad' 70)), (3, .int x3)] → W p l e room_1 s m #[Value.ref b] below meth c H1 locs1 cells slots Q (F0 m 746 ls [])) :
    W p l e room_1 s m #[Value.ref b] below meth c H locs cells slots Q (F0 m 509 ls []) := by
  have hx := G.1.1
  have hb := G.1.2.1
  obtain ⟨r, X', M', a', b', w', v', p', e1, e2, hI'⟩ := q_write  2 z X M qa qb qw qv pp hI
  have E1 := e1 M
  have E2 := e2 X' a' b' w' v' p'
  obtain ⟨y, rfl⟩ : ∃ y, r = some (.int y) := mm_ev_i (q := pg_m131) rfl (by decide +kernel) E1
  refine lv_aload_n hx hb (show decode code 509 = .ok (.aload_n 1, 1) by decide +kernel) rfl (lv_at hl 1 rfl) ?_
  refine lw_call (as := []) (rest := []) (q1 := pg_m131) (r0 := (RX11, TX11, 12)) (c' := 10) (a := 131) (k := 55) (q0 := 0) G hw ⟨⟨rfl, rfl⟩, rfl, rfl⟩ (pg_in3 (List.mem_of_getElem? (i := 93) rfl) rfl) (by decide +kernel) rfl E1 rfl ⟨rfl, rfl⟩ (Nat.le_of_ble_eq_true rfl) hl.1 hc (fun ad1 H1 locs1 ha1 hw1 => ?_)
  have hl := lw_hl hl ha1
  show W p l e room_1 s m #[Value.ref b] below meth c H1 locs1 cells slots Q (F0 m 513 ls [.int y])
  refine lv_aload_n hx hb (show decode code 513 = .ok (.aload_n 2, 1) by decide +kernel) rfl (lv_at hl 2 rfl) ?_
  refine lw_call (as := []) (rest := [.int y]) (q1 := pg_m220) (r0 := (RX12, TX12, 59)) (c' := 11) (a := 220) (k := 58) (q0 := 70) G hw1 ⟨⟨rfl, rfl⟩, rfl, rfl⟩ (pg_in6 (List.mem_of_getElem? (i := 123) rfl) rfl) (by decide +kernel) rfl E2 rfl ⟨rfl, rfl⟩ (Nat.le_of_ble_eq_true rfl) hl.1 hc (fun ad2 H2 locs2 ha2 hw2 => ?_)
  have hl := lw_hl hl ha2
  show W p l e room_1 s m #[Value.ref b] below meth c H2 locs2 cells slots Q (F0 m 517 ls [.int y, .int y])
  exact lv_icmp_eq (tgt := 746) hx hb (show decode code 517 = .ok (.if_icmp .eq 229, 3) by decide +kernel) (by decide) (fun _ => kk _ _ _ _ _ _ _ ad2 H2 locs2 hI' hw2 hl) (fun hne => absurd rfl hne)
set_option maxHeartbeats 4000000 in
set_option maxRecDepth 20000 in
theorem lc_522 (G : lw_G p s m meth c b L xs D cA) (hw : lw_W s D cA ad (st_h z X M (st_R qa qb qw qv pp)) H locs) (hI : Inv X M qa qb qw qv) (hl : lv_has ls 4 [(0, .ref b), (1, .ref (ad 0)), (2, .ref (ad 70)), (3, .int x3)]) (hin : ∀ n : Int, 1 ≤ n → n ≤ 7 → vp_in (x3 + Int32.ofInt n) L) (hc : cells ≤ 600000 ∧ slots ≤ 7302250)
    (kk : ∀ (X M : Nat → Nat → Int32) (qa qb qw qv : Nat) (pp : Nat → Option Nat) (ad' : Nat → Nat) (H1 : Heap) (locs1 : List Loc), Inv X M qa qb qw qv → lw_W s D cA ad' (st_h z X M (st_R qa qb qw qv pp)) H1 locs1 → lv_has ls 4 [(0, .ref b), (1, .ref (ad' 0)), (2, .ref (ad' 70)), (3, .int x3)] → W p l e room_1 s m #[Value.ref b] below meth c H1 locs1 cells slots Q (F0 m 746 ls [])) :
    W p l e room_1 s m #[Value.ref b] below meth c H locs cells slots Q (F0 m 522 ls []) := by
  have hx := G.1.1
  have hb := G.1.2.1
  obtain ⟨r, X', M', a', b', w', v', p', e1, e2, hI'⟩ := q_out (xs (x3 + Int32.ofInt 1).toNatClampNeg) 9 z X M qa qb qw qv pp hI
  have E1 := e1 M
  have E2 := e2 X' a' b' w' v' p'
  obtain ⟨y, rfl⟩ : ∃ y, r = some (.int y) := mm_ev_i (q := pg_m132) rfl (by decide +kernel) E1
  refine lv_aload_n hx hb (show decode code 522 = .ok (.aload_n 1, 1) by decide +kernel) rfl (lv_at hl 1 rfl) ?_
  refine lw_ld (n := 1) G hw hl (hin 1 (by decide) (by decide)) (by decide +kernel) ?_
  refine lw_call (as := [(xs (x3 + Int32.ofInt 1).toNatClampNeg)]) (rest := []) (q1 := pg_m132) (r0 := (RX11, TX11, 12)) (c' := 10) (a := 132) (k := 59) (q0 := 0) G hw ⟨⟨rfl, rfl⟩, rfl, rfl⟩ (pg_in4 (List.mem_of_getElem? (i := 42) rfl) rfl) (by decide +kernel) rfl E1 rfl ⟨rfl, rfl⟩ (Nat.le_of_ble_eq_true rfl) hl.1 hc (fun ad1 H1 locs1 ha1 hw1 => ?_)
  have hl := lw_hl hl ha1
  show W p l e room_1 s m #[Value.ref b] below meth c H1 locs1 cells slots Q (F0 m 531 ls [.int y])
  refine lv_aload_n hx hb (show decode code 531 = .ok (.aload_n 2, 1) by decide +kernel) rfl (lv_at hl 2 rfl) ?_
  refine lw_ld (n := 1) G hw1 hl (hin 1 (by decide) (by decide)) (by decide +kernel) ?_
  refine lw_call (as := [(xs (x3 + Int32.ofInt 1).toNatClampNeg)]) (rest := [.int y]) (q1 := pg_m148) (r0 := (RX12, TX12, 59)) (c' := 11) (a := 148) (k := 62) (q0 := 70) G hw1 ⟨⟨rfl, rfl⟩, rfl, rfl⟩ (pg_in6 (List.mem_of_getElem? (i := 7) rfl) rfl) (by decide +kernel) rfl E2 rfl ⟨rfl, rfl⟩ (Nat.le_of_ble_eq_true rfl) hl.1 hc (fun ad2 H2 locs2 ha2 hw2 => ?_)
  have hl := lw_hl hl ha2
  show W p l e room_1 s m #[Value.ref b] below meth c H2 locs2 cells slots Q (F0 m 540 ls [.int y, .int y])
  exact lv_icmp_eq (tgt := 746) hx hb (show decode code 540 = .ok (.if_icmp .eq 206, 3) by decide +kernel) (by decide) (fun _ => kk _ _ _ _ _ _ _ ad2 H2 locs2 hI' hw2 hl) (fun hne => absurd rfl hne)
set_option maxHeartbeats 4000000 in
set_option maxRecDepth 20000 in
theorem lc_545 (G : lw_G p s m meth c b L xs D cA) (hw : lw_W s D cA ad (st_h z X M (st_R qa qb qw qv pp)) H locs) (hI : Inv X M qa qb qw qv) (hl : lv_has ls 4 [(0, .ref b), (1, .ref (ad 0)), (2, .ref (ad 70)), (3, .int x3)]) (hin : ∀ n : Int, 1 ≤ n → n ≤ 7 → vp_in (x3 + Int32.ofInt n) L) (hc : cells ≤ 600000 ∧ slots ≤ 7302250)
    (kk : ∀ (X M : Nat → Nat → Int32) (qa qb qw qv : Nat) (pp : Nat → Option Nat) (ad' : Nat → Nat) (H1 : Heap) (locs1 : List Loc), Inv X M qa qb qw qv → lw_W s D cA ad' (st_h z X M (st_R qa qb qw qv pp)) H1 locs1 → lv_has ls 4 [(0, .ref b), (1, .ref (ad' 0)), (2, .ref (ad' 70)), (3, .int x3)] → W p l e room_1 s m #[Value.ref b] below meth c H1 locs1 cells slots Q (F0 m 746 ls [])) :
    W p l e room_1 s m #[Value.ref b] below meth c H locs cells slots Q (F0 m 545 ls []) := by
  have hx := G.1.1
  have hb := G.1.2.1
  obtain ⟨r, X', M', a', b', w', v', p', e1, e2, hI'⟩ := q_read  1 z X M qa qb qw qv pp hI
  have E1 := e1 M
  have E2 := e2 X' a' b' w' v' p'
  obtain ⟨y, rfl⟩ : ∃ y, r = some (.int y) := mm_ev_i (q := pg_m133) rfl (by decide +kernel) E1
  refine lv_aload_n hx hb (show decode code 545 = .ok (.aload_n 1, 1) by decide +kernel) rfl (lv_at hl 1 rfl) ?_
  refine lw_call (as := []) (rest := []) (q1 := pg_m133) (r0 := (RX11, TX11, 12)) (c' := 10) (a := 133) (k := 63) (q0 := 0) G hw ⟨⟨rfl, rfl⟩, rfl, rfl⟩ (pg_in4 (List.mem_of_getElem? (i := 46) rfl) rfl) (by decide +kernel) rfl E1 rfl ⟨rfl, rfl⟩ (Nat.le_of_ble_eq_true rfl) hl.1 hc (fun ad1 H1 locs1 ha1 hw1 => ?_)
  have hl := lw_hl hl ha1
  show W p l e room_1 s m #[Value.ref b] below meth c H1 locs1 cells slots Q (F0 m 549 ls [.int y])
  refine lv_aload_n hx hb (show decode code 549 = .ok (.aload_n 2, 1) by decide +kernel) rfl (lv_at hl 2 rfl) ?_
  refine lw_call (as := []) (rest := [.int y]) (q1 := pg_m235) (r0 := (RX12, TX12, 59)) (c' := 11) (a := 235) (k := 66) (q0 := 70) G hw1 ⟨⟨rfl, rfl⟩, rfl, rfl⟩ (pg_in7 (List.mem_of_getElem? (i := 60) rfl) rfl) (by decide +kernel) rfl E2 rfl ⟨rfl, rfl⟩ (Nat.le_of_ble_eq_true rfl) hl.1 hc (fun ad2 H2 locs2 ha2 hw2 => ?_)
  have hl := lw_hl hl ha2
  show W p l e room_1 s m #[Value.ref b] below meth c H2 locs2 cells slots Q (F0 m 553 ls [.int y, .int y])
  exact lv_icmp_eq (tgt := 746) hx hb (show decode code 553 = .ok (.if_icmp .eq 193, 3) by decide +kernel) (by decide) (fun _ => kk _ _ _ _ _ _ _ ad2 H2 locs2 hI' hw2 hl) (fun hne => absurd rfl hne)
set_option maxHeartbeats 4000000 in
set_option maxRecDepth 20000 in
theorem lc_558 (G : lw_G p s m meth c b L xs D cA) (hw : lw_W s D cA ad (st_h z X M (st_R qa qb qw qv pp)) H locs) (hI : Inv X M qa qb qw qv) (hl : lv_has ls 4 [(0, .ref b), (1, .ref (ad 0)), (2, .ref (ad 70)), (3, .int x3)]) (hin : ∀ n : Int, 1 ≤ n → n ≤ 7 → vp_in (x3 + Int32.ofInt n) L) (hc : cells ≤ 600000 ∧ slots ≤ 7302250)
    (kk : ∀ (X M : Nat → Nat → Int32) (qa qb qw qv : Nat) (pp : Nat → Option Nat) (ad' : Nat → Nat) (H1 : Heap) (locs1 : List Loc), Inv X M qa qb qw qv → lw_W s D cA ad' (st_h z X M (st_R qa qb qw qv pp)) H1 locs1 → lv_has ls 4 [(0, .ref b), (1, .ref (ad' 0)), (2, .ref (ad' 70)), (3, .int x3)] → W p l e room_1 s m #[Value.ref b] below meth c H1 locs1 cells slots Q (F0 m 746 ls [])) :
    W p l e room_1 s m #[Value.ref b] below meth c H locs cells slots Q (F0 m 558 ls []) := by
  have hx := G.1.1
  have hb := G.1.2.1
  obtain ⟨r, X', M', a', b', w', v', p', e1, e2, hI'⟩ := q_errorAt  13 z X M qa qb qw qv pp hI
  have E1 := e1 M
  have E2 := e2 X' a' b' w' v' p'
  obtain ⟨y, rfl⟩ : ∃ y, r = some (.int y) := mm_ev_i (q := pg_m134) rfl (by decide +kernel) E1
  refine lv_aload_n hx hb (show decode code 558 = .ok (.aload_n 1, 1) by decide +kernel) rfl (lv_at hl 1 rfl) ?_
  refine lw_call (as := []) (rest := []) (q1 := pg_m134) (r0 := (RX11, TX11, 12)) (c' := 10) (a := 134) (k := 67) (q0 := 0) G hw ⟨⟨rfl, rfl⟩, rfl, rfl⟩ (pg_in5 (List.mem_of_getElem? (i := 12) rfl) rfl) (by decide +kernel) rfl E1 rfl ⟨rfl, rfl⟩ (Nat.le_of_ble_eq_true rfl) hl.1 hc (fun ad1 H1 locs1 ha1 hw1 => ?_)
  have hl := lw_hl hl ha1
  show W p l e room_1 s m #[Value.ref b] below meth c H1 locs1 cells slots Q (F0 m 562 ls [.int y])
  refine lv_aload_n hx hb (show decode code 562 = .ok (.aload_n 2, 1) by decide +kernel) rfl (lv_at hl 2 rfl) ?_
  refine lw_call (as := []) (rest := [.int y]) (q1 := pg_m237) (r0 := (RX12, TX12, 59)) (c' := 11) (a := 237) (k := 70) (q0 := 70) G hw1 ⟨⟨rfl, rfl⟩, rfl, rfl⟩ (pg_in7 (List.mem_of_getElem? (i := 123) rfl) rfl) (by decide +kernel) rfl E2 rfl ⟨rfl, rfl⟩ (Nat.le_of_ble_eq_true rfl) hl.1 hc (fun ad2 H2 locs2 ha2 hw2 => ?_)
  have hl := lw_hl hl ha2
  show W p l e room_1 s m #[Value.ref b] below meth c H2 locs2 cells slots Q (F0 m 566 ls [.int y, .int y])
  exact lv_icmp_eq (tgt := 746) hx hb (show decode code 566 = .ok (.if_icmp .eq 180, 3) by decide +kernel) (by decide) (fun _ => kk _ _ _ _ _ _ _ ad2 H2 locs2 hI' hw2 hl) (fun hne => absurd rfl hne)
set_option maxHeartbeats 4000000 in
set_option maxRecDepth 20000 in
theorem lc_571 (G : lw_G p s m meth c b L xs D cA) (hw : lw_W s D cA ad (st_h z X M (st_R qa qb qw qv pp)) H locs) (hI : Inv X M qa qb qw qv) (hl : lv_has ls 4 [(0, .ref b), (1, .ref (ad 0)), (2, .ref (ad 70)), (3, .int x3)]) (hin : ∀ n : Int, 1 ≤ n → n ≤ 7 → vp_in (x3 + Int32.ofInt n) L) (hc : cells ≤ 600000 ∧ slots ≤ 7302250)
    (kk : ∀ (X M : Nat → Nat → Int32) (qa qb qw qv : Nat) (pp : Nat → Option Nat) (ad' : Nat → Nat) (H1 : Heap) (locs1 : List Loc), Inv X M qa qb qw qv → lw_W s D cA ad' (st_h z X M (st_R qa qb qw qv pp)) H1 locs1 → lv_has ls 4 [(0, .ref b), (1, .ref (ad' 0)), (2, .ref (ad' 70)), (3, .int x3)] → W p l e room_1 s m #[Value.ref b] below meth c H1 locs1 cells slots Q (F0 m 746 ls [])) :
    W p l e room_1 s m #[Value.ref b] below meth c H locs cells slots Q (F0 m 571 ls []) := by
  have hx := G.1.1
  have hb := G.1.2.1
  obtain ⟨r, X', M', a', b', w', v', p', e1, e2, hI'⟩ := q_look (xs (x3 + Int32.ofInt 1).toNatClampNeg) 9 z X M qa qb qw qv pp hI
  have E1 := e1 M
  have E2 := e2 X' a' b' w' v' p'
  obtain ⟨y, rfl⟩ : ∃ y, r = some (.int y) := mm_ev_i (q := pg_m135) rfl (by decide +kernel) E1
  refine lv_aload_n hx hb (show decode code 571 = .ok (.aload_n 1, 1) by decide +kernel) rfl (lv_at hl 1 rfl) ?_
  refine lw_ld (n := 1) G hw hl (hin 1 (by decide) (by decide)) (by decide +kernel) ?_
  refine lw_call (as := [(xs (x3 + Int32.ofInt 1).toNatClampNeg)]) (rest := []) (q1 := pg_m135) (r0 := (RX11, TX11, 12)) (c' := 10) (a := 135) (k := 71) (q0 := 0) G hw ⟨⟨rfl, rfl⟩, rfl, rfl⟩ (pg_in5 (List.mem_of_getElem? (i := 16) rfl) rfl) (by decide +kernel) rfl E1 rfl ⟨rfl, rfl⟩ (Nat.le_of_ble_eq_true rfl) hl.1 hc (fun ad1 H1 locs1 ha1 hw1 => ?_)
  have hl := lw_hl hl ha1
  show W p l e room_1 s m #[Value.ref b] below meth c H1 locs1 cells slots Q (F0 m 580 ls [.int y])
  refine lv_aload_n hx hb (show decode code 580 = .ok (.aload_n 2, 1) by decide +kernel) rfl (lv_at hl 2 rfl) ?_
  refine lw_ld (n := 1) G hw1 hl (hin 1 (by decide) (by decide)) (by decide +kernel) ?_
  refine lw_call (as := [(xs (x3 + Int32.ofInt 1).toNatClampNeg)]) (rest := [.int y]) (q1 := pg_m168) (r0 := (RX12, TX12, 59)) (c' := 11) (a := 168) (k := 74) (q0 := 70) G hw1 ⟨⟨rfl, rfl⟩, rfl, rfl⟩ (pg_in6 (List.mem_of_getElem? (i := 73) rfl) rfl) (by decide +kernel) rfl E2 rfl ⟨rfl, rfl⟩ (Nat.le_of_ble_eq_true rfl) hl.1 hc (fun ad2 H2 locs2 ha2 hw2 => ?_)
  have hl := lw_hl hl ha2
  show W p l e room_1 s m #[Value.ref b] below meth c H2 locs2 cells slots Q (F0 m 589 ls [.int y, .int y])
  exact lv_icmp_eq (tgt := 746) hx hb (show decode code 589 = .ok (.if_icmp .eq 157, 3) by decide +kernel) (by decide) (fun _ => kk _ _ _ _ _ _ _ ad2 H2 locs2 hI' hw2 hl) (fun hne => absurd rfl hne)
set_option maxHeartbeats 4000000 in
set_option maxRecDepth 20000 in
theorem lc_594 (G : lw_G p s m meth c b L xs D cA) (hw : lw_W s D cA ad (st_h z X M (st_R qa qb qw qv pp)) H locs) (hI : Inv X M qa qb qw qv) (hl : lv_has ls 4 [(0, .ref b), (1, .ref (ad 0)), (2, .ref (ad 70)), (3, .int x3)]) (hin : ∀ n : Int, 1 ≤ n → n ≤ 7 → vp_in (x3 + Int32.ofInt n) L) (hc : cells ≤ 600000 ∧ slots ≤ 7302250)
    (kk : ∀ (X M : Nat → Nat → Int32) (qa qb qw qv : Nat) (pp : Nat → Option Nat) (ad' : Nat → Nat) (H1 : Heap) (locs1 : List Loc), Inv X M qa qb qw qv → lw_W s D cA ad' (st_h z X M (st_R qa qb qw qv pp)) H1 locs1 → lv_has ls 4 [(0, .ref b), (1, .ref (ad' 0)), (2, .ref (ad' 70)), (3, .int x3)] → W p l e room_1 s m #[Value.ref b] below meth c H1 locs1 cells slots Q (F0 m 746 ls [])) :
    W p l e room_1 s m #[Value.ref b] below meth c H locs cells slots Q (F0 m 594 ls []) := by
  have hx := G.1.1
  have hb := G.1.2.1
  obtain ⟨r, X', M', a', b', w', v', p', e1, e2, hI'⟩ := q_component (xs (x3 + Int32.ofInt 1).toNatClampNeg) (xs (x3 + Int32.ofInt 2).toNatClampNeg) 9 z X M qa qb qw qv pp hI
  have E1 := e1 M
  have E2 := e2 X' a' b' w' v' p'
  obtain ⟨y, rfl⟩ : ∃ y, r = some (.int y) := mm_ev_i (q := pg_m136) rfl (by decide +kernel) E1
  refine lv_aload_n hx hb (show decode code 594 = .ok (.aload_n 1, 1) by decide +kernel) rfl (lv_at hl 1 rfl) ?_
  refine lw_ld (n := 1) G hw hl (hin 1 (by decide) (by decide)) (by decide +kernel) ?_
  refine lw_ld (n := 2) G hw hl (hin 2 (by decide) (by decide)) (by decide +kernel) ?_
  refine lw_call (as := [(xs (x3 + Int32.ofInt 1).toNatClampNeg), (xs (x3 + Int32.ofInt 2).toNatClampNeg)]) (rest := []) (q1 := pg_m136) (r0 := (RX11, TX11, 12)) (c' := 10) (a := 136) (k := 75) (q0 := 0) G hw ⟨⟨rfl, rfl⟩, rfl, rfl⟩ (pg_in5 (List.mem_of_getElem? (i := 24) rfl) rfl) (by decide +kernel) rfl E1 rfl ⟨rfl, rfl⟩ (Nat.le_of_ble_eq_true rfl) hl.1 hc (fun ad1 H1 locs1 ha1 hw1 => ?_)
  have hl := lw_hl hl ha1
  show W p l e room_1 s m #[Value.ref b] below meth c H1 locs1 cells slots Q (F0 m 608 ls [.int y])
  refine lv_aload_n hx hb (show decode code 608 = .ok (.aload_n 2, 1) by decide +kernel) rfl (lv_at hl 2 rfl) ?_
  refine lw_ld (n := 1) G hw1 hl (hin 1 (by decide) (by decide)) (by decide +kernel) ?_
  refine lw_ld (n := 2) G hw1 hl (hin 2 (by decide) (by decide)) (by decide +kernel) ?_
  refine lw_call (as := [(xs (x3 + Int32.ofInt 1).toNatClampNeg), (xs (x3 + Int32.ofInt 2).toNatClampNeg)]) (rest := [.int y]) (q1 := pg_m169) (r0 := (RX12, TX12, 59)) (c' := 11) (a := 169) (k := 79) (q0 := 70) G hw1 ⟨⟨rfl, rfl⟩, rfl, rfl⟩ (pg_in6 (List.mem_of_getElem? (i := 77) rfl) rfl) (by decide +kernel) rfl E2 rfl ⟨rfl, rfl⟩ (Nat.le_of_ble_eq_true rfl) hl.1 hc (fun ad2 H2 locs2 ha2 hw2 => ?_)
  have hl := lw_hl hl ha2
  show W p l e room_1 s m #[Value.ref b] below meth c H2 locs2 cells slots Q (F0 m 622 ls [.int y, .int y])
  exact lv_icmp_eq (tgt := 746) hx hb (show decode code 622 = .ok (.if_icmp .eq 124, 3) by decide +kernel) (by decide) (fun _ => kk _ _ _ _ _ _ _ ad2 H2 locs2 hI' hw2 hl) (fun hne => absurd rfl hne)
set_option maxHeartbeats 4000000 in
set_option maxRecDepth 20000 in
theorem lc_627 (G : lw_G p s m meth c b L xs D cA) (hw : lw_W s D cA ad (st_h z X M (st_R qa qb qw qv pp)) H locs) (hI : Inv X M qa qb qw qv) (hl : lv_has ls 4 [(0, .ref b), (1, .ref (ad 0)), (2, .ref (ad 70)), (3, .int x3)]) (hin : ∀ n : Int, 1 ≤ n → n ≤ 7 → vp_in (x3 + Int32.ofInt n) L) (hc : cells ≤ 600000 ∧ slots ≤ 7302250)
    (kk : ∀ (X M : Nat → Nat → Int32) (qa qb qw qv : Nat) (pp : Nat → Option Nat) (ad' : Nat → Nat) (H1 : Heap) (locs1 : List Loc), Inv X M qa qb qw qv → lw_W s D cA ad' (st_h z X M (st_R qa qb qw qv pp)) H1 locs1 → lv_has ls 4 [(0, .ref b), (1, .ref (ad' 0)), (2, .ref (ad' 70)), (3, .int x3)] → W p l e room_1 s m #[Value.ref b] below meth c H1 locs1 cells slots Q (F0 m 746 ls [])) :
    W p l e room_1 s m #[Value.ref b] below meth c H locs cells slots Q (F0 m 627 ls []) := by
  have hx := G.1.1
  have hb := G.1.2.1
  obtain ⟨r, X', M', a', b', w', v', p', e1, e2, hI'⟩ := q_coefficient (xs (x3 + Int32.ofInt 1).toNatClampNeg) (xs (x3 + Int32.ofInt 2).toNatClampNeg) (xs (x3 + Int32.ofInt 3).toNatClampNeg) 9 z X M qa qb qw qv pp hI
  have E1 := e1 M
  have E2 := e2 X' a' b' w' v' p'
  obtain ⟨y, rfl⟩ : ∃ y, r = some (.int y) := mm_ev_i (q := pg_m137) rfl (by decide +kernel) E1
  refine lv_aload_n hx hb (show decode code 627 = .ok (.aload_n 1, 1) by decide +kernel) rfl (lv_at hl 1 rfl) ?_
  refine lw_ld (n := 1) G hw hl (hin 1 (by decide) (by decide)) (by decide +kernel) ?_
  refine lw_ld (n := 2) G hw hl (hin 2 (by decide) (by decide)) (by decide +kernel) ?_
  refine lw_ld (n := 3) G hw hl (hin 3 (by decide) (by decide)) (by decide +kernel) ?_
  refine lw_call (as := [(xs (x3 + Int32.ofInt 1).toNatClampNeg), (xs (x3 + Int32.ofInt 2).toNatClampNeg), (xs (x3 + Int32.ofInt 3).toNatClampNeg)]) (rest := []) (q1 := pg_m137) (r0 := (RX11, TX11, 12)) (c' := 10) (a := 137) (k := 80) (q0 := 0) G hw ⟨⟨rfl, rfl⟩, rfl, rfl⟩ (pg_in5 (List.mem_of_getElem? (i := 33) rfl) rfl) (by decide +kernel) rfl E1 rfl ⟨rfl, rfl⟩ (Nat.le_of_ble_eq_true rfl) hl.1 hc (fun ad1 H1 locs1 ha1 hw1 => ?_)
  have hl := lw_hl hl ha1
  show W p l e room_1 s m #[Value.ref b] below meth c H1 locs1 cells slots Q (F0 m 646 ls [.int y])
  refine lv_aload_n hx hb (show decode code 646 = .ok (.aload_n 2, 1) by decide +kernel) rfl (lv_at hl 2 rfl) ?_
  refine lw_ld (n := 1) G hw1 hl (hin 1 (by decide) (by decide)) (by decide +kernel) ?_
  refine lw_ld (n := 2) G hw1 hl (hin 2 (by decide) (by decide)) (by decide +kernel) ?_
  refine lw_ld (n := 3) G hw1 hl (hin 3 (by decide) (by decide)) (by decide +kernel) ?_
  refine lw_call (as := [(xs (x3 + Int32.ofInt 1).toNatClampNeg), (xs (x3 + Int32.ofInt 2).toNatClampNeg), (xs (x3 + Int32.ofInt 3).toNatClampNeg)]) (rest := [.int y]) (q1 := pg_m165) (r0 := (RX12, TX12, 59)) (c' := 11) (a := 165) (k := 84) (q0 := 70) G hw1 ⟨⟨rfl, rfl⟩, rfl, rfl⟩ (pg_in6 (List.mem_of_getElem? (i := 61) rfl) rfl) (by decide +kernel) rfl E2 rfl ⟨rfl, rfl⟩ (Nat.le_of_ble_eq_true rfl) hl.1 hc (fun ad2 H2 locs2 ha2 hw2 => ?_)
  have hl := lw_hl hl ha2
  show W p l e room_1 s m #[Value.ref b] below meth c H2 locs2 cells slots Q (F0 m 665 ls [.int y, .int y])
  exact lv_icmp_eq (tgt := 746) hx hb (show decode code 665 = .ok (.if_icmp .eq 81, 3) by decide +kernel) (by decide) (fun _ => kk _ _ _ _ _ _ _ ad2 H2 locs2 hI' hw2 hl) (fun hne => absurd rfl hne)
set_option maxHeartbeats 4000000 in
set_option maxRecDepth 20000 in
theorem lc_670 (G : lw_G p s m meth c b L xs D cA) (hw : lw_W s D cA ad (st_h z X M (st_R qa qb qw qv pp)) H locs) (hI : Inv X M qa qb qw qv) (hl : lv_has ls 4 [(0, .ref b), (1, .ref (ad 0)), (2, .ref (ad 70)), (3, .int x3)]) (hin : ∀ n : Int, 1 ≤ n → n ≤ 7 → vp_in (x3 + Int32.ofInt n) L) (hc : cells ≤ 600000 ∧ slots ≤ 7302250)
    (kk : ∀ (X M : Nat → Nat → Int32) (qa qb qw qv : Nat) (pp : Nat → Option Nat) (ad' : Nat → Nat) (H1 : Heap) (locs1 : List Loc), Inv X M qa qb qw qv → lw_W s D cA ad' (st_h z X M (st_R qa qb qw qv pp)) H1 locs1 → lv_has ls 4 [(0, .ref b), (1, .ref (ad' 0)), (2, .ref (ad' 70)), (3, .int x3)] → W p l e room_1 s m #[Value.ref b] below meth c H1 locs1 cells slots Q (F0 m 746 ls [])) :
    W p l e room_1 s m #[Value.ref b] below meth c H locs cells slots Q (F0 m 670 ls []) := by
  have hx := G.1.1
  have hb := G.1.2.1
  obtain ⟨r, X', M', a', b', w', v', p', e1, e2, hI'⟩ := q_sample (xs (x3 + Int32.ofInt 1).toNatClampNeg) (xs (x3 + Int32.ofInt 2).toNatClampNeg) (xs (x3 + Int32.ofInt 3).toNatClampNeg) 9 z X M qa qb qw qv pp hI
  have E1 := e1 M
  have E2 := e2 X' a' b' w' v' p'
  obtain ⟨y, rfl⟩ : ∃ y, r = some (.int y) := mm_ev_i (q := pg_m138) rfl (by decide +kernel) E1
  refine lv_aload_n hx hb (show decode code 670 = .ok (.aload_n 1, 1) by decide +kernel) rfl (lv_at hl 1 rfl) ?_
  refine lw_ld (n := 1) G hw hl (hin 1 (by decide) (by decide)) (by decide +kernel) ?_
  refine lw_ld (n := 2) G hw hl (hin 2 (by decide) (by decide)) (by decide +kernel) ?_
  refine lw_ld (n := 3) G hw hl (hin 3 (by decide) (by decide)) (by decide +kernel) ?_
  refine lw_call (as := [(xs (x3 + Int32.ofInt 1).toNatClampNeg), (xs (x3 + Int32.ofInt 2).toNatClampNeg), (xs (x3 + Int32.ofInt 3).toNatClampNeg)]) (rest := []) (q1 := pg_m138) (r0 := (RX11, TX11, 12)) (c' := 10) (a := 138) (k := 85) (q0 := 0) G hw ⟨⟨rfl, rfl⟩, rfl, rfl⟩ (pg_in5 (List.mem_of_getElem? (i := 38) rfl) rfl) (by decide +kernel) rfl E1 rfl ⟨rfl, rfl⟩ (Nat.le_of_ble_eq_true rfl) hl.1 hc (fun ad1 H1 locs1 ha1 hw1 => ?_)
  have hl := lw_hl hl ha1
  show W p l e room_1 s m #[Value.ref b] below meth c H1 locs1 cells slots Q (F0 m 689 ls [.int y])
  refine lv_aload_n hx hb (show decode code 689 = .ok (.aload_n 2, 1) by decide +kernel) rfl (lv_at hl 2 rfl) ?_
  refine lw_ld (n := 1) G hw1 hl (hin 1 (by decide) (by decide)) (by decide +kernel) ?_
  refine lw_ld (n := 2) G hw1 hl (hin 2 (by decide) (by decide)) (by decide +kernel) ?_
  refine lw_ld (n := 3) G hw1 hl (hin 3 (by decide) (by decide)) (by decide +kernel) ?_
  refine lw_call (as := [(xs (x3 + Int32.ofInt 1).toNatClampNeg), (xs (x3 + Int32.ofInt 2).toNatClampNeg), (xs (x3 + Int32.ofInt 3).toNatClampNeg)]) (rest := [.int y]) (q1 := pg_m166) (r0 := (RX12, TX12, 59)) (c' := 11) (a := 166) (k := 88) (q0 := 70) G hw1 ⟨⟨rfl, rfl⟩, rfl, rfl⟩ (pg_in6 (List.mem_of_getElem? (i := 65) rfl) rfl) (by decide +kernel) rfl E2 rfl ⟨rfl, rfl⟩ (Nat.le_of_ble_eq_true rfl) hl.1 hc (fun ad2 H2 locs2 ha2 hw2 => ?_)
  have hl := lw_hl hl ha2
  show W p l e room_1 s m #[Value.ref b] below meth c H2 locs2 cells slots Q (F0 m 708 ls [.int y, .int y])
  exact lv_icmp_eq (tgt := 746) hx hb (show decode code 708 = .ok (.if_icmp .eq 38, 3) by decide +kernel) (by decide) (fun _ => kk _ _ _ _ _ _ _ ad2 H2 locs2 hI' hw2 hl) (fun hne => absurd rfl hne)
set_option maxHeartbeats 4000000 in
set_option maxRecDepth 20000 in
theorem lc_713 (G : lw_G p s m meth c b L xs D cA) (hw : lw_W s D cA ad (st_h z X M (st_R qa qb qw qv pp)) H locs) (hI : Inv X M qa qb qw qv) (hl : lv_has ls 4 [(0, .ref b), (1, .ref (ad 0)), (2, .ref (ad 70)), (3, .int x3)]) (hin : ∀ n : Int, 1 ≤ n → n ≤ 7 → vp_in (x3 + Int32.ofInt n) L) (hc : cells ≤ 600000 ∧ slots ≤ 7302250)
    (kk : ∀ (X M : Nat → Nat → Int32) (qa qb qw qv : Nat) (pp : Nat → Option Nat) (ad' : Nat → Nat) (H1 : Heap) (locs1 : List Loc), Inv X M qa qb qw qv → lw_W s D cA ad' (st_h z X M (st_R qa qb qw qv pp)) H1 locs1 → lv_has ls 4 [(0, .ref b), (1, .ref (ad' 0)), (2, .ref (ad' 70)), (3, .int x3)] → W p l e room_1 s m #[Value.ref b] below meth c H1 locs1 cells slots Q (F0 m 746 ls [])) :
    W p l e room_1 s m #[Value.ref b] below meth c H locs cells slots Q (F0 m 713 ls []) := by
  have hx := G.1.1
  have hb := G.1.2.1
  obtain ⟨r, X', M', a', b', w', v', p', e1, e2, hI'⟩ := q_known (xs (x3 + Int32.ofInt 1).toNatClampNeg) (xs (x3 + Int32.ofInt 2).toNatClampNeg) 9 z X M qa qb qw qv pp hI
  have E1 := e1 M
  have E2 := e2 X' a' b' w' v' p'
  obtain ⟨y, rfl⟩ : ∃ y, r = some (.int y) := mm_ev_i (q := pg_m139) rfl (by decide +kernel) E1
  refine lv_aload_n hx hb (show decode code 713 = .ok (.aload_n 1, 1) by decide +kernel) rfl (lv_at hl 1 rfl) ?_
  refine lw_ld (n := 1) G hw hl (hin 1 (by decide) (by decide)) (by decide +kernel) ?_
  refine lw_ld (n := 2) G hw hl (hin 2 (by decide) (by decide)) (by decide +kernel) ?_
  refine lw_call (as := [(xs (x3 + Int32.ofInt 1).toNatClampNeg), (xs (x3 + Int32.ofInt 2).toNatClampNeg)]) (rest := []) (q1 := pg_m139) (r0 := (RX11, TX11, 12)) (c' := 10) (a := 139) (k := 89) (q0 := 0) G hw ⟨⟨rfl, rfl⟩, rfl, rfl⟩ (pg_in5 (List.mem_of_getElem? (i := 42) rfl) rfl) (by decide +kernel) rfl E1 rfl ⟨rfl, rfl⟩ (Nat.le_of_ble_eq_true rfl) hl.1 hc (fun ad1 H1 locs1 ha1 hw1 => ?_)
  have hl := lw_hl hl ha1
  show W p l e room_1 s m #[Value.ref b] below meth c H1 locs1 cells slots Q (F0 m 727 ls [.int y])
  refine lv_aload_n hx hb (show decode code 727 = .ok (.aload_n 2, 1) by decide +kernel) rfl (lv_at hl 2 rfl) ?_
  refine lw_ld (n := 1) G hw1 hl (hin 1 (by decide) (by decide)) (by decide +kernel) ?_
  refine lw_ld (n := 2) G hw1 hl (hin 2 (by decide) (by decide)) (by decide +kernel) ?_
  refine lw_call (as := [(xs (x3 + Int32.ofInt 1).toNatClampNeg), (xs (x3 + Int32.ofInt 2).toNatClampNeg)]) (rest := [.int y]) (q1 := pg_m167) (r0 := (RX12, TX12, 59)) (c' := 11) (a := 167) (k := 92) (q0 := 70) G hw1 ⟨⟨rfl, rfl⟩, rfl, rfl⟩ (pg_in6 (List.mem_of_getElem? (i := 69) rfl) rfl) (by decide +kernel) rfl E2 rfl ⟨rfl, rfl⟩ (Nat.le_of_ble_eq_true rfl) hl.1 hc (fun ad2 H2 locs2 ha2 hw2 => ?_)
  have hl := lw_hl hl ha2
  show W p l e room_1 s m #[Value.ref b] below meth c H2 locs2 cells slots Q (F0 m 741 ls [.int y, .int y])
  exact lv_icmp_eq (tgt := 746) hx hb (show decode code 741 = .ok (.if_icmp .eq 5, 3) by decide +kernel) (by decide) (fun _ => kk _ _ _ _ _ _ _ ad2 H2 locs2 hI' hw2 hl) (fun hne => absurd rfl hne)
end
