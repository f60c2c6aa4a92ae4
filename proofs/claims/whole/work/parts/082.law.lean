set_option maxHeartbeats 4000000 in
set_option maxRecDepth 100000 in
theorem law_J699 {p : Program} {l : Launch} {e : Env} {s : State} {m : MethodId} {below : List Frame} {meth : Method} {c : Code} {b L : Nat} {xs : Nat → Int32} (hL : L ≤ 2560) (C0 : lw_At p s m meth c b L xs) (hlt : l.stackTraces = false) (D : va_G) (cI cJ cD : ClassId) (sa : Nat → Nat) (q : Nat → Nat) (hq : gInj q) (hqA : ∀ k, k < 25 → s.heap.size ≤ q k) (hE : gEv D cI cJ cD s) (hXe : gXe sa (fun a => s.heap.size ≤ a) s s.heap) (N : Nat) (k : Nat) (h5 : 5 * k + 5 ≤ L) (k28 : Int32 → (Nat → Int32) → Int32 → (Nat → Int32) → (Nat → Int32) → Int32 → (Nat → Int32) → (Nat → Int32) → (Nat → Int32) → (Nat → Int32) → Int32 → Int32 → Int32 → Int32 → Int32 → Int32 → Int32 → (Nat → Int32) → (Nat → Int32) → (Nat → Int32) → (Nat → Int32) → (Nat → Int32) → (Nat → Int32) → (Nat → Int32) → (Nat → Int64) → (Nat → Int64) → (Nat → UInt64) → Int32 → Option Int32) (ih : lawIH p l e s m below meth c b D cI cJ cD q k k28) (Tn : Int32) (Ta : (Nat → Int32)) (Fn : Int32) (Fa : (Nat → Int32)) (Ba : (Nat → Int32)) (Rn : Int32) (Ra : (Nat → Int32)) (Rb : (Nat → Int32)) (Rd : (Nat → Int32)) (Ua : (Nat → Int32)) (Wg : Int32) (Wz : Int32) (Ww : Int32) (Wr : Int32) (Mh : Int32) (Mn : Int32) (Mm : Int32) (Mt : (Nat → Int32)) (Mk : (Nat → Int32)) (Ms : (Nat → Int32)) (Me : (Nat → Int32)) (Mp : (Nat → Int32)) (Mw : (Nat → Int32)) (Ml : (Nat → Int32)) (My : (Nat → Int64)) (Oa : (Nat → Int64)) (Od : (Nat → UInt64)) (x5 : Int32) (hx5 : x5 = nI (5 * k)) (hf : fL_law_J699 N L xs k28 Tn Ta Fn Fa Ba Rn Ra Rb Rd Ua Wg Wz Ww Wr Mh Mn Mm Mt Mk Ms Me Mp Mw Ml My Oa Od x5 = some 1) : ∀ (H : Heap) (locs : List Loc), va_P D vwCl (w_0_1_2_3_4_5_6_7_8_9_10_11_12_13_14_15_16_17_18_19_20_21_22_23_24 q cI cJ cD Tn Ta Fn Fa Ba Rn Ra Rb Rd Ua Wg Wz Ww Wr Mh Mn Mm Mt Mk Ms Me Mp Mw Ml My Oa Od) H → va_S (fun a : Nat => s.heap.size ≤ a) s.heap H locs → ∀ ls : Array Slot, lv_has ls 10 [(0, .ref b), (1, .ref (q 0)), (2, .ref (q 14)), (3, .ref (q 23)), (4, .ref (q 24)), (5, .int x5)] → W p l e room_1 s m #[Value.ref b] below meth c H locs (25 + k + 1) (1025 + 6 * k + 6) (lw_Z below #[Value.ref b] s) (F0 m 699 ls []) := by
  obtain ⟨hx, hb, hr, hml, hown, hts0, hX, hbl, hlocks, hgv⟩ := id C0
  have hown : s.vm.findClass RL = some m.cls := hown
  have hts : ∀ w ∈ wsL_law, w.before #[Value.ref b] s = true := fun w h => hts0 w (wsL_law_in w h)
  have hbA : ¬ (fun a : Nat => s.heap.size ≤ a) b := Nat.not_le.mpr hbl
  have hcm : 25 + k + 1 ≤ 1058 := by omega
  have hsm : 1025 + 6 * k + 6 ≤ 9271 := by omega
  have hc0 : 25 + k ≤ 1058 := by omega
  have hs0 : 1025 + 6 * k ≤ 9271 := by omega
  intro H locs hP hS ls hl
  unfold fL_law_J699 at hf
  refine lv_goto (tgt := 2831) hx hb dL_law_699 (by decide) ?_
  exact law_J2831 hL C0 hlt D cI cJ cD sa q hq hqA hE hXe N k h5 k28 ih Tn Ta Fn Fa Ba Rn Ra Rb Rd Ua Wg Wz Ww Wr Mh Mn Mm Mt Mk Ms Me Mp Mw Ml My Oa Od x5 hx5 hf _ _ hP hS _ (lv_sub hl [0, 1, 2, 3, 4, 5] rfl)
set_option maxHeartbeats 4000000 in
set_option maxRecDepth 100000 in
theorem law_J634 {p : Program} {l : Launch} {e : Env} {s : State} {m : MethodId} {below : List Frame} {meth : Method} {c : Code} {b L : Nat} {xs : Nat → Int32} (hL : L ≤ 2560) (C0 : lw_At p s m meth c b L xs) (hlt : l.stackTraces = false) (D : va_G) (cI cJ cD : ClassId) (sa : Nat → Nat) (q : Nat → Nat) (hq : gInj q) (hqA : ∀ k, k < 25 → s.heap.size ≤ q k) (hE : gEv D cI cJ cD s) (hXe : gXe sa (fun a => s.heap.size ≤ a) s s.heap) (N : Nat) (k : Nat) (h5 : 5 * k + 5 ≤ L) (k28 : Int32 → (Nat → Int32) → Int32 → (Nat → Int32) → (Nat → Int32) → Int32 → (Nat → Int32) → (Nat → Int32) → (Nat → Int32) → (Nat → Int32) → Int32 → Int32 → Int32 → Int32 → Int32 → Int32 → Int32 → (Nat → Int32) → (Nat → Int32) → (Nat → Int32) → (Nat → Int32) → (Nat → Int32) → (Nat → Int32) → (Nat → Int32) → (Nat → Int64) → (Nat → Int64) → (Nat → UInt64) → Int32 → Option Int32) (ih : lawIH p l e s m below meth c b D cI cJ cD q k k28) (Tn : Int32) (Ta : (Nat → Int32)) (Fn : Int32) (Fa : (Nat → Int32)) (Ba : (Nat → Int32)) (Rn : Int32) (Ra : (Nat → Int32)) (Rb : (Nat → Int32)) (Rd : (Nat → Int32)) (Ua : (Nat → Int32)) (Wg : Int32) (Wz : Int32) (Ww : Int32) (Wr : Int32) (Mh : Int32) (Mn : Int32) (Mm : Int32) (Mt : (Nat → Int32)) (Mk : (Nat → Int32)) (Ms : (Nat → Int32)) (Me : (Nat → Int32)) (Mp : (Nat → Int32)) (Mw : (Nat → Int32)) (Ml : (Nat → Int32)) (My : (Nat → Int64)) (Oa : (Nat → Int64)) (Od : (Nat → UInt64)) (x5 : Int32) (hx5 : x5 = nI (5 * k)) (hf : fL_law_J634 N L xs k28 Tn Ta Fn Fa Ba Rn Ra Rb Rd Ua Wg Wz Ww Wr Mh Mn Mm Mt Mk Ms Me Mp Mw Ml My Oa Od x5 = some 1) : ∀ (H : Heap) (locs : List Loc), va_P D vwCl (w_0_1_2_3_4_5_6_7_8_9_10_11_12_13_14_15_16_17_18_19_20_21_22_23_24 q cI cJ cD Tn Ta Fn Fa Ba Rn Ra Rb Rd Ua Wg Wz Ww Wr Mh Mn Mm Mt Mk Ms Me Mp Mw Ml My Oa Od) H → va_S (fun a : Nat => s.heap.size ≤ a) s.heap H locs → ∀ ls : Array Slot, lv_has ls 10 [(0, .ref b), (1, .ref (q 0)), (2, .ref (q 14)), (3, .ref (q 23)), (4, .ref (q 24)), (5, .int x5)] → W p l e room_1 s m #[Value.ref b] below meth c H locs (25 + k) (1025 + 6 * k) (lw_Z below #[Value.ref b] s) (F0 m 634 ls []) := by
  obtain ⟨hx, hb, hr, hml, hown, hts0, hX, hbl, hlocks, hgv⟩ := id C0
  have hown : s.vm.findClass RL = some m.cls := hown
  have hts : ∀ w ∈ wsL_law, w.before #[Value.ref b] s = true := fun w h => hts0 w (wsL_law_in w h)
  have hbA : ¬ (fun a : Nat => s.heap.size ≤ a) b := Nat.not_le.mpr hbl
  have hcm : 25 + k + 1 ≤ 1058 := by omega
  have hsm : 1025 + 6 * k + 6 ≤ 9271 := by omega
  have hc0 : 25 + k ≤ 1058 := by omega
  have hs0 : 1025 + 6 * k ≤ 9271 := by omega
  intro H locs hP hS ls hl
  unfold fL_law_J634 at hf
  refine lv_aload_n hx hb dL_law_634 rfl (lv_at hl 1 rfl) ?_
  refine lv_aload_n hx hb dL_law_635 rfl (lv_at hl 0 rfl) ?_
  refine lv_iload hx hb dL_law_636 (lv_at hl 5 rfl) ?_
  refine lv_iconst (v := (1 : Int32)) hx hb dL_law_638 (by decide) ?_
  refine lv_iadd hx hb dL_law_639 ?_
  obtain ⟨g_1, hf⟩ := gd_some hf
  refine va_sld hx hb hX hbl hbA hS (inb_in g_1) dL_law_640 ?_
  refine lv_aload_n hx hb dL_law_641 rfl (lv_at hl 0 rfl) ?_
  refine lv_iload hx hb dL_law_642 (lv_at hl 5 rfl) ?_
  refine lv_iconst (v := (2 : Int32)) hx hb dL_law_644 (by decide) ?_
  refine lv_iadd hx hb dL_law_645 ?_
  obtain ⟨g_2, hf⟩ := gd_some hf
  refine va_sld hx hb hX hbl hbA hS (inb_in g_2) dL_law_646 ?_
  refine lv_aload_n hx hb dL_law_647 rfl (lv_at hl 3 rfl) ?_
  obtain ⟨⟨r648, Tn648, Ta648, Wg648, Wz648, Ww648, Wr648, Oa648⟩, hc, hf⟩ := bn_some hf
  try dsimp only at hf
  refine g_call (mc := 1) (ms := 6) (ws' := (w_0_1_2_3_4_5_6_7_8_9_10_11_12_13_14_15_16_17_18_19_20_21_22_23_24 q cI cJ cD Tn648 Ta648 Fn Fa Ba Rn Ra Rb Rd Ua Wg648 Wz648 Ww648 Wr648 Mh Mn Mm Mt Mk Ms Me Mp Mw Ml My Oa648 Od)) (st1 := [.int r648]) hq [0, 1, 2, 3, 4, 5, 6, 7, 8, 9, 10, 11, 12, 13, 14, 15, 16, 17, 18, 19, 20, 21, 22, 23, 24] [0, 1, 2, 13, 23] [.inl 0, .inl 1, .inl 2, .inr 3, .inr 4, .inr 5, .inr 6, .inr 7, .inr 8, .inr 9, .inr 10, .inr 11, .inr 12, .inl 3, .inr 14, .inr 15, .inr 16, .inr 17, .inr 18, .inr 19, .inr 20, .inr 21, .inr 22, .inl 4, .inr 24] (vx_runSW (As := [.ref (q 0), .int (xs ((x5 + (1 : Int32))).toNatClampNeg), .int (xs ((x5 + (2 : Int32))).toNatClampNeg), .ref (q 23)]) (rest := []) ⟨hx, hb, hml, hown, hts⟩ (kL_loadDeBruijn l hlt D cI cJ cD sa q hq N Tn Ta Wg Wz Ww Wr Oa (xs ((x5 + (1 : Int32))).toNatClampNeg) (xs ((x5 + (2 : Int32))).toNatClampNeg) r648 Tn648 Ta648 Wg648 Wz648 Ww648 Wr648 Oa648 hc) (vx_cwSW 4 hts gL_law_L_loadDeBruijn rfl rfl rfl (by decide +kernel) ⟨(Nat.le_of_ble_eq_true rfl), (Nat.le_of_ble_eq_true rfl)⟩) ⟨gPx_blind, fun U hU hW => ⟨rfl, by rw [hU]; exact hP.sub (ws' := (w_0_1_2_13_23 q cI cJ cD Tn Ta Wg Wz Ww Wr Oa)) [0, 1, 2, 13, 23] rfl, gEv.warm hW hE, gXe.go hW hS (gMonoL hqA rfl) hXe hU⟩⟩ rfl rfl hl.1 rfl (lv_room (Nat.le_of_ble_eq_true rfl)) dL_law_648 ⟨hcm, hsm⟩) hP hS (gSubL hqA rfl) rfl rfl rfl rfl rfl (fun H locs hP hS => ?_)
  refine lv_istore (lv' := [(6, .int r648), (0, .ref b), (1, .ref (q 0)), (2, .ref (q 14)), (3, .ref (q 23)), (4, .ref (q 24)), (5, .int x5)]) hx hb dL_law_651 hl (by decide) rfl (fun ls hl => ?_)
  refine lv_aload_n hx hb dL_law_653 rfl (lv_at hl 3 rfl) ?_
  refine lv_aload_n hx hb dL_law_654 rfl (lv_at hl 1 rfl) ?_
  refine lv_iload hx hb dL_law_655 (lv_at hl 6 rfl) ?_
  refine lv_iconst (v := (1 : Int32)) hx hb dL_law_657 (by decide) ?_
  refine lv_iadd hx hb dL_law_658 ?_
  obtain ⟨g_3, hf⟩ := gd_some hf
  refine va_sld hx hb hX hbl hbA hS (inb_in g_3) dL_law_659 ?_
  refine lv_aload_n hx hb dL_law_660 rfl (lv_at hl 1 rfl) ?_
  refine lv_iload hx hb dL_law_661 (lv_at hl 6 rfl) ?_
  refine lv_iconst (v := (2 : Int32)) hx hb dL_law_663 (by decide) ?_
  refine lv_iadd hx hb dL_law_664 ?_
  obtain ⟨g_4, hf⟩ := gd_some hf
  refine va_sld hx hb hX hbl hbA hS (inb_in g_4) dL_law_665 ?_
  obtain ⟨⟨r666, Mh666, Mn666, Mt666, Mw666, Ml666⟩, hc, hf⟩ := bn_some hf
  try dsimp only at hf
  refine g_call0 (ws' := (w_0_1_2_3_4_5_6_7_8_9_10_11_12_13_14_15_16_17_18_19_20_21_22_23_24 q cI cJ cD Tn648 Ta648 Fn Fa Ba Rn Ra Rb Rd Ua Wg648 Wz648 Ww648 Wr648 Mh666 Mn666 Mm Mt666 Mk Ms Me Mp Mw666 Ml666 My Oa648 Od)) (st1 := [.int r666]) hq [0, 1, 2, 3, 4, 5, 6, 7, 8, 9, 10, 11, 12, 13, 14, 15, 16, 17, 18, 19, 20, 21, 22, 23, 24] [14, 15, 20, 21] [.inr 0, .inr 1, .inr 2, .inr 3, .inr 4, .inr 5, .inr 6, .inr 7, .inr 8, .inr 9, .inr 10, .inr 11, .inr 12, .inr 13, .inl 0, .inl 1, .inr 16, .inr 17, .inr 18, .inr 19, .inl 2, .inl 3, .inr 22, .inr 23, .inr 24] (va_runV (As := [.int (xs ((x5 + (1 : Int32))).toNatClampNeg), .int (xs ((x5 + (2 : Int32))).toNatClampNeg)]) (rest := []) ⟨hx, hb, hml, hown, hts⟩ (kX9_loadDeBruijn l D cI cJ cD q hq N Mh Mn Mm Mt Mw Ml (xs ((x5 + (1 : Int32))).toNatClampNeg) (xs ((x5 + (2 : Int32))).toNatClampNeg) r666 Mh666 Mn666 Mt666 Mw666 Ml666 hc) (cwV 2 hts gL_law_X9_loadDeBruijn rfl rfl rfl (by decide +kernel) ⟨(Nat.le_of_ble_eq_true rfl), (Nat.le_of_ble_eq_true rfl)⟩) ⟨gP_blind, va_recv hE.1 hP (ci := 7) (q0 := 14) rfl rfl, fun U hU hW => ⟨rfl, by rw [hU]; exact hP.sub (ws' := (w_14_15_20_21 q cI cJ cD Mh Mn Mm Mt Mw Ml)) [14, 15, 20, 21] rfl, gEv.warm hW hE⟩⟩ rfl rfl hl.1 rfl (lv_room (Nat.le_of_ble_eq_true rfl)) dL_law_666 ⟨hcm, hsm⟩) hP hS (gSubL hqA rfl) rfl rfl rfl rfl rfl (fun H locs hP hS => ?_)
  refine lv_istore (lv' := [(7, .int r666), (6, .int r648), (0, .ref b), (1, .ref (q 0)), (2, .ref (q 14)), (3, .ref (q 23)), (4, .ref (q 24)), (5, .int x5)]) hx hb dL_law_669 hl (by decide) rfl (fun ls hl => ?_)
  refine lv_aload_n hx hb dL_law_671 rfl (lv_at hl 4 rfl) ?_
  obtain ⟨r672, hc, hf⟩ := bn_some hf
  try dsimp only at hf
  refine g_call0 (ws' := (w_0_1_2_3_4_5_6_7_8_9_10_11_12_13_14_15_16_17_18_19_20_21_22_23_24 q cI cJ cD Tn648 Ta648 Fn Fa Ba Rn Ra Rb Rd Ua Wg648 Wz648 Ww648 Wr648 Mh666 Mn666 Mm Mt666 Mk Ms Me Mp Mw666 Ml666 My Oa648 Od)) (st1 := [.int r672]) hq [0, 1, 2, 3, 4, 5, 6, 7, 8, 9, 10, 11, 12, 13, 14, 15, 16, 17, 18, 19, 20, 21, 22, 23, 24] [14] [.inr 0, .inr 1, .inr 2, .inr 3, .inr 4, .inr 5, .inr 6, .inr 7, .inr 8, .inr 9, .inr 10, .inr 11, .inr 12, .inr 13, .inl 0, .inr 15, .inr 16, .inr 17, .inr 18, .inr 19, .inr 20, .inr 21, .inr 22, .inr 23, .inr 24] (va_runV (As := []) (rest := []) ⟨hx, hb, hml, hown, hts⟩ (kX9_thrown l D cI cJ cD q hq N Mh666 Mn666 Mm r672 hc) (cwV 0 hts gL_law_X9_thrown rfl rfl rfl (by decide +kernel) ⟨(Nat.le_of_ble_eq_true rfl), (Nat.le_of_ble_eq_true rfl)⟩) ⟨gP_blind, va_recv hE.1 hP (ci := 7) (q0 := 14) rfl rfl, fun U hU hW => ⟨rfl, by rw [hU]; exact hP.sub (ws' := (w_14 q cI cJ cD Mh666 Mn666 Mm)) [14] rfl, gEv.warm hW hE⟩⟩ rfl rfl hl.1 rfl (lv_room (Nat.le_of_ble_eq_true rfl)) dL_law_672 ⟨hcm, hsm⟩) hP hS (gSubL hqA rfl) rfl rfl rfl rfl rfl (fun H locs hP hS => ?_)
  refine lv_iload hx hb dL_law_675 (lv_at hl 1 rfl) ?_
  refine lv_icmp_eq (tgt := 682) hx hb dL_law_677 (by decide) (fun c_5 => ?_) (fun c_5 => ?_)
  · have hf := (if_pos c_5).symm.trans hf
    refine lv_iload hx hb dL_law_682 (lv_at hl 1 rfl) ?_
    refine lv_if_ne (tgt := 699) hx hb dL_law_684 (by decide) (fun c_6 => ?_) (fun c_6 => ?_)
    · have hf := (if_neg c_6).symm.trans hf
      exact law_J699 hL C0 hlt D cI cJ cD sa q hq hqA hE hXe N k h5 k28 ih Tn648 Ta648 Fn Fa Ba Rn Ra Rb Rd Ua Wg648 Wz648 Ww648 Wr648 Mh666 Mn666 Mm Mt666 Mk Ms Me Mp Mw666 Ml666 My Oa648 Od x5 hx5 hf _ _ hP hS _ (lv_sub hl [2, 3, 4, 5, 6, 7] rfl)
    · have hf := (if_pos c_6).symm.trans hf
      refine lv_aload_n hx hb dL_law_687 rfl (lv_at hl 5 rfl) ?_
      refine lv_iconst (v := (0 : Int32)) hx hb dL_law_688 (by decide) ?_
      obtain ⟨g_7, hf⟩ := gd_some hf
      refine va_lald hx hb hE.1 hP 23 1 rfl rfl (inb_in g_7) dL_law_689 ?_
      refine lv_iload hx hb dL_law_690 (lv_at hl 0 rfl) ?_
      refine lv_i2l (v := (r666).toInt64) hx hb dL_law_692 rfl ?_
      refine W.lcmp hx hb dL_law_693 ?_
      refine lv_if_eq (tgt := 699) hx hb dL_law_694 (by decide) (fun c_8 => ?_) (fun c_8 => ?_)
      · have hf := (if_pos c_8).symm.trans hf
        exact law_J699 hL C0 hlt D cI cJ cD sa q hq hqA hE hXe N k h5 k28 ih Tn648 Ta648 Fn Fa Ba Rn Ra Rb Rd Ua Wg648 Wz648 Ww648 Wr648 Mh666 Mn666 Mm Mt666 Mk Ms Me Mp Mw666 Ml666 My Oa648 Od x5 hx5 hf _ _ hP hS _ (lv_sub hl [2, 3, 4, 5, 6, 7] rfl)
      · have hf := (if_neg c_8).symm.trans hf
        exact law_J697 hL C0 hlt D cI cJ cD sa q hq hqA hE hXe N k (by omega) Tn648 Ta648 Fn Fa Ba Rn Ra Rb Rd Ua Wg648 Wz648 Ww648 Wr648 Mh666 Mn666 Mm Mt666 Mk Ms Me Mp Mw666 Ml666 My Oa648 Od hf _ _ hP hS _ (lv_sub hl [] rfl)
  · have hf := (if_neg c_5).symm.trans hf
    exact law_J680 hL C0 hlt D cI cJ cD sa q hq hqA hE hXe N k (by omega) Tn648 Ta648 Fn Fa Ba Rn Ra Rb Rd Ua Wg648 Wz648 Ww648 Wr648 Mh666 Mn666 Mm Mt666 Mk Ms Me Mp Mw666 Ml666 My Oa648 Od hf _ _ hP hS _ (lv_sub hl [] rfl)
set_option maxHeartbeats 4000000 in
set_option maxRecDepth 100000 in
theorem law_J779 {p : Program} {l : Launch} {e : Env} {s : State} {m : MethodId} {below : List Frame} {meth : Method} {c : Code} {b L : Nat} {xs : Nat → Int32} (hL : L ≤ 2560) (C0 : lw_At p s m meth c b L xs) (hlt : l.stackTraces = false) (D : va_G) (cI cJ cD : ClassId) (sa : Nat → Nat) (q : Nat → Nat) (hq : gInj q) (hqA : ∀ k, k < 25 → s.heap.size ≤ q k) (hE : gEv D cI cJ cD s) (hXe : gXe sa (fun a => s.heap.size ≤ a) s s.heap) (N : Nat) (k : Nat) (h5 : 5 * k + 5 ≤ L) (k28 : Int32 → (Nat → Int32) → Int32 → (Nat → Int32) → (Nat → Int32) → Int32 → (Nat → Int32) → (Nat → Int32) → (Nat → Int32) → (Nat → Int32) → Int32 → Int32 → Int32 → Int32 → Int32 → Int32 → Int32 → (Nat → Int32) → (Nat → Int32) → (Nat → Int32) → (Nat → Int32) → (Nat → Int32) → (Nat → Int32) → (Nat → Int32) → (Nat → Int64) → (Nat → Int64) → (Nat → UInt64) → Int32 → Option Int32) (ih : lawIH p l e s m below meth c b D cI cJ cD q k k28) (Tn : Int32) (Ta : (Nat → Int32)) (Fn : Int32) (Fa : (Nat → Int32)) (Ba : (Nat → Int32)) (Rn : Int32) (Ra : (Nat → Int32)) (Rb : (Nat → Int32)) (Rd : (Nat → Int32)) (Ua : (Nat → Int32)) (Wg : Int32) (Wz : Int32) (Ww : Int32) (Wr : Int32) (Mh : Int32) (Mn : Int32) (Mm : Int32) (Mt : (Nat → Int32)) (Mk : (Nat → Int32)) (Ms : (Nat → Int32)) (Me : (Nat → Int32)) (Mp : (Nat → Int32)) (Mw : (Nat → Int32)) (Ml : (Nat → Int32)) (My : (Nat → Int64)) (Oa : (Nat → Int64)) (Od : (Nat → UInt64)) (x5 : Int32) (hx5 : x5 = nI (5 * k)) (hf : fL_law_J779 N L xs k28 Tn Ta Fn Fa Ba Rn Ra Rb Rd Ua Wg Wz Ww Wr Mh Mn Mm Mt Mk Ms Me Mp Mw Ml My Oa Od x5 = some 1) : ∀ (H : Heap) (locs : List Loc), va_P D vwCl (w_0_1_2_3_4_5_6_7_8_9_10_11_12_13_14_15_16_17_18_19_20_21_22_23_24 q cI cJ cD Tn Ta Fn Fa Ba Rn Ra Rb Rd Ua Wg Wz Ww Wr Mh Mn Mm Mt Mk Ms Me Mp Mw Ml My Oa Od) H → va_S (fun a : Nat => s.heap.size ≤ a) s.heap H locs → ∀ ls : Array Slot, lv_has ls 10 [(0, .ref b), (1, .ref (q 0)), (2, .ref (q 14)), (3, .ref (q 23)), (4, .ref (q 24)), (5, .int x5)] → W p l e room_1 s m #[Value.ref b] below meth c H locs (25 + k + 1) (1025 + 6 * k + 6) (lw_Z below #[Value.ref b] s) (F0 m 779 ls []) := by
  obtain ⟨hx, hb, hr, hml, hown, hts0, hX, hbl, hlocks, hgv⟩ := id C0
  have hown : s.vm.findClass RL = some m.cls := hown
  have hts : ∀ w ∈ wsL_law, w.before #[Value.ref b] s = true := fun w h => hts0 w (wsL_law_in w h)
  have hbA : ¬ (fun a : Nat => s.heap.size ≤ a) b := Nat.not_le.mpr hbl
  have hcm : 25 + k + 1 ≤ 1058 := by omega
  have hsm : 1025 + 6 * k + 6 ≤ 9271 := by omega
  have hc0 : 25 + k ≤ 1058 := by omega
  have hs0 : 1025 + 6 * k ≤ 9271 := by omega
  intro H locs hP hS ls hl
  unfold fL_law_J779 at hf
  refine lv_goto (tgt := 2831) hx hb dL_law_779 (by decide) ?_
  exact law_J2831 hL C0 hlt D cI cJ cD sa q hq hqA hE hXe N k h5 k28 ih Tn Ta Fn Fa Ba Rn Ra Rb Rd Ua Wg Wz Ww Wr Mh Mn Mm Mt Mk Ms Me Mp Mw Ml My Oa Od x5 hx5 hf _ _ hP hS _ (lv_sub hl [0, 1, 2, 3, 4, 5] rfl)
set_option maxHeartbeats 4000000 in
set_option maxRecDepth 100000 in
theorem law_J702 {p : Program} {l : Launch} {e : Env} {s : State} {m : MethodId} {below : List Frame} {meth : Method} {c : Code} {b L : Nat} {xs : Nat → Int32} (hL : L ≤ 2560) (C0 : lw_At p s m meth c b L xs) (hlt : l.stackTraces = false) (D : va_G) (cI cJ cD : ClassId) (sa : Nat → Nat) (q : Nat → Nat) (hq : gInj q) (hqA : ∀ k, k < 25 → s.heap.size ≤ q k) (hE : gEv D cI cJ cD s) (hXe : gXe sa (fun a => s.heap.size ≤ a) s s.heap) (N : Nat) (k : Nat) (h5 : 5 * k + 5 ≤ L) (k28 : Int32 → (Nat → Int32) → Int32 → (Nat → Int32) → (Nat → Int32) → Int32 → (Nat → Int32) → (Nat → Int32) → (Nat → Int32) → (Nat → Int32) → Int32 → Int32 → Int32 → Int32 → Int32 → Int32 → Int32 → (Nat → Int32) → (Nat → Int32) → (Nat → Int32) → (Nat → Int32) → (Nat → Int32) → (Nat → Int32) → (Nat → Int32) → (Nat → Int64) → (Nat → Int64) → (Nat → UInt64) → Int32 → Option Int32) (ih : lawIH p l e s m below meth c b D cI cJ cD q k k28) (Tn : Int32) (Ta : (Nat → Int32)) (Fn : Int32) (Fa : (Nat → Int32)) (Ba : (Nat → Int32)) (Rn : Int32) (Ra : (Nat → Int32)) (Rb : (Nat → Int32)) (Rd : (Nat → Int32)) (Ua : (Nat → Int32)) (Wg : Int32) (Wz : Int32) (Ww : Int32) (Wr : Int32) (Mh : Int32) (Mn : Int32) (Mm : Int32) (Mt : (Nat → Int32)) (Mk : (Nat → Int32)) (Ms : (Nat → Int32)) (Me : (Nat → Int32)) (Mp : (Nat → Int32)) (Mw : (Nat → Int32)) (Ml : (Nat → Int32)) (My : (Nat → Int64)) (Oa : (Nat → Int64)) (Od : (Nat → UInt64)) (x5 : Int32) (hx5 : x5 = nI (5 * k)) (hf : fL_law_J702 N L xs k28 Tn Ta Fn Fa Ba Rn Ra Rb Rd Ua Wg Wz Ww Wr Mh Mn Mm Mt Mk Ms Me Mp Mw Ml My Oa Od x5 = some 1) : ∀ (H : Heap) (locs : List Loc), va_P D vwCl (w_0_1_2_3_4_5_6_7_8_9_10_11_12_13_14_15_16_17_18_19_20_21_22_23_24 q cI cJ cD Tn Ta Fn Fa Ba Rn Ra Rb Rd Ua Wg Wz Ww Wr Mh Mn Mm Mt Mk Ms Me Mp Mw Ml My Oa Od) H → va_S (fun a : Nat => s.heap.size ≤ a) s.heap H locs → ∀ ls : Array Slot, lv_has ls 10 [(0, .ref b), (1, .ref (q 0)), (2, .ref (q 14)), (3, .ref (q 23)), (4, .ref (q 24)), (5, .int x5)] → W p l e room_1 s m #[Value.ref b] below meth c H locs (25 + k) (1025 + 6 * k) (lw_Z below #[Value.ref b] s) (F0 m 702 ls []) := by
  obtain ⟨hx, hb, hr, hml, hown, hts0, hX, hbl, hlocks, hgv⟩ := id C0
  have hown : s.vm.findClass RL = some m.cls := hown
  have hts : ∀ w ∈ wsL_law, w.before #[Value.ref b] s = true := fun w h => hts0 w (wsL_law_in w h)
  have hbA : ¬ (fun a : Nat => s.heap.size ≤ a) b := Nat.not_le.mpr hbl
  have hcm : 25 + k + 1 ≤ 1058 := by omega
  have hsm : 1025 + 6 * k + 6 ≤ 9271 := by omega
  have hc0 : 25 + k ≤ 1058 := by omega
  have hs0 : 1025 + 6 * k ≤ 9271 := by omega
  intro H locs hP hS ls hl
  unfold fL_law_J702 at hf
  refine lv_aload_n hx hb dL_law_702 rfl (lv_at hl 1 rfl) ?_
  refine lv_aload_n hx hb dL_law_703 rfl (lv_at hl 0 rfl) ?_
  refine lv_iload hx hb dL_law_704 (lv_at hl 5 rfl) ?_
  refine lv_iconst (v := (1 : Int32)) hx hb dL_law_706 (by decide) ?_
  refine lv_iadd hx hb dL_law_707 ?_
  obtain ⟨g_1, hf⟩ := gd_some hf
  refine va_sld hx hb hX hbl hbA hS (inb_in g_1) dL_law_708 ?_
  refine lv_aload_n hx hb dL_law_709 rfl (lv_at hl 0 rfl) ?_
  refine lv_iload hx hb dL_law_710 (lv_at hl 5 rfl) ?_
  refine lv_iconst (v := (2 : Int32)) hx hb dL_law_712 (by decide) ?_
  refine lv_iadd hx hb dL_law_713 ?_
  obtain ⟨g_2, hf⟩ := gd_some hf
  refine va_sld hx hb hX hbl hbA hS (inb_in g_2) dL_law_714 ?_
  refine lv_aload_n hx hb dL_law_715 rfl (lv_at hl 0 rfl) ?_
  refine lv_iload hx hb dL_law_716 (lv_at hl 5 rfl) ?_
  refine lv_iconst (v := (3 : Int32)) hx hb dL_law_718 (by decide) ?_
  refine lv_iadd hx hb dL_law_719 ?_
  obtain ⟨g_3, hf⟩ := gd_some hf
  refine va_sld hx hb hX hbl hbA hS (inb_in g_3) dL_law_720 ?_
  refine lv_aload_n hx hb dL_law_721 rfl (lv_at hl 3 rfl) ?_
  obtain ⟨⟨r722, Tn722, Ta722, Wg722, Wz722, Ww722, Wr722, Oa722⟩, hc, hf⟩ := bn_some hf
  try dsimp only at hf
  refine g_call (mc := 1) (ms := 6) (ws' := (w_0_1_2_3_4_5_6_7_8_9_10_11_12_13_14_15_16_17_18_19_20_21_22_23_24 q cI cJ cD Tn722 Ta722 Fn Fa Ba Rn Ra Rb Rd Ua Wg722 Wz722 Ww722 Wr722 Mh Mn Mm Mt Mk Ms Me Mp Mw Ml My Oa722 Od)) (st1 := [.int r722]) hq [0, 1, 2, 3, 4, 5, 6, 7, 8, 9, 10, 11, 12, 13, 14, 15, 16, 17, 18, 19, 20, 21, 22, 23, 24] [0, 1, 2, 13, 23] [.inl 0, .inl 1, .inl 2, .inr 3, .inr 4, .inr 5, .inr 6, .inr 7, .inr 8, .inr 9, .inr 10, .inr 11, .inr 12, .inl 3, .inr 14, .inr 15, .inr 16, .inr 17, .inr 18, .inr 19, .inr 20, .inr 21, .inr 22, .inl 4, .inr 24] (vx_runSW (As := [.ref (q 0), .int (xs ((x5 + (1 : Int32))).toNatClampNeg), .int (xs ((x5 + (2 : Int32))).toNatClampNeg), .int (xs ((x5 + (3 : Int32))).toNatClampNeg), .ref (q 23)]) (rest := []) ⟨hx, hb, hml, hown, hts⟩ (kL_loadNecklace l hlt D cI cJ cD sa q hq N Tn Ta Wg Wz Ww Wr Oa (xs ((x5 + (1 : Int32))).toNatClampNeg) (xs ((x5 + (2 : Int32))).toNatClampNeg) (xs ((x5 + (3 : Int32))).toNatClampNeg) r722 Tn722 Ta722 Wg722 Wz722 Ww722 Wr722 Oa722 hc) (vx_cwSW 5 hts gL_law_L_loadNecklace rfl rfl rfl (by decide +kernel) ⟨(Nat.le_of_ble_eq_true rfl), (Nat.le_of_ble_eq_true rfl)⟩) ⟨gPx_blind, fun U hU hW => ⟨rfl, by rw [hU]; exact hP.sub (ws' := (w_0_1_2_13_23 q cI cJ cD Tn Ta Wg Wz Ww Wr Oa)) [0, 1, 2, 13, 23] rfl, gEv.warm hW hE, gXe.go hW hS (gMonoL hqA rfl) hXe hU⟩⟩ rfl rfl hl.1 rfl (lv_room (Nat.le_of_ble_eq_true rfl)) dL_law_722 ⟨hcm, hsm⟩) hP hS (gSubL hqA rfl) rfl rfl rfl rfl rfl (fun H locs hP hS => ?_)
  refine lv_istore (lv' := [(6, .int r722), (0, .ref b), (1, .ref (q 0)), (2, .ref (q 14)), (3, .ref (q 23)), (4, .ref (q 24)), (5, .int x5)]) hx hb dL_law_725 hl (by decide) rfl (fun ls hl => ?_)
  refine lv_aload_n hx hb dL_law_727 rfl (lv_at hl 3 rfl) ?_
  refine lv_aload_n hx hb dL_law_728 rfl (lv_at hl 1 rfl) ?_
  refine lv_iload hx hb dL_law_729 (lv_at hl 6 rfl) ?_
  refine lv_iconst (v := (1 : Int32)) hx hb dL_law_731 (by decide) ?_
  refine lv_iadd hx hb dL_law_732 ?_
  obtain ⟨g_4, hf⟩ := gd_some hf
  refine va_sld hx hb hX hbl hbA hS (inb_in g_4) dL_law_733 ?_
  refine lv_aload_n hx hb dL_law_734 rfl (lv_at hl 1 rfl) ?_
  refine lv_iload hx hb dL_law_735 (lv_at hl 6 rfl) ?_
  refine lv_iconst (v := (2 : Int32)) hx hb dL_law_737 (by decide) ?_
  refine lv_iadd hx hb dL_law_738 ?_
  obtain ⟨g_5, hf⟩ := gd_some hf
  refine va_sld hx hb hX hbl hbA hS (inb_in g_5) dL_law_739 ?_
  refine lv_aload_n hx hb dL_law_740 rfl (lv_at hl 1 rfl) ?_
  refine lv_iload hx hb dL_law_741 (lv_at hl 6 rfl) ?_
  refine lv_iconst (v := (3 : Int32)) hx hb dL_law_743 (by decide) ?_
  refine lv_iadd hx hb dL_law_744 ?_
  obtain ⟨g_6, hf⟩ := gd_some hf
  refine va_sld hx hb hX hbl hbA hS (inb_in g_6) dL_law_745 ?_
  obtain ⟨⟨r746, Mh746, Mn746, Mt746, Mw746⟩, hc, hf⟩ := bn_some hf
  try dsimp only at hf
  refine g_call0 (ws' := (w_0_1_2_3_4_5_6_7_8_9_10_11_12_13_14_15_16_17_18_19_20_21_22_23_24 q cI cJ cD Tn722 Ta722 Fn Fa Ba Rn Ra Rb Rd Ua Wg722 Wz722 Ww722 Wr722 Mh746 Mn746 Mm Mt746 Mk Ms Me Mp Mw746 Ml My Oa722 Od)) (st1 := [.int r746]) hq [0, 1, 2, 3, 4, 5, 6, 7, 8, 9, 10, 11, 12, 13, 14, 15, 16, 17, 18, 19, 20, 21, 22, 23, 24] [14, 15, 20] [.inr 0, .inr 1, .inr 2, .inr 3, .inr 4, .inr 5, .inr 6, .inr 7, .inr 8, .inr 9, .inr 10, .inr 11, .inr 12, .inr 13, .inl 0, .inl 1, .inr 16, .inr 17, .inr 18, .inr 19, .inl 2, .inr 21, .inr 22, .inr 23, .inr 24] (va_runV (As := [.int (xs ((x5 + (1 : Int32))).toNatClampNeg), .int (xs ((x5 + (2 : Int32))).toNatClampNeg), .int (xs ((x5 + (3 : Int32))).toNatClampNeg)]) (rest := []) ⟨hx, hb, hml, hown, hts⟩ (kX9_loadNecklace l D cI cJ cD q hq N Mh Mn Mm Mt Mw (xs ((x5 + (1 : Int32))).toNatClampNeg) (xs ((x5 + (2 : Int32))).toNatClampNeg) (xs ((x5 + (3 : Int32))).toNatClampNeg) r746 Mh746 Mn746 Mt746 Mw746 hc) (cwV 3 hts gL_law_X9_loadNecklace rfl rfl rfl (by decide +kernel) ⟨(Nat.le_of_ble_eq_true rfl), (Nat.le_of_ble_eq_true rfl)⟩) ⟨gP_blind, va_recv hE.1 hP (ci := 7) (q0 := 14) rfl rfl, fun U hU hW => ⟨rfl, by rw [hU]; exact hP.sub (ws' := (w_14_15_20 q cI cJ cD Mh Mn Mm Mt Mw)) [14, 15, 20] rfl, gEv.warm hW hE⟩⟩ rfl rfl hl.1 rfl (lv_room (Nat.le_of_ble_eq_true rfl)) dL_law_746 ⟨hcm, hsm⟩) hP hS (gSubL hqA rfl) rfl rfl rfl rfl rfl (fun H locs hP hS => ?_)
  refine lv_istore (lv' := [(7, .int r746), (6, .int r722), (0, .ref b), (1, .ref (q 0)), (2, .ref (q 14)), (3, .ref (q 23)), (4, .ref (q 24)), (5, .int x5)]) hx hb dL_law_749 hl (by decide) rfl (fun ls hl => ?_)
  refine lv_aload_n hx hb dL_law_751 rfl (lv_at hl 4 rfl) ?_
  obtain ⟨r752, hc, hf⟩ := bn_some hf
  try dsimp only at hf
  refine g_call0 (ws' := (w_0_1_2_3_4_5_6_7_8_9_10_11_12_13_14_15_16_17_18_19_20_21_22_23_24 q cI cJ cD Tn722 Ta722 Fn Fa Ba Rn Ra Rb Rd Ua Wg722 Wz722 Ww722 Wr722 Mh746 Mn746 Mm Mt746 Mk Ms Me Mp Mw746 Ml My Oa722 Od)) (st1 := [.int r752]) hq [0, 1, 2, 3, 4, 5, 6, 7, 8, 9, 10, 11, 12, 13, 14, 15, 16, 17, 18, 19, 20, 21, 22, 23, 24] [14] [.inr 0, .inr 1, .inr 2, .inr 3, .inr 4, .inr 5, .inr 6, .inr 7, .inr 8, .inr 9, .inr 10, .inr 11, .inr 12, .inr 13, .inl 0, .inr 15, .inr 16, .inr 17, .inr 18, .inr 19, .inr 20, .inr 21, .inr 22, .inr 23, .inr 24] (va_runV (As := []) (rest := []) ⟨hx, hb, hml, hown, hts⟩ (kX9_thrown l D cI cJ cD q hq N Mh746 Mn746 Mm r752 hc) (cwV 0 hts gL_law_X9_thrown rfl rfl rfl (by decide +kernel) ⟨(Nat.le_of_ble_eq_true rfl), (Nat.le_of_ble_eq_true rfl)⟩) ⟨gP_blind, va_recv hE.1 hP (ci := 7) (q0 := 14) rfl rfl, fun U hU hW => ⟨rfl, by rw [hU]; exact hP.sub (ws' := (w_14 q cI cJ cD Mh746 Mn746 Mm)) [14] rfl, gEv.warm hW hE⟩⟩ rfl rfl hl.1 rfl (lv_room (Nat.le_of_ble_eq_true rfl)) dL_law_752 ⟨hcm, hsm⟩) hP hS (gSubL hqA rfl) rfl rfl rfl rfl rfl (fun H locs hP hS => ?_)
  refine lv_iload hx hb dL_law_755 (lv_at hl 1 rfl) ?_
  refine lv_icmp_eq (tgt := 762) hx hb dL_law_757 (by decide) (fun c_7 => ?_) (fun c_7 => ?_)
  · have hf := (if_pos c_7).symm.trans hf
    refine lv_iload hx hb dL_law_762 (lv_at hl 1 rfl) ?_
    refine lv_if_ne (tgt := 779) hx hb dL_law_764 (by decide) (fun c_8 => ?_) (fun c_8 => ?_)
    · have hf := (if_neg c_8).symm.trans hf
      exact law_J779 hL C0 hlt D cI cJ cD sa q hq hqA hE hXe N k h5 k28 ih Tn722 Ta722 Fn Fa Ba Rn Ra Rb Rd Ua Wg722 Wz722 Ww722 Wr722 Mh746 Mn746 Mm Mt746 Mk Ms Me Mp Mw746 Ml My Oa722 Od x5 hx5 hf _ _ hP hS _ (lv_sub hl [2, 3, 4, 5, 6, 7] rfl)
    · have hf := (if_pos c_8).symm.trans hf
      refine lv_aload_n hx hb dL_law_767 rfl (lv_at hl 5 rfl) ?_
      refine lv_iconst (v := (0 : Int32)) hx hb dL_law_768 (by decide) ?_
      obtain ⟨g_9, hf⟩ := gd_some hf
      refine va_lald hx hb hE.1 hP 23 1 rfl rfl (inb_in g_9) dL_law_769 ?_
      refine lv_iload hx hb dL_law_770 (lv_at hl 0 rfl) ?_
      refine lv_i2l (v := (r746).toInt64) hx hb dL_law_772 rfl ?_
      refine W.lcmp hx hb dL_law_773 ?_
      refine lv_if_eq (tgt := 779) hx hb dL_law_774 (by decide) (fun c_10 => ?_) (fun c_10 => ?_)
      · have hf := (if_pos c_10).symm.trans hf
        exact law_J779 hL C0 hlt D cI cJ cD sa q hq hqA hE hXe N k h5 k28 ih Tn722 Ta722 Fn Fa Ba Rn Ra Rb Rd Ua Wg722 Wz722 Ww722 Wr722 Mh746 Mn746 Mm Mt746 Mk Ms Me Mp Mw746 Ml My Oa722 Od x5 hx5 hf _ _ hP hS _ (lv_sub hl [2, 3, 4, 5, 6, 7] rfl)
      · have hf := (if_neg c_10).symm.trans hf
        exact law_J777 hL C0 hlt D cI cJ cD sa q hq hqA hE hXe N k (by omega) Tn722 Ta722 Fn Fa Ba Rn Ra Rb Rd Ua Wg722 Wz722 Ww722 Wr722 Mh746 Mn746 Mm Mt746 Mk Ms Me Mp Mw746 Ml My Oa722 Od hf _ _ hP hS _ (lv_sub hl [] rfl)
  · have hf := (if_neg c_7).symm.trans hf
    exact law_J760 hL C0 hlt D cI cJ cD sa q hq hqA hE hXe N k (by omega) Tn722 Ta722 Fn Fa Ba Rn Ra Rb Rd Ua Wg722 Wz722 Ww722 Wr722 Mh746 Mn746 Mm Mt746 Mk Ms Me Mp Mw746 Ml My Oa722 Od hf _ _ hP hS _ (lv_sub hl [] rfl)
set_option maxHeartbeats 4000000 in
set_option maxRecDepth 100000 in
theorem law_J782 {p : Program} {l : Launch} {e : Env} {s : State} {m : MethodId} {below : List Frame} {meth : Method} {c : Code} {b L : Nat} {xs : Nat → Int32} (hL : L ≤ 2560) (C0 : lw_At p s m meth c b L xs) (hlt : l.stackTraces = false) (D : va_G) (cI cJ cD : ClassId) (sa : Nat → Nat) (q : Nat → Nat) (hq : gInj q) (hqA : ∀ k, k < 25 → s.heap.size ≤ q k) (hE : gEv D cI cJ cD s) (hXe : gXe sa (fun a => s.heap.size ≤ a) s s.heap) (N : Nat) (k : Nat) (h5 : 5 * k + 5 ≤ L) (k28 : Int32 → (Nat → Int32) → Int32 → (Nat → Int32) → (Nat → Int32) → Int32 → (Nat → Int32) → (Nat → Int32) → (Nat → Int32) → (Nat → Int32) → Int32 → Int32 → Int32 → Int32 → Int32 → Int32 → Int32 → (Nat → Int32) → (Nat → Int32) → (Nat → Int32) → (Nat → Int32) → (Nat → Int32) → (Nat → Int32) → (Nat → Int32) → (Nat → Int64) → (Nat → Int64) → (Nat → UInt64) → Int32 → Option Int32) (ih : lawIH p l e s m below meth c b D cI cJ cD q k k28) (Tn : Int32) (Ta : (Nat → Int32)) (Fn : Int32) (Fa : (Nat → Int32)) (Ba : (Nat → Int32)) (Rn : Int32) (Ra : (Nat → Int32)) (Rb : (Nat → Int32)) (Rd : (Nat → Int32)) (Ua : (Nat → Int32)) (Wg : Int32) (Wz : Int32) (Ww : Int32) (Wr : Int32) (Mh : Int32) (Mn : Int32) (Mm : Int32) (Mt : (Nat → Int32)) (Mk : (Nat → Int32)) (Ms : (Nat → Int32)) (Me : (Nat → Int32)) (Mp : (Nat → Int32)) (Mw : (Nat → Int32)) (Ml : (Nat → Int32)) (My : (Nat → Int64)) (Oa : (Nat → Int64)) (Od : (Nat → UInt64)) (x5 : Int32) (hx5 : x5 = nI (5 * k)) (hf : fL_law_J782 N L xs k28 Tn Ta Fn Fa Ba Rn Ra Rb Rd Ua Wg Wz Ww Wr Mh Mn Mm Mt Mk Ms Me Mp Mw Ml My Oa Od x5 = some 1) : ∀ (H : Heap) (locs : List Loc), va_P D vwCl (w_0_1_2_3_4_5_6_7_8_9_10_11_12_13_14_15_16_17_18_19_20_21_22_23_24 q cI cJ cD Tn Ta Fn Fa Ba Rn Ra Rb Rd Ua Wg Wz Ww Wr Mh Mn Mm Mt Mk Ms Me Mp Mw Ml My Oa Od) H → va_S (fun a : Nat => s.heap.size ≤ a) s.heap H locs → ∀ ls : Array Slot, lv_has ls 10 [(0, .ref b), (1, .ref (q 0)), (2, .ref (q 14)), (3, .ref (q 23)), (4, .ref (q 24)), (5, .int x5)] → W p l e room_1 s m #[Value.ref b] below meth c H locs (25 + k) (1025 + 6 * k) (lw_Z below #[Value.ref b] s) (F0 m 782 ls []) := by
  obtain ⟨hx, hb, hr, hml, hown, hts0, hX, hbl, hlocks, hgv⟩ := id C0
  have hown : s.vm.findClass RL = some m.cls := hown
  have hts : ∀ w ∈ wsL_law, w.before #[Value.ref b] s = true := fun w h => hts0 w (wsL_law_in w h)
  have hbA : ¬ (fun a : Nat => s.heap.size ≤ a) b := Nat.not_le.mpr hbl
  have hcm : 25 + k + 1 ≤ 1058 := by omega
  have hsm : 1025 + 6 * k + 6 ≤ 9271 := by omega
  have hc0 : 25 + k ≤ 1058 := by omega
  have hs0 : 1025 + 6 * k ≤ 9271 := by omega
  intro H locs hP hS ls hl
  unfold fL_law_J782 at hf
  refine lv_aload_n hx hb dL_law_782 rfl (lv_at hl 1 rfl) ?_
  obtain ⟨r783, hc, hf⟩ := bn_some hf
  try dsimp only at hf
  refine g_call0 (ws' := (w_0_1_2_3_4_5_6_7_8_9_10_11_12_13_14_15_16_17_18_19_20_21_22_23_24 q cI cJ cD Tn Ta Fn Fa Ba Rn Ra Rb Rd Ua Wg Wz Ww Wr Mh Mn Mm Mt Mk Ms Me Mp Mw Ml My Oa Od)) (st1 := [.int r783]) hq [0, 1, 2, 3, 4, 5, 6, 7, 8, 9, 10, 11, 12, 13, 14, 15, 16, 17, 18, 19, 20, 21, 22, 23, 24] [0, 1] [.inl 0, .inl 1, .inr 2, .inr 3, .inr 4, .inr 5, .inr 6, .inr 7, .inr 8, .inr 9, .inr 10, .inr 11, .inr 12, .inr 13, .inr 14, .inr 15, .inr 16, .inr 17, .inr 18, .inr 19, .inr 20, .inr 21, .inr 22, .inr 23, .inr 24] (va_runV (As := []) (rest := []) ⟨hx, hb, hml, hown, hts⟩ (kX8_length l D cI cJ cD q hq N Tn r783 hc) (cwV 0 hts gL_law_X8_length rfl rfl rfl (by decide +kernel) ⟨(Nat.le_of_ble_eq_true rfl), (Nat.le_of_ble_eq_true rfl)⟩) ⟨gP_blind, va_recv hE.1 hP (ci := 6) (q0 := 0) rfl rfl, fun U hU hW => ⟨rfl, by rw [hU]; exact hP.sub (ws' := (w_0_1 q cI cJ cD Tn)) [0, 1] rfl, gEv.warm hW hE⟩⟩ rfl rfl hl.1 rfl (lv_room (Nat.le_of_ble_eq_true rfl)) dL_law_783 ⟨hc0, hs0⟩) hP hS (gSubL hqA rfl) rfl rfl rfl rfl rfl (fun H locs hP hS => ?_)
  refine lv_aload_n hx hb dL_law_786 rfl (lv_at hl 2 rfl) ?_
  obtain ⟨⟨r787, Mh787⟩, hc, hf⟩ := bn_some hf
  try dsimp only at hf
  refine g_call0 (ws' := (w_0_1_2_3_4_5_6_7_8_9_10_11_12_13_14_15_16_17_18_19_20_21_22_23_24 q cI cJ cD Tn Ta Fn Fa Ba Rn Ra Rb Rd Ua Wg Wz Ww Wr Mh787 Mn Mm Mt Mk Ms Me Mp Mw Ml My Oa Od)) (st1 := [.int r787, .int r783]) hq [0, 1, 2, 3, 4, 5, 6, 7, 8, 9, 10, 11, 12, 13, 14, 15, 16, 17, 18, 19, 20, 21, 22, 23, 24] [14] [.inr 0, .inr 1, .inr 2, .inr 3, .inr 4, .inr 5, .inr 6, .inr 7, .inr 8, .inr 9, .inr 10, .inr 11, .inr 12, .inr 13, .inl 0, .inr 15, .inr 16, .inr 17, .inr 18, .inr 19, .inr 20, .inr 21, .inr 22, .inr 23, .inr 24] (va_runV (As := []) (rest := [.int r783]) ⟨hx, hb, hml, hown, hts⟩ (kX9_length l D cI cJ cD q hq N Mh Mn Mm r787 Mh787 hc) (cwV 0 hts gL_law_X9_length rfl rfl rfl (by decide +kernel) ⟨(Nat.le_of_ble_eq_true rfl), (Nat.le_of_ble_eq_true rfl)⟩) ⟨gP_blind, va_recv hE.1 hP (ci := 7) (q0 := 14) rfl rfl, fun U hU hW => ⟨rfl, by rw [hU]; exact hP.sub (ws' := (w_14 q cI cJ cD Mh Mn Mm)) [14] rfl, gEv.warm hW hE⟩⟩ rfl rfl hl.1 rfl (lv_room (Nat.le_of_ble_eq_true rfl)) dL_law_787 ⟨hc0, hs0⟩) hP hS (gSubL hqA rfl) rfl rfl rfl rfl rfl (fun H locs hP hS => ?_)
  refine lv_icmp_eq (tgt := 2831) hx hb dL_law_790 (by decide) (fun c_1 => ?_) (fun c_1 => ?_)
  · have hf := (if_pos c_1).symm.trans hf
    refine W.widen (k := 25 + k + 1) (n := 1025 + 6 * k + 6) (by omega) (by omega) ?_
    exact law_J2831 hL C0 hlt D cI cJ cD sa q hq hqA hE hXe N k h5 k28 ih Tn Ta Fn Fa Ba Rn Ra Rb Rd Ua Wg Wz Ww Wr Mh787 Mn Mm Mt Mk Ms Me Mp Mw Ml My Oa Od x5 hx5 hf _ _ hP hS _ (lv_sub hl [0, 1, 2, 3, 4, 5] rfl)
  · have hf := (if_neg c_1).symm.trans hf
    exact law_J793 hL C0 hlt D cI cJ cD sa q hq hqA hE hXe N k (by omega) Tn Ta Fn Fa Ba Rn Ra Rb Rd Ua Wg Wz Ww Wr Mh787 Mn Mm Mt Mk Ms Me Mp Mw Ml My Oa Od hf _ _ hP hS _ (lv_sub hl [] rfl)
set_option maxHeartbeats 4000000 in
set_option maxRecDepth 100000 in
theorem law_J848 {p : Program} {l : Launch} {e : Env} {s : State} {m : MethodId} {below : List Frame} {meth : Method} {c : Code} {b L : Nat} {xs : Nat → Int32} (hL : L ≤ 2560) (C0 : lw_At p s m meth c b L xs) (hlt : l.stackTraces = false) (D : va_G) (cI cJ cD : ClassId) (sa : Nat → Nat) (q : Nat → Nat) (hq : gInj q) (hqA : ∀ k, k < 25 → s.heap.size ≤ q k) (hE : gEv D cI cJ cD s) (hXe : gXe sa (fun a => s.heap.size ≤ a) s s.heap) (N : Nat) (k : Nat) (h5 : 5 * k + 5 ≤ L) (k28 : Int32 → (Nat → Int32) → Int32 → (Nat → Int32) → (Nat → Int32) → Int32 → (Nat → Int32) → (Nat → Int32) → (Nat → Int32) → (Nat → Int32) → Int32 → Int32 → Int32 → Int32 → Int32 → Int32 → Int32 → (Nat → Int32) → (Nat → Int32) → (Nat → Int32) → (Nat → Int32) → (Nat → Int32) → (Nat → Int32) → (Nat → Int32) → (Nat → Int64) → (Nat → Int64) → (Nat → UInt64) → Int32 → Option Int32) (ih : lawIH p l e s m below meth c b D cI cJ cD q k k28) (Tn : Int32) (Ta : (Nat → Int32)) (Fn : Int32) (Fa : (Nat → Int32)) (Ba : (Nat → Int32)) (Rn : Int32) (Ra : (Nat → Int32)) (Rb : (Nat → Int32)) (Rd : (Nat → Int32)) (Ua : (Nat → Int32)) (Wg : Int32) (Wz : Int32) (Ww : Int32) (Wr : Int32) (Mh : Int32) (Mn : Int32) (Mm : Int32) (Mt : (Nat → Int32)) (Mk : (Nat → Int32)) (Ms : (Nat → Int32)) (Me : (Nat → Int32)) (Mp : (Nat → Int32)) (Mw : (Nat → Int32)) (Ml : (Nat → Int32)) (My : (Nat → Int64)) (Oa : (Nat → Int64)) (Od : (Nat → UInt64)) (x5 : Int32) (hx5 : x5 = nI (5 * k)) (hf : fL_law_J848 N L xs k28 Tn Ta Fn Fa Ba Rn Ra Rb Rd Ua Wg Wz Ww Wr Mh Mn Mm Mt Mk Ms Me Mp Mw Ml My Oa Od x5 = some 1) : ∀ (H : Heap) (locs : List Loc), va_P D vwCl (w_0_1_2_3_4_5_6_7_8_9_10_11_12_13_14_15_16_17_18_19_20_21_22_23_24 q cI cJ cD Tn Ta Fn Fa Ba Rn Ra Rb Rd Ua Wg Wz Ww Wr Mh Mn Mm Mt Mk Ms Me Mp Mw Ml My Oa Od) H → va_S (fun a : Nat => s.heap.size ≤ a) s.heap H locs → ∀ ls : Array Slot, lv_has ls 10 [(0, .ref b), (1, .ref (q 0)), (2, .ref (q 14)), (3, .ref (q 23)), (4, .ref (q 24)), (5, .int x5)] → W p l e room_1 s m #[Value.ref b] below meth c H locs (25 + k + 1) (1025 + 6 * k + 6) (lw_Z below #[Value.ref b] s) (F0 m 848 ls []) := by
  obtain ⟨hx, hb, hr, hml, hown, hts0, hX, hbl, hlocks, hgv⟩ := id C0
  have hown : s.vm.findClass RL = some m.cls := hown
  have hts : ∀ w ∈ wsL_law, w.before #[Value.ref b] s = true := fun w h => hts0 w (wsL_law_in w h)
  have hbA : ¬ (fun a : Nat => s.heap.size ≤ a) b := Nat.not_le.mpr hbl
  have hcm : 25 + k + 1 ≤ 1058 := by omega
  have hsm : 1025 + 6 * k + 6 ≤ 9271 := by omega
  have hc0 : 25 + k ≤ 1058 := by omega
  have hs0 : 1025 + 6 * k ≤ 9271 := by omega
  intro H locs hP hS ls hl
  unfold fL_law_J848 at hf
  refine lv_goto (tgt := 2831) hx hb dL_law_848 (by decide) ?_
  exact law_J2831 hL C0 hlt D cI cJ cD sa q hq hqA hE hXe N k h5 k28 ih Tn Ta Fn Fa Ba Rn Ra Rb Rd Ua Wg Wz Ww Wr Mh Mn Mm Mt Mk Ms Me Mp Mw Ml My Oa Od x5 hx5 hf _ _ hP hS _ (lv_sub hl [0, 1, 2, 3, 4, 5] rfl)
set_option maxHeartbeats 4000000 in
set_option maxRecDepth 100000 in
theorem law_J795 {p : Program} {l : Launch} {e : Env} {s : State} {m : MethodId} {below : List Frame} {meth : Method} {c : Code} {b L : Nat} {xs : Nat → Int32} (hL : L ≤ 2560) (C0 : lw_At p s m meth c b L xs) (hlt : l.stackTraces = false) (D : va_G) (cI cJ cD : ClassId) (sa : Nat → Nat) (q : Nat → Nat) (hq : gInj q) (hqA : ∀ k, k < 25 → s.heap.size ≤ q k) (hE : gEv D cI cJ cD s) (hXe : gXe sa (fun a => s.heap.size ≤ a) s s.heap) (N : Nat) (k : Nat) (h5 : 5 * k + 5 ≤ L) (k28 : Int32 → (Nat → Int32) → Int32 → (Nat → Int32) → (Nat → Int32) → Int32 → (Nat → Int32) → (Nat → Int32) → (Nat → Int32) → (Nat → Int32) → Int32 → Int32 → Int32 → Int32 → Int32 → Int32 → Int32 → (Nat → Int32) → (Nat → Int32) → (Nat → Int32) → (Nat → Int32) → (Nat → Int32) → (Nat → Int32) → (Nat → Int32) → (Nat → Int64) → (Nat → Int64) → (Nat → UInt64) → Int32 → Option Int32) (ih : lawIH p l e s m below meth c b D cI cJ cD q k k28) (Tn : Int32) (Ta : (Nat → Int32)) (Fn : Int32) (Fa : (Nat → Int32)) (Ba : (Nat → Int32)) (Rn : Int32) (Ra : (Nat → Int32)) (Rb : (Nat → Int32)) (Rd : (Nat → Int32)) (Ua : (Nat → Int32)) (Wg : Int32) (Wz : Int32) (Ww : Int32) (Wr : Int32) (Mh : Int32) (Mn : Int32) (Mm : Int32) (Mt : (Nat → Int32)) (Mk : (Nat → Int32)) (Ms : (Nat → Int32)) (Me : (Nat → Int32)) (Mp : (Nat → Int32)) (Mw : (Nat → Int32)) (Ml : (Nat → Int32)) (My : (Nat → Int64)) (Oa : (Nat → Int64)) (Od : (Nat → UInt64)) (x5 : Int32) (hx5 : x5 = nI (5 * k)) (hf : fL_law_J795 N L xs k28 Tn Ta Fn Fa Ba Rn Ra Rb Rd Ua Wg Wz Ww Wr Mh Mn Mm Mt Mk Ms Me Mp Mw Ml My Oa Od x5 = some 1) : ∀ (H : Heap) (locs : List Loc), va_P D vwCl (w_0_1_2_3_4_5_6_7_8_9_10_11_12_13_14_15_16_17_18_19_20_21_22_23_24 q cI cJ cD Tn Ta Fn Fa Ba Rn Ra Rb Rd Ua Wg Wz Ww Wr Mh Mn Mm Mt Mk Ms Me Mp Mw Ml My Oa Od) H → va_S (fun a : Nat => s.heap.size ≤ a) s.heap H locs → ∀ ls : Array Slot, lv_has ls 10 [(0, .ref b), (1, .ref (q 0)), (2, .ref (q 14)), (3, .ref (q 23)), (4, .ref (q 24)), (5, .int x5)] → W p l e room_1 s m #[Value.ref b] below meth c H locs (25 + k) (1025 + 6 * k) (lw_Z below #[Value.ref b] s) (F0 m 795 ls []) := by
  obtain ⟨hx, hb, hr, hml, hown, hts0, hX, hbl, hlocks, hgv⟩ := id C0
  have hown : s.vm.findClass RL = some m.cls := hown
  have hts : ∀ w ∈ wsL_law, w.before #[Value.ref b] s = true := fun w h => hts0 w (wsL_law_in w h)
  have hbA : ¬ (fun a : Nat => s.heap.size ≤ a) b := Nat.not_le.mpr hbl
  have hcm : 25 + k + 1 ≤ 1058 := by omega
  have hsm : 1025 + 6 * k + 6 ≤ 9271 := by omega
  have hc0 : 25 + k ≤ 1058 := by omega
  have hs0 : 1025 + 6 * k ≤ 9271 := by omega
  intro H locs hP hS ls hl
  unfold fL_law_J795 at hf
  refine lv_aload_n hx hb dL_law_795 rfl (lv_at hl 1 rfl) ?_
  refine lv_aload_n hx hb dL_law_796 rfl (lv_at hl 0 rfl) ?_
  refine lv_iload hx hb dL_law_797 (lv_at hl 5 rfl) ?_
  refine lv_iconst (v := (1 : Int32)) hx hb dL_law_799 (by decide) ?_
  refine lv_iadd hx hb dL_law_800 ?_
  obtain ⟨g_1, hf⟩ := gd_some hf
  refine va_sld hx hb hX hbl hbA hS (inb_in g_1) dL_law_801 ?_
  refine lv_aload_n hx hb dL_law_802 rfl (lv_at hl 3 rfl) ?_
  obtain ⟨⟨r803, Oa803⟩, hc, hf⟩ := bn_some hf
  try dsimp only at hf
  refine g_call (mc := 1) (ms := 6) (ws' := (w_0_1_2_3_4_5_6_7_8_9_10_11_12_13_14_15_16_17_18_19_20_21_22_23_24 q cI cJ cD Tn Ta Fn Fa Ba Rn Ra Rb Rd Ua Wg Wz Ww Wr Mh Mn Mm Mt Mk Ms Me Mp Mw Ml My Oa803 Od)) (st1 := [.int r803]) hq [0, 1, 2, 3, 4, 5, 6, 7, 8, 9, 10, 11, 12, 13, 14, 15, 16, 17, 18, 19, 20, 21, 22, 23, 24] [0, 1, 2, 23] [.inl 0, .inl 1, .inl 2, .inr 3, .inr 4, .inr 5, .inr 6, .inr 7, .inr 8, .inr 9, .inr 10, .inr 11, .inr 12, .inr 13, .inr 14, .inr 15, .inr 16, .inr 17, .inr 18, .inr 19, .inr 20, .inr 21, .inr 22, .inl 3, .inr 24] (vx_runSW (As := [.ref (q 0), .int (xs ((x5 + (1 : Int32))).toNatClampNeg), .ref (q 23)]) (rest := []) ⟨hx, hb, hml, hown, hts⟩ (kL_letterAt l hlt D cI cJ cD sa q hq N Tn Ta Oa (xs ((x5 + (1 : Int32))).toNatClampNeg) r803 Oa803 hc) (vx_cwSW 3 hts gL_law_L_letterAt rfl rfl rfl (by decide +kernel) ⟨(Nat.le_of_ble_eq_true rfl), (Nat.le_of_ble_eq_true rfl)⟩) ⟨gPx_blind, fun U hU hW => ⟨rfl, by rw [hU]; exact hP.sub (ws' := (w_0_1_2_23 q cI cJ cD Tn Ta Oa)) [0, 1, 2, 23] rfl, gEv.warm hW hE, gXe.go hW hS (gMonoL hqA rfl) hXe hU⟩⟩ rfl rfl hl.1 rfl (lv_room (Nat.le_of_ble_eq_true rfl)) dL_law_803 ⟨hcm, hsm⟩) hP hS (gSubL hqA rfl) rfl rfl rfl rfl rfl (fun H locs hP hS => ?_)
  refine lv_istore (lv' := [(6, .int r803), (0, .ref b), (1, .ref (q 0)), (2, .ref (q 14)), (3, .ref (q 23)), (4, .ref (q 24)), (5, .int x5)]) hx hb dL_law_806 hl (by decide) rfl (fun ls hl => ?_)
  refine lv_aload_n hx hb dL_law_808 rfl (lv_at hl 3 rfl) ?_
  refine lv_aload_n hx hb dL_law_809 rfl (lv_at hl 1 rfl) ?_
  refine lv_iload hx hb dL_law_810 (lv_at hl 6 rfl) ?_
  refine lv_iconst (v := (1 : Int32)) hx hb dL_law_812 (by decide) ?_
  refine lv_iadd hx hb dL_law_813 ?_
  obtain ⟨g_2, hf⟩ := gd_some hf
  refine va_sld hx hb hX hbl hbA hS (inb_in g_2) dL_law_814 ?_
  obtain ⟨⟨r815, Mh815⟩, hc, hf⟩ := bn_some hf
  try dsimp only at hf
  refine g_call0 (ws' := (w_0_1_2_3_4_5_6_7_8_9_10_11_12_13_14_15_16_17_18_19_20_21_22_23_24 q cI cJ cD Tn Ta Fn Fa Ba Rn Ra Rb Rd Ua Wg Wz Ww Wr Mh815 Mn Mm Mt Mk Ms Me Mp Mw Ml My Oa803 Od)) (st1 := [.int r815]) hq [0, 1, 2, 3, 4, 5, 6, 7, 8, 9, 10, 11, 12, 13, 14, 15, 16, 17, 18, 19, 20, 21, 22, 23, 24] [14, 15] [.inr 0, .inr 1, .inr 2, .inr 3, .inr 4, .inr 5, .inr 6, .inr 7, .inr 8, .inr 9, .inr 10, .inr 11, .inr 12, .inr 13, .inl 0, .inl 1, .inr 16, .inr 17, .inr 18, .inr 19, .inr 20, .inr 21, .inr 22, .inr 23, .inr 24] (va_runV (As := [.int (xs ((x5 + (1 : Int32))).toNatClampNeg)]) (rest := []) ⟨hx, hb, hml, hown, hts⟩ (kX9_letterAt l D cI cJ cD q hq N Mh Mn Mm Mt (xs ((x5 + (1 : Int32))).toNatClampNeg) r815 Mh815 hc) (cwV 1 hts gL_law_X9_letterAt rfl rfl rfl (by decide +kernel) ⟨(Nat.le_of_ble_eq_true rfl), (Nat.le_of_ble_eq_true rfl)⟩) ⟨gP_blind, va_recv hE.1 hP (ci := 7) (q0 := 14) rfl rfl, fun U hU hW => ⟨rfl, by rw [hU]; exact hP.sub (ws' := (w_14_15 q cI cJ cD Mh Mn Mm Mt)) [14, 15] rfl, gEv.warm hW hE⟩⟩ rfl rfl hl.1 rfl (lv_room (Nat.le_of_ble_eq_true rfl)) dL_law_815 ⟨hcm, hsm⟩) hP hS (gSubL hqA rfl) rfl rfl rfl rfl rfl (fun H locs hP hS => ?_)
  refine lv_istore (lv' := [(7, .int r815), (6, .int r803), (0, .ref b), (1, .ref (q 0)), (2, .ref (q 14)), (3, .ref (q 23)), (4, .ref (q 24)), (5, .int x5)]) hx hb dL_law_818 hl (by decide) rfl (fun ls hl => ?_)
  refine lv_aload_n hx hb dL_law_820 rfl (lv_at hl 4 rfl) ?_
  obtain ⟨r821, hc, hf⟩ := bn_some hf
  try dsimp only at hf
  refine g_call0 (ws' := (w_0_1_2_3_4_5_6_7_8_9_10_11_12_13_14_15_16_17_18_19_20_21_22_23_24 q cI cJ cD Tn Ta Fn Fa Ba Rn Ra Rb Rd Ua Wg Wz Ww Wr Mh815 Mn Mm Mt Mk Ms Me Mp Mw Ml My Oa803 Od)) (st1 := [.int r821]) hq [0, 1, 2, 3, 4, 5, 6, 7, 8, 9, 10, 11, 12, 13, 14, 15, 16, 17, 18, 19, 20, 21, 22, 23, 24] [14] [.inr 0, .inr 1, .inr 2, .inr 3, .inr 4, .inr 5, .inr 6, .inr 7, .inr 8, .inr 9, .inr 10, .inr 11, .inr 12, .inr 13, .inl 0, .inr 15, .inr 16, .inr 17, .inr 18, .inr 19, .inr 20, .inr 21, .inr 22, .inr 23, .inr 24] (va_runV (As := []) (rest := []) ⟨hx, hb, hml, hown, hts⟩ (kX9_thrown l D cI cJ cD q hq N Mh815 Mn Mm r821 hc) (cwV 0 hts gL_law_X9_thrown rfl rfl rfl (by decide +kernel) ⟨(Nat.le_of_ble_eq_true rfl), (Nat.le_of_ble_eq_true rfl)⟩) ⟨gP_blind, va_recv hE.1 hP (ci := 7) (q0 := 14) rfl rfl, fun U hU hW => ⟨rfl, by rw [hU]; exact hP.sub (ws' := (w_14 q cI cJ cD Mh815 Mn Mm)) [14] rfl, gEv.warm hW hE⟩⟩ rfl rfl hl.1 rfl (lv_room (Nat.le_of_ble_eq_true rfl)) dL_law_821 ⟨hcm, hsm⟩) hP hS (gSubL hqA rfl) rfl rfl rfl rfl rfl (fun H locs hP hS => ?_)
  refine lv_iload hx hb dL_law_824 (lv_at hl 1 rfl) ?_
  refine lv_icmp_eq (tgt := 831) hx hb dL_law_826 (by decide) (fun c_3 => ?_) (fun c_3 => ?_)
  · have hf := (if_pos c_3).symm.trans hf
    refine lv_iload hx hb dL_law_831 (lv_at hl 1 rfl) ?_
    refine lv_if_ne (tgt := 848) hx hb dL_law_833 (by decide) (fun c_4 => ?_) (fun c_4 => ?_)
    · have hf := (if_neg c_4).symm.trans hf
      exact law_J848 hL C0 hlt D cI cJ cD sa q hq hqA hE hXe N k h5 k28 ih Tn Ta Fn Fa Ba Rn Ra Rb Rd Ua Wg Wz Ww Wr Mh815 Mn Mm Mt Mk Ms Me Mp Mw Ml My Oa803 Od x5 hx5 hf _ _ hP hS _ (lv_sub hl [2, 3, 4, 5, 6, 7] rfl)
    · have hf := (if_pos c_4).symm.trans hf
      refine lv_aload_n hx hb dL_law_836 rfl (lv_at hl 5 rfl) ?_
      refine lv_iconst (v := (0 : Int32)) hx hb dL_law_837 (by decide) ?_
      obtain ⟨g_5, hf⟩ := gd_some hf
      refine va_lald hx hb hE.1 hP 23 1 rfl rfl (inb_in g_5) dL_law_838 ?_
      refine lv_iload hx hb dL_law_839 (lv_at hl 0 rfl) ?_
      refine lv_i2l (v := (r815).toInt64) hx hb dL_law_841 rfl ?_
      refine W.lcmp hx hb dL_law_842 ?_
      refine lv_if_eq (tgt := 848) hx hb dL_law_843 (by decide) (fun c_6 => ?_) (fun c_6 => ?_)
      · have hf := (if_pos c_6).symm.trans hf
        exact law_J848 hL C0 hlt D cI cJ cD sa q hq hqA hE hXe N k h5 k28 ih Tn Ta Fn Fa Ba Rn Ra Rb Rd Ua Wg Wz Ww Wr Mh815 Mn Mm Mt Mk Ms Me Mp Mw Ml My Oa803 Od x5 hx5 hf _ _ hP hS _ (lv_sub hl [2, 3, 4, 5, 6, 7] rfl)
      · have hf := (if_neg c_6).symm.trans hf
        exact law_J846 hL C0 hlt D cI cJ cD sa q hq hqA hE hXe N k (by omega) Tn Ta Fn Fa Ba Rn Ra Rb Rd Ua Wg Wz Ww Wr Mh815 Mn Mm Mt Mk Ms Me Mp Mw Ml My Oa803 Od hf _ _ hP hS _ (lv_sub hl [] rfl)
  · have hf := (if_neg c_3).symm.trans hf
    exact law_J829 hL C0 hlt D cI cJ cD sa q hq hqA hE hXe N k (by omega) Tn Ta Fn Fa Ba Rn Ra Rb Rd Ua Wg Wz Ww Wr Mh815 Mn Mm Mt Mk Ms Me Mp Mw Ml My Oa803 Od hf _ _ hP hS _ (lv_sub hl [] rfl)
set_option maxHeartbeats 4000000 in
set_option maxRecDepth 100000 in
theorem law_J940 {p : Program} {l : Launch} {e : Env} {s : State} {m : MethodId} {below : List Frame} {meth : Method} {c : Code} {b L : Nat} {xs : Nat → Int32} (hL : L ≤ 2560) (C0 : lw_At p s m meth c b L xs) (hlt : l.stackTraces = false) (D : va_G) (cI cJ cD : ClassId) (sa : Nat → Nat) (q : Nat → Nat) (hq : gInj q) (hqA : ∀ k, k < 25 → s.heap.size ≤ q k) (hE : gEv D cI cJ cD s) (hXe : gXe sa (fun a => s.heap.size ≤ a) s s.heap) (N : Nat) (k : Nat) (h5 : 5 * k + 5 ≤ L) (k28 : Int32 → (Nat → Int32) → Int32 → (Nat → Int32) → (Nat → Int32) → Int32 → (Nat → Int32) → (Nat → Int32) → (Nat → Int32) → (Nat → Int32) → Int32 → Int32 → Int32 → Int32 → Int32 → Int32 → Int32 → (Nat → Int32) → (Nat → Int32) → (Nat → Int32) → (Nat → Int32) → (Nat → Int32) → (Nat → Int32) → (Nat → Int32) → (Nat → Int64) → (Nat → Int64) → (Nat → UInt64) → Int32 → Option Int32) (ih : lawIH p l e s m below meth c b D cI cJ cD q k k28) (Tn : Int32) (Ta : (Nat → Int32)) (Fn : Int32) (Fa : (Nat → Int32)) (Ba : (Nat → Int32)) (Rn : Int32) (Ra : (Nat → Int32)) (Rb : (Nat → Int32)) (Rd : (Nat → Int32)) (Ua : (Nat → Int32)) (Wg : Int32) (Wz : Int32) (Ww : Int32) (Wr : Int32) (Mh : Int32) (Mn : Int32) (Mm : Int32) (Mt : (Nat → Int32)) (Mk : (Nat → Int32)) (Ms : (Nat → Int32)) (Me : (Nat → Int32)) (Mp : (Nat → Int32)) (Mw : (Nat → Int32)) (Ml : (Nat → Int32)) (My : (Nat → Int64)) (Oa : (Nat → Int64)) (Od : (Nat → UInt64)) (x5 : Int32) (hx5 : x5 = nI (5 * k)) (hf : fL_law_J940 N L xs k28 Tn Ta Fn Fa Ba Rn Ra Rb Rd Ua Wg Wz Ww Wr Mh Mn Mm Mt Mk Ms Me Mp Mw Ml My Oa Od x5 = some 1) : ∀ (H : Heap) (locs : List Loc), va_P D vwCl (w_0_1_2_3_4_5_6_7_8_9_10_11_12_13_14_15_16_17_18_19_20_21_22_23_24 q cI cJ cD Tn Ta Fn Fa Ba Rn Ra Rb Rd Ua Wg Wz Ww Wr Mh Mn Mm Mt Mk Ms Me Mp Mw Ml My Oa Od) H → va_S (fun a : Nat => s.heap.size ≤ a) s.heap H locs → ∀ ls : Array Slot, lv_has ls 10 [(0, .ref b), (1, .ref (q 0)), (2, .ref (q 14)), (3, .ref (q 23)), (4, .ref (q 24)), (5, .int x5)] → W p l e room_1 s m #[Value.ref b] below meth c H locs (25 + k + 1) (1025 + 6 * k + 6) (lw_Z below #[Value.ref b] s) (F0 m 940 ls []) := by
  obtain ⟨hx, hb, hr, hml, hown, hts0, hX, hbl, hlocks, hgv⟩ := id C0
  have hown : s.vm.findClass RL = some m.cls := hown
  have hts : ∀ w ∈ wsL_law, w.before #[Value.ref b] s = true := fun w h => hts0 w (wsL_law_in w h)
  have hbA : ¬ (fun a : Nat => s.heap.size ≤ a) b := Nat.not_le.mpr hbl
  have hcm : 25 + k + 1 ≤ 1058 := by omega
  have hsm : 1025 + 6 * k + 6 ≤ 9271 := by omega
  have hc0 : 25 + k ≤ 1058 := by omega
  have hs0 : 1025 + 6 * k ≤ 9271 := by omega
  intro H locs hP hS ls hl
  unfold fL_law_J940 at hf
  refine lv_goto (tgt := 2831) hx hb dL_law_940 (by decide) ?_
  exact law_J2831 hL C0 hlt D cI cJ cD sa q hq hqA hE hXe N k h5 k28 ih Tn Ta Fn Fa Ba Rn Ra Rb Rd Ua Wg Wz Ww Wr Mh Mn Mm Mt Mk Ms Me Mp Mw Ml My Oa Od x5 hx5 hf _ _ hP hS _ (lv_sub hl [0, 1, 2, 3, 4, 5] rfl)
set_option maxHeartbeats 4000000 in
set_option maxRecDepth 100000 in
theorem law_J851 {p : Program} {l : Launch} {e : Env} {s : State} {m : MethodId} {below : List Frame} {meth : Method} {c : Code} {b L : Nat} {xs : Nat → Int32} (hL : L ≤ 2560) (C0 : lw_At p s m meth c b L xs) (hlt : l.stackTraces = false) (D : va_G) (cI cJ cD : ClassId) (sa : Nat → Nat) (q : Nat → Nat) (hq : gInj q) (hqA : ∀ k, k < 25 → s.heap.size ≤ q k) (hE : gEv D cI cJ cD s) (hXe : gXe sa (fun a => s.heap.size ≤ a) s s.heap) (N : Nat) (k : Nat) (h5 : 5 * k + 5 ≤ L) (k28 : Int32 → (Nat → Int32) → Int32 → (Nat → Int32) → (Nat → Int32) → Int32 → (Nat → Int32) → (Nat → Int32) → (Nat → Int32) → (Nat → Int32) → Int32 → Int32 → Int32 → Int32 → Int32 → Int32 → Int32 → (Nat → Int32) → (Nat → Int32) → (Nat → Int32) → (Nat → Int32) → (Nat → Int32) → (Nat → Int32) → (Nat → Int32) → (Nat → Int64) → (Nat → Int64) → (Nat → UInt64) → Int32 → Option Int32) (ih : lawIH p l e s m below meth c b D cI cJ cD q k k28) (Tn : Int32) (Ta : (Nat → Int32)) (Fn : Int32) (Fa : (Nat → Int32)) (Ba : (Nat → Int32)) (Rn : Int32) (Ra : (Nat → Int32)) (Rb : (Nat → Int32)) (Rd : (Nat → Int32)) (Ua : (Nat → Int32)) (Wg : Int32) (Wz : Int32) (Ww : Int32) (Wr : Int32) (Mh : Int32) (Mn : Int32) (Mm : Int32) (Mt : (Nat → Int32)) (Mk : (Nat → Int32)) (Ms : (Nat → Int32)) (Me : (Nat → Int32)) (Mp : (Nat → Int32)) (Mw : (Nat → Int32)) (Ml : (Nat → Int32)) (My : (Nat → Int64)) (Oa : (Nat → Int64)) (Od : (Nat → UInt64)) (x5 : Int32) (hx5 : x5 = nI (5 * k)) (hf : fL_law_J851 N L xs k28 Tn Ta Fn Fa Ba Rn Ra Rb Rd Ua Wg Wz Ww Wr Mh Mn Mm Mt Mk Ms Me Mp Mw Ml My Oa Od x5 = some 1) : ∀ (H : Heap) (locs : List Loc), va_P D vwCl (w_0_1_2_3_4_5_6_7_8_9_10_11_12_13_14_15_16_17_18_19_20_21_22_23_24 q cI cJ cD Tn Ta Fn Fa Ba Rn Ra Rb Rd Ua Wg Wz Ww Wr Mh Mn Mm Mt Mk Ms Me Mp Mw Ml My Oa Od) H → va_S (fun a : Nat => s.heap.size ≤ a) s.heap H locs → ∀ ls : Array Slot, lv_has ls 10 [(0, .ref b), (1, .ref (q 0)), (2, .ref (q 14)), (3, .ref (q 23)), (4, .ref (q 24)), (5, .int x5)] → W p l e room_1 s m #[Value.ref b] below meth c H locs (25 + k) (1025 + 6 * k) (lw_Z below #[Value.ref b] s) (F0 m 851 ls []) := by
  obtain ⟨hx, hb, hr, hml, hown, hts0, hX, hbl, hlocks, hgv⟩ := id C0
  have hown : s.vm.findClass RL = some m.cls := hown
  have hts : ∀ w ∈ wsL_law, w.before #[Value.ref b] s = true := fun w h => hts0 w (wsL_law_in w h)
  have hbA : ¬ (fun a : Nat => s.heap.size ≤ a) b := Nat.not_le.mpr hbl
  have hcm : 25 + k + 1 ≤ 1058 := by omega
  have hsm : 1025 + 6 * k + 6 ≤ 9271 := by omega
  have hc0 : 25 + k ≤ 1058 := by omega
  have hs0 : 1025 + 6 * k ≤ 9271 := by omega
  intro H locs hP hS ls hl
  unfold fL_law_J851 at hf
  refine lv_aload_n hx hb dL_law_851 rfl (lv_at hl 1 rfl) ?_
  refine lv_aload_n hx hb dL_law_852 rfl (lv_at hl 0 rfl) ?_
  refine lv_iload hx hb dL_law_853 (lv_at hl 5 rfl) ?_
  refine lv_iconst (v := (1 : Int32)) hx hb dL_law_855 (by decide) ?_
  refine lv_iadd hx hb dL_law_856 ?_
  obtain ⟨g_1, hf⟩ := gd_some hf
  refine va_sld hx hb hX hbl hbA hS (inb_in g_1) dL_law_857 ?_
  refine lv_aload_n hx hb dL_law_858 rfl (lv_at hl 0 rfl) ?_
  refine lv_iload hx hb dL_law_859 (lv_at hl 5 rfl) ?_
  refine lv_iconst (v := (2 : Int32)) hx hb dL_law_861 (by decide) ?_
  refine lv_iadd hx hb dL_law_862 ?_
  obtain ⟨g_2, hf⟩ := gd_some hf
  refine va_sld hx hb hX hbl hbA hS (inb_in g_2) dL_law_863 ?_
  refine lv_aload_n hx hb dL_law_864 rfl (lv_at hl 0 rfl) ?_
  refine lv_iload hx hb dL_law_865 (lv_at hl 5 rfl) ?_
  refine lv_iconst (v := (3 : Int32)) hx hb dL_law_867 (by decide) ?_
  refine lv_iadd hx hb dL_law_868 ?_
  obtain ⟨g_3, hf⟩ := gd_some hf
  refine va_sld hx hb hX hbl hbA hS (inb_in g_3) dL_law_869 ?_
  refine lv_aload_n hx hb dL_law_870 rfl (lv_at hl 0 rfl) ?_
  refine lv_iload hx hb dL_law_871 (lv_at hl 5 rfl) ?_
  refine lv_iconst (v := (4 : Int32)) hx hb dL_law_873 (by decide) ?_
  refine lv_iadd hx hb dL_law_874 ?_
  obtain ⟨g_4, hf⟩ := gd_some hf
  refine va_sld hx hb hX hbl hbA hS (inb_in g_4) dL_law_875 ?_
  refine lv_aload_n hx hb dL_law_876 rfl (lv_at hl 3 rfl) ?_
  obtain ⟨⟨r877, Oa877⟩, hc, hf⟩ := bn_some hf
  try dsimp only at hf
  refine g_call (mc := 1) (ms := 6) (ws' := (w_0_1_2_3_4_5_6_7_8_9_10_11_12_13_14_15_16_17_18_19_20_21_22_23_24 q cI cJ cD Tn Ta Fn Fa Ba Rn Ra Rb Rd Ua Wg Wz Ww Wr Mh Mn Mm Mt Mk Ms Me Mp Mw Ml My Oa877 Od)) (st1 := [.int r877]) hq [0, 1, 2, 3, 4, 5, 6, 7, 8, 9, 10, 11, 12, 13, 14, 15, 16, 17, 18, 19, 20, 21, 22, 23, 24] [0, 1, 2, 23] [.inl 0, .inl 1, .inl 2, .inr 3, .inr 4, .inr 5, .inr 6, .inr 7, .inr 8, .inr 9, .inr 10, .inr 11, .inr 12, .inr 13, .inr 14, .inr 15, .inr 16, .inr 17, .inr 18, .inr 19, .inr 20, .inr 21, .inr 22, .inl 3, .inr 24] (vx_runSW (As := [.ref (q 0), .int (xs ((x5 + (1 : Int32))).toNatClampNeg), .int (xs ((x5 + (2 : Int32))).toNatClampNeg), .int (xs ((x5 + (3 : Int32))).toNatClampNeg), .int (xs ((x5 + (4 : Int32))).toNatClampNeg), .ref (q 23)]) (rest := []) ⟨hx, hb, hml, hown, hts⟩ (kL_compare l hlt D cI cJ cD sa q hq N Tn Ta Oa (xs ((x5 + (1 : Int32))).toNatClampNeg) (xs ((x5 + (2 : Int32))).toNatClampNeg) (xs ((x5 + (3 : Int32))).toNatClampNeg) (xs ((x5 + (4 : Int32))).toNatClampNeg) r877 Oa877 hc) (vx_cwSW 6 hts gL_law_L_compare rfl rfl rfl (by decide +kernel) ⟨(Nat.le_of_ble_eq_true rfl), (Nat.le_of_ble_eq_true rfl)⟩) ⟨gPx_blind, fun U hU hW => ⟨rfl, by rw [hU]; exact hP.sub (ws' := (w_0_1_2_23 q cI cJ cD Tn Ta Oa)) [0, 1, 2, 23] rfl, gEv.warm hW hE, gXe.go hW hS (gMonoL hqA rfl) hXe hU⟩⟩ rfl rfl hl.1 rfl (lv_room (Nat.le_of_ble_eq_true rfl)) dL_law_877 ⟨hcm, hsm⟩) hP hS (gSubL hqA rfl) rfl rfl rfl rfl rfl (fun H locs hP hS => ?_)
  refine lv_istore (lv' := [(6, .int r877), (0, .ref b), (1, .ref (q 0)), (2, .ref (q 14)), (3, .ref (q 23)), (4, .ref (q 24)), (5, .int x5)]) hx hb dL_law_880 hl (by decide) rfl (fun ls hl => ?_)
  refine lv_aload_n hx hb dL_law_882 rfl (lv_at hl 3 rfl) ?_
  refine lv_aload_n hx hb dL_law_883 rfl (lv_at hl 1 rfl) ?_
  refine lv_iload hx hb dL_law_884 (lv_at hl 6 rfl) ?_
  refine lv_iconst (v := (1 : Int32)) hx hb dL_law_886 (by decide) ?_
  refine lv_iadd hx hb dL_law_887 ?_
  obtain ⟨g_5, hf⟩ := gd_some hf
  refine va_sld hx hb hX hbl hbA hS (inb_in g_5) dL_law_888 ?_
  refine lv_aload_n hx hb dL_law_889 rfl (lv_at hl 1 rfl) ?_
  refine lv_iload hx hb dL_law_890 (lv_at hl 6 rfl) ?_
  refine lv_iconst (v := (2 : Int32)) hx hb dL_law_892 (by decide) ?_
  refine lv_iadd hx hb dL_law_893 ?_
  obtain ⟨g_6, hf⟩ := gd_some hf
  refine va_sld hx hb hX hbl hbA hS (inb_in g_6) dL_law_894 ?_
  refine lv_aload_n hx hb dL_law_895 rfl (lv_at hl 1 rfl) ?_
  refine lv_iload hx hb dL_law_896 (lv_at hl 6 rfl) ?_
  refine lv_iconst (v := (3 : Int32)) hx hb dL_law_898 (by decide) ?_
  refine lv_iadd hx hb dL_law_899 ?_
  obtain ⟨g_7, hf⟩ := gd_some hf
  refine va_sld hx hb hX hbl hbA hS (inb_in g_7) dL_law_900 ?_
  refine lv_aload_n hx hb dL_law_901 rfl (lv_at hl 1 rfl) ?_
  refine lv_iload hx hb dL_law_902 (lv_at hl 6 rfl) ?_
  refine lv_iconst (v := (4 : Int32)) hx hb dL_law_904 (by decide) ?_
  refine lv_iadd hx hb dL_law_905 ?_
  obtain ⟨g_8, hf⟩ := gd_some hf
  refine va_sld hx hb hX hbl hbA hS (inb_in g_8) dL_law_906 ?_
  obtain ⟨⟨r907, Mh907⟩, hc, hf⟩ := bn_some hf
  try dsimp only at hf
  refine g_call0 (ws' := (w_0_1_2_3_4_5_6_7_8_9_10_11_12_13_14_15_16_17_18_19_20_21_22_23_24 q cI cJ cD Tn Ta Fn Fa Ba Rn Ra Rb Rd Ua Wg Wz Ww Wr Mh907 Mn Mm Mt Mk Ms Me Mp Mw Ml My Oa877 Od)) (st1 := [.int r907]) hq [0, 1, 2, 3, 4, 5, 6, 7, 8, 9, 10, 11, 12, 13, 14, 15, 16, 17, 18, 19, 20, 21, 22, 23, 24] [14, 15] [.inr 0, .inr 1, .inr 2, .inr 3, .inr 4, .inr 5, .inr 6, .inr 7, .inr 8, .inr 9, .inr 10, .inr 11, .inr 12, .inr 13, .inl 0, .inl 1, .inr 16, .inr 17, .inr 18, .inr 19, .inr 20, .inr 21, .inr 22, .inr 23, .inr 24] (va_runV (As := [.int (xs ((x5 + (1 : Int32))).toNatClampNeg), .int (xs ((x5 + (2 : Int32))).toNatClampNeg), .int (xs ((x5 + (3 : Int32))).toNatClampNeg), .int (xs ((x5 + (4 : Int32))).toNatClampNeg)]) (rest := []) ⟨hx, hb, hml, hown, hts⟩ (kX9_compare l D cI cJ cD q hq N Mh Mn Mm Mt (xs ((x5 + (1 : Int32))).toNatClampNeg) (xs ((x5 + (2 : Int32))).toNatClampNeg) (xs ((x5 + (3 : Int32))).toNatClampNeg) (xs ((x5 + (4 : Int32))).toNatClampNeg) r907 Mh907 hc) (cwV 4 hts gL_law_X9_compare rfl rfl rfl (by decide +kernel) ⟨(Nat.le_of_ble_eq_true rfl), (Nat.le_of_ble_eq_true rfl)⟩) ⟨gP_blind, va_recv hE.1 hP (ci := 7) (q0 := 14) rfl rfl, fun U hU hW => ⟨rfl, by rw [hU]; exact hP.sub (ws' := (w_14_15 q cI cJ cD Mh Mn Mm Mt)) [14, 15] rfl, gEv.warm hW hE⟩⟩ rfl rfl hl.1 rfl (lv_room (Nat.le_of_ble_eq_true rfl)) dL_law_907 ⟨hcm, hsm⟩) hP hS (gSubL hqA rfl) rfl rfl rfl rfl rfl (fun H locs hP hS => ?_)
  refine lv_istore (lv' := [(7, .int r907), (6, .int r877), (0, .ref b), (1, .ref (q 0)), (2, .ref (q 14)), (3, .ref (q 23)), (4, .ref (q 24)), (5, .int x5)]) hx hb dL_law_910 hl (by decide) rfl (fun ls hl => ?_)
  refine lv_aload_n hx hb dL_law_912 rfl (lv_at hl 4 rfl) ?_
  obtain ⟨r913, hc, hf⟩ := bn_some hf
  try dsimp only at hf
  refine g_call0 (ws' := (w_0_1_2_3_4_5_6_7_8_9_10_11_12_13_14_15_16_17_18_19_20_21_22_23_24 q cI cJ cD Tn Ta Fn Fa Ba Rn Ra Rb Rd Ua Wg Wz Ww Wr Mh907 Mn Mm Mt Mk Ms Me Mp Mw Ml My Oa877 Od)) (st1 := [.int r913]) hq [0, 1, 2, 3, 4, 5, 6, 7, 8, 9, 10, 11, 12, 13, 14, 15, 16, 17, 18, 19, 20, 21, 22, 23, 24] [14] [.inr 0, .inr 1, .inr 2, .inr 3, .inr 4, .inr 5, .inr 6, .inr 7, .inr 8, .inr 9, .inr 10, .inr 11, .inr 12, .inr 13, .inl 0, .inr 15, .inr 16, .inr 17, .inr 18, .inr 19, .inr 20, .inr 21, .inr 22, .inr 23, .inr 24] (va_runV (As := []) (rest := []) ⟨hx, hb, hml, hown, hts⟩ (kX9_thrown l D cI cJ cD q hq N Mh907 Mn Mm r913 hc) (cwV 0 hts gL_law_X9_thrown rfl rfl rfl (by decide +kernel) ⟨(Nat.le_of_ble_eq_true rfl), (Nat.le_of_ble_eq_true rfl)⟩) ⟨gP_blind, va_recv hE.1 hP (ci := 7) (q0 := 14) rfl rfl, fun U hU hW => ⟨rfl, by rw [hU]; exact hP.sub (ws' := (w_14 q cI cJ cD Mh907 Mn Mm)) [14] rfl, gEv.warm hW hE⟩⟩ rfl rfl hl.1 rfl (lv_room (Nat.le_of_ble_eq_true rfl)) dL_law_913 ⟨hcm, hsm⟩) hP hS (gSubL hqA rfl) rfl rfl rfl rfl rfl (fun H locs hP hS => ?_)
  refine lv_iload hx hb dL_law_916 (lv_at hl 1 rfl) ?_
  refine lv_icmp_eq (tgt := 923) hx hb dL_law_918 (by decide) (fun c_9 => ?_) (fun c_9 => ?_)
  · have hf := (if_pos c_9).symm.trans hf
    refine lv_iload hx hb dL_law_923 (lv_at hl 1 rfl) ?_
    refine lv_if_ne (tgt := 940) hx hb dL_law_925 (by decide) (fun c_10 => ?_) (fun c_10 => ?_)
    · have hf := (if_neg c_10).symm.trans hf
      exact law_J940 hL C0 hlt D cI cJ cD sa q hq hqA hE hXe N k h5 k28 ih Tn Ta Fn Fa Ba Rn Ra Rb Rd Ua Wg Wz Ww Wr Mh907 Mn Mm Mt Mk Ms Me Mp Mw Ml My Oa877 Od x5 hx5 hf _ _ hP hS _ (lv_sub hl [2, 3, 4, 5, 6, 7] rfl)
    · have hf := (if_pos c_10).symm.trans hf
      refine lv_aload_n hx hb dL_law_928 rfl (lv_at hl 5 rfl) ?_
      refine lv_iconst (v := (0 : Int32)) hx hb dL_law_929 (by decide) ?_
      obtain ⟨g_11, hf⟩ := gd_some hf
      refine va_lald hx hb hE.1 hP 23 1 rfl rfl (inb_in g_11) dL_law_930 ?_
      refine lv_iload hx hb dL_law_931 (lv_at hl 0 rfl) ?_
      refine lv_i2l (v := (r907).toInt64) hx hb dL_law_933 rfl ?_
      refine W.lcmp hx hb dL_law_934 ?_
      refine lv_if_eq (tgt := 940) hx hb dL_law_935 (by decide) (fun c_12 => ?_) (fun c_12 => ?_)
      · have hf := (if_pos c_12).symm.trans hf
        exact law_J940 hL C0 hlt D cI cJ cD sa q hq hqA hE hXe N k h5 k28 ih Tn Ta Fn Fa Ba Rn Ra Rb Rd Ua Wg Wz Ww Wr Mh907 Mn Mm Mt Mk Ms Me Mp Mw Ml My Oa877 Od x5 hx5 hf _ _ hP hS _ (lv_sub hl [2, 3, 4, 5, 6, 7] rfl)
      · have hf := (if_neg c_12).symm.trans hf
        exact law_J938 hL C0 hlt D cI cJ cD sa q hq hqA hE hXe N k (by omega) Tn Ta Fn Fa Ba Rn Ra Rb Rd Ua Wg Wz Ww Wr Mh907 Mn Mm Mt Mk Ms Me Mp Mw Ml My Oa877 Od hf _ _ hP hS _ (lv_sub hl [] rfl)
  · have hf := (if_neg c_9).symm.trans hf
    exact law_J921 hL C0 hlt D cI cJ cD sa q hq hqA hE hXe N k (by omega) Tn Ta Fn Fa Ba Rn Ra Rb Rd Ua Wg Wz Ww Wr Mh907 Mn Mm Mt Mk Ms Me Mp Mw Ml My Oa877 Od hf _ _ hP hS _ (lv_sub hl [] rfl)
set_option maxHeartbeats 4000000 in
set_option maxRecDepth 100000 in
theorem law_J1008 {p : Program} {l : Launch} {e : Env} {s : State} {m : MethodId} {below : List Frame} {meth : Method} {c : Code} {b L : Nat} {xs : Nat → Int32} (hL : L ≤ 2560) (C0 : lw_At p s m meth c b L xs) (hlt : l.stackTraces = false) (D : va_G) (cI cJ cD : ClassId) (sa : Nat → Nat) (q : Nat → Nat) (hq : gInj q) (hqA : ∀ k, k < 25 → s.heap.size ≤ q k) (hE : gEv D cI cJ cD s) (hXe : gXe sa (fun a => s.heap.size ≤ a) s s.heap) (N : Nat) (k : Nat) (h5 : 5 * k + 5 ≤ L) (k28 : Int32 → (Nat → Int32) → Int32 → (Nat → Int32) → (Nat → Int32) → Int32 → (Nat → Int32) → (Nat → Int32) → (Nat → Int32) → (Nat → Int32) → Int32 → Int32 → Int32 → Int32 → Int32 → Int32 → Int32 → (Nat → Int32) → (Nat → Int32) → (Nat → Int32) → (Nat → Int32) → (Nat → Int32) → (Nat → Int32) → (Nat → Int32) → (Nat → Int64) → (Nat → Int64) → (Nat → UInt64) → Int32 → Option Int32) (ih : lawIH p l e s m below meth c b D cI cJ cD q k k28) (Tn : Int32) (Ta : (Nat → Int32)) (Fn : Int32) (Fa : (Nat → Int32)) (Ba : (Nat → Int32)) (Rn : Int32) (Ra : (Nat → Int32)) (Rb : (Nat → Int32)) (Rd : (Nat → Int32)) (Ua : (Nat → Int32)) (Wg : Int32) (Wz : Int32) (Ww : Int32) (Wr : Int32) (Mh : Int32) (Mn : Int32) (Mm : Int32) (Mt : (Nat → Int32)) (Mk : (Nat → Int32)) (Ms : (Nat → Int32)) (Me : (Nat → Int32)) (Mp : (Nat → Int32)) (Mw : (Nat → Int32)) (Ml : (Nat → Int32)) (My : (Nat → Int64)) (Oa : (Nat → Int64)) (Od : (Nat → UInt64)) (x5 : Int32) (hx5 : x5 = nI (5 * k)) (hf : fL_law_J1008 N L xs k28 Tn Ta Fn Fa Ba Rn Ra Rb Rd Ua Wg Wz Ww Wr Mh Mn Mm Mt Mk Ms Me Mp Mw Ml My Oa Od x5 = some 1) : ∀ (H : Heap) (locs : List Loc), va_P D vwCl (w_0_1_2_3_4_5_6_7_8_9_10_11_12_13_14_15_16_17_18_19_20_21_22_23_24 q cI cJ cD Tn Ta Fn Fa Ba Rn Ra Rb Rd Ua Wg Wz Ww Wr Mh Mn Mm Mt Mk Ms Me Mp Mw Ml My Oa Od) H → va_S (fun a : Nat => s.heap.size ≤ a) s.heap H locs → ∀ ls : Array Slot, lv_has ls 10 [(0, .ref b), (1, .ref (q 0)), (2, .ref (q 14)), (3, .ref (q 23)), (4, .ref (q 24)), (5, .int x5)] → W p l e room_1 s m #[Value.ref b] below meth c H locs (25 + k + 1) (1025 + 6 * k + 6) (lw_Z below #[Value.ref b] s) (F0 m 1008 ls []) := by
  obtain ⟨hx, hb, hr, hml, hown, hts0, hX, hbl, hlocks, hgv⟩ := id C0
  have hown : s.vm.findClass RL = some m.cls := hown
  have hts : ∀ w ∈ wsL_law, w.before #[Value.ref b] s = true := fun w h => hts0 w (wsL_law_in w h)
  have hbA : ¬ (fun a : Nat => s.heap.size ≤ a) b := Nat.not_le.mpr hbl
  have hcm : 25 + k + 1 ≤ 1058 := by omega
  have hsm : 1025 + 6 * k + 6 ≤ 9271 := by omega
  have hc0 : 25 + k ≤ 1058 := by omega
  have hs0 : 1025 + 6 * k ≤ 9271 := by omega
  intro H locs hP hS ls hl
  unfold fL_law_J1008 at hf
  refine lv_goto (tgt := 2831) hx hb dL_law_1008 (by decide) ?_
  exact law_J2831 hL C0 hlt D cI cJ cD sa q hq hqA hE hXe N k h5 k28 ih Tn Ta Fn Fa Ba Rn Ra Rb Rd Ua Wg Wz Ww Wr Mh Mn Mm Mt Mk Ms Me Mp Mw Ml My Oa Od x5 hx5 hf _ _ hP hS _ (lv_sub hl [0, 1, 2, 3, 4, 5] rfl)
set_option maxHeartbeats 4000000 in
set_option maxRecDepth 100000 in
theorem law_J943 {p : Program} {l : Launch} {e : Env} {s : State} {m : MethodId} {below : List Frame} {meth : Method} {c : Code} {b L : Nat} {xs : Nat → Int32} (hL : L ≤ 2560) (C0 : lw_At p s m meth c b L xs) (hlt : l.stackTraces = false) (D : va_G) (cI cJ cD : ClassId) (sa : Nat → Nat) (q : Nat → Nat) (hq : gInj q) (hqA : ∀ k, k < 25 → s.heap.size ≤ q k) (hE : gEv D cI cJ cD s) (hXe : gXe sa (fun a => s.heap.size ≤ a) s s.heap) (N : Nat) (k : Nat) (h5 : 5 * k + 5 ≤ L) (k28 : Int32 → (Nat → Int32) → Int32 → (Nat → Int32) → (Nat → Int32) → Int32 → (Nat → Int32) → (Nat → Int32) → (Nat → Int32) → (Nat → Int32) → Int32 → Int32 → Int32 → Int32 → Int32 → Int32 → Int32 → (Nat → Int32) → (Nat → Int32) → (Nat → Int32) → (Nat → Int32) → (Nat → Int32) → (Nat → Int32) → (Nat → Int32) → (Nat → Int64) → (Nat → Int64) → (Nat → UInt64) → Int32 → Option Int32) (ih : lawIH p l e s m below meth c b D cI cJ cD q k k28) (Tn : Int32) (Ta : (Nat → Int32)) (Fn : Int32) (Fa : (Nat → Int32)) (Ba : (Nat → Int32)) (Rn : Int32) (Ra : (Nat → Int32)) (Rb : (Nat → Int32)) (Rd : (Nat → Int32)) (Ua : (Nat → Int32)) (Wg : Int32) (Wz : Int32) (Ww : Int32) (Wr : Int32) (Mh : Int32) (Mn : Int32) (Mm : Int32) (Mt : (Nat → Int32)) (Mk : (Nat → Int32)) (Ms : (Nat → Int32)) (Me : (Nat → Int32)) (Mp : (Nat → Int32)) (Mw : (Nat → Int32)) (Ml : (Nat → Int32)) (My : (Nat → Int64)) (Oa : (Nat → Int64)) (Od : (Nat → UInt64)) (x5 : Int32) (hx5 : x5 = nI (5 * k)) (hf : fL_law_J943 N L xs k28 Tn Ta Fn Fa Ba Rn Ra Rb Rd Ua Wg Wz Ww Wr Mh Mn Mm Mt Mk Ms Me Mp Mw Ml My Oa Od x5 = some 1) : ∀ (H : Heap) (locs : List Loc), va_P D vwCl (w_0_1_2_3_4_5_6_7_8_9_10_11_12_13_14_15_16_17_18_19_20_21_22_23_24 q cI cJ cD Tn Ta Fn Fa Ba Rn Ra Rb Rd Ua Wg Wz Ww Wr Mh Mn Mm Mt Mk Ms Me Mp Mw Ml My Oa Od) H → va_S (fun a : Nat => s.heap.size ≤ a) s.heap H locs → ∀ ls : Array Slot, lv_has ls 10 [(0, .ref b), (1, .ref (q 0)), (2, .ref (q 14)), (3, .ref (q 23)), (4, .ref (q 24)), (5, .int x5)] → W p l e room_1 s m #[Value.ref b] below meth c H locs (25 + k) (1025 + 6 * k) (lw_Z below #[Value.ref b] s) (F0 m 943 ls []) := by
  obtain ⟨hx, hb, hr, hml, hown, hts0, hX, hbl, hlocks, hgv⟩ := id C0
  have hown : s.vm.findClass RL = some m.cls := hown
  have hts : ∀ w ∈ wsL_law, w.before #[Value.ref b] s = true := fun w h => hts0 w (wsL_law_in w h)
  have hbA : ¬ (fun a : Nat => s.heap.size ≤ a) b := Nat.not_le.mpr hbl
  have hcm : 25 + k + 1 ≤ 1058 := by omega
  have hsm : 1025 + 6 * k + 6 ≤ 9271 := by omega
  have hc0 : 25 + k ≤ 1058 := by omega
  have hs0 : 1025 + 6 * k ≤ 9271 := by omega
  intro H locs hP hS ls hl
  unfold fL_law_J943 at hf
  refine lv_aload_n hx hb dL_law_943 rfl (lv_at hl 1 rfl) ?_
  refine lv_aload_n hx hb dL_law_944 rfl (lv_at hl 0 rfl) ?_
  refine lv_iload hx hb dL_law_945 (lv_at hl 5 rfl) ?_
  refine lv_iconst (v := (1 : Int32)) hx hb dL_law_947 (by decide) ?_
  refine lv_iadd hx hb dL_law_948 ?_
  obtain ⟨g_1, hf⟩ := gd_some hf
  refine va_sld hx hb hX hbl hbA hS (inb_in g_1) dL_law_949 ?_
  refine lv_aload_n hx hb dL_law_950 rfl (lv_at hl 0 rfl) ?_
  refine lv_iload hx hb dL_law_951 (lv_at hl 5 rfl) ?_
  refine lv_iconst (v := (2 : Int32)) hx hb dL_law_953 (by decide) ?_
  refine lv_iadd hx hb dL_law_954 ?_
  obtain ⟨g_2, hf⟩ := gd_some hf
  refine va_sld hx hb hX hbl hbA hS (inb_in g_2) dL_law_955 ?_
  refine lv_aload_n hx hb dL_law_956 rfl (lv_at hl 3 rfl) ?_
  obtain ⟨⟨r957, Oa957⟩, hc, hf⟩ := bn_some hf
  try dsimp only at hf
  refine g_call (mc := 1) (ms := 6) (ws' := (w_0_1_2_3_4_5_6_7_8_9_10_11_12_13_14_15_16_17_18_19_20_21_22_23_24 q cI cJ cD Tn Ta Fn Fa Ba Rn Ra Rb Rd Ua Wg Wz Ww Wr Mh Mn Mm Mt Mk Ms Me Mp Mw Ml My Oa957 Od)) (st1 := [.int r957]) hq [0, 1, 2, 3, 4, 5, 6, 7, 8, 9, 10, 11, 12, 13, 14, 15, 16, 17, 18, 19, 20, 21, 22, 23, 24] [0, 1, 2, 23] [.inl 0, .inl 1, .inl 2, .inr 3, .inr 4, .inr 5, .inr 6, .inr 7, .inr 8, .inr 9, .inr 10, .inr 11, .inr 12, .inr 13, .inr 14, .inr 15, .inr 16, .inr 17, .inr 18, .inr 19, .inr 20, .inr 21, .inr 22, .inl 3, .inr 24] (vx_runSW (As := [.ref (q 0), .int (xs ((x5 + (1 : Int32))).toNatClampNeg), .int (xs ((x5 + (2 : Int32))).toNatClampNeg), .ref (q 23)]) (rest := []) ⟨hx, hb, hml, hown, hts⟩ (kL_commonPrefix l hlt D cI cJ cD sa q hq N Tn Ta Oa (xs ((x5 + (1 : Int32))).toNatClampNeg) (xs ((x5 + (2 : Int32))).toNatClampNeg) r957 Oa957 hc) (vx_cwSW 4 hts gL_law_L_commonPrefix rfl rfl rfl (by decide +kernel) ⟨(Nat.le_of_ble_eq_true rfl), (Nat.le_of_ble_eq_true rfl)⟩) ⟨gPx_blind, fun U hU hW => ⟨rfl, by rw [hU]; exact hP.sub (ws' := (w_0_1_2_23 q cI cJ cD Tn Ta Oa)) [0, 1, 2, 23] rfl, gEv.warm hW hE, gXe.go hW hS (gMonoL hqA rfl) hXe hU⟩⟩ rfl rfl hl.1 rfl (lv_room (Nat.le_of_ble_eq_true rfl)) dL_law_957 ⟨hcm, hsm⟩) hP hS (gSubL hqA rfl) rfl rfl rfl rfl rfl (fun H locs hP hS => ?_)
  refine lv_istore (lv' := [(6, .int r957), (0, .ref b), (1, .ref (q 0)), (2, .ref (q 14)), (3, .ref (q 23)), (4, .ref (q 24)), (5, .int x5)]) hx hb dL_law_960 hl (by decide) rfl (fun ls hl => ?_)
  refine lv_aload_n hx hb dL_law_962 rfl (lv_at hl 3 rfl) ?_
  refine lv_aload_n hx hb dL_law_963 rfl (lv_at hl 1 rfl) ?_
  refine lv_iload hx hb dL_law_964 (lv_at hl 6 rfl) ?_
  refine lv_iconst (v := (1 : Int32)) hx hb dL_law_966 (by decide) ?_
  refine lv_iadd hx hb dL_law_967 ?_
  obtain ⟨g_3, hf⟩ := gd_some hf
  refine va_sld hx hb hX hbl hbA hS (inb_in g_3) dL_law_968 ?_
  refine lv_aload_n hx hb dL_law_969 rfl (lv_at hl 1 rfl) ?_
  refine lv_iload hx hb dL_law_970 (lv_at hl 6 rfl) ?_
  refine lv_iconst (v := (2 : Int32)) hx hb dL_law_972 (by decide) ?_
  refine lv_iadd hx hb dL_law_973 ?_
  obtain ⟨g_4, hf⟩ := gd_some hf
  refine va_sld hx hb hX hbl hbA hS (inb_in g_4) dL_law_974 ?_
  obtain ⟨⟨r975, Mh975⟩, hc, hf⟩ := bn_some hf
  try dsimp only at hf
  refine g_call0 (ws' := (w_0_1_2_3_4_5_6_7_8_9_10_11_12_13_14_15_16_17_18_19_20_21_22_23_24 q cI cJ cD Tn Ta Fn Fa Ba Rn Ra Rb Rd Ua Wg Wz Ww Wr Mh975 Mn Mm Mt Mk Ms Me Mp Mw Ml My Oa957 Od)) (st1 := [.int r975]) hq [0, 1, 2, 3, 4, 5, 6, 7, 8, 9, 10, 11, 12, 13, 14, 15, 16, 17, 18, 19, 20, 21, 22, 23, 24] [14, 15] [.inr 0, .inr 1, .inr 2, .inr 3, .inr 4, .inr 5, .inr 6, .inr 7, .inr 8, .inr 9, .inr 10, .inr 11, .inr 12, .inr 13, .inl 0, .inl 1, .inr 16, .inr 17, .inr 18, .inr 19, .inr 20, .inr 21, .inr 22, .inr 23, .inr 24] (va_runV (As := [.int (xs ((x5 + (1 : Int32))).toNatClampNeg), .int (xs ((x5 + (2 : Int32))).toNatClampNeg)]) (rest := []) ⟨hx, hb, hml, hown, hts⟩ (kX9_commonPrefix l D cI cJ cD q hq N Mh Mn Mm Mt (xs ((x5 + (1 : Int32))).toNatClampNeg) (xs ((x5 + (2 : Int32))).toNatClampNeg) r975 Mh975 hc) (cwV 2 hts gL_law_X9_commonPrefix rfl rfl rfl (by decide +kernel) ⟨(Nat.le_of_ble_eq_true rfl), (Nat.le_of_ble_eq_true rfl)⟩) ⟨gP_blind, va_recv hE.1 hP (ci := 7) (q0 := 14) rfl rfl, fun U hU hW => ⟨rfl, by rw [hU]; exact hP.sub (ws' := (w_14_15 q cI cJ cD Mh Mn Mm Mt)) [14, 15] rfl, gEv.warm hW hE⟩⟩ rfl rfl hl.1 rfl (lv_room (Nat.le_of_ble_eq_true rfl)) dL_law_975 ⟨hcm, hsm⟩) hP hS (gSubL hqA rfl) rfl rfl rfl rfl rfl (fun H locs hP hS => ?_)
  refine lv_istore (lv' := [(7, .int r975), (6, .int r957), (0, .ref b), (1, .ref (q 0)), (2, .ref (q 14)), (3, .ref (q 23)), (4, .ref (q 24)), (5, .int x5)]) hx hb dL_law_978 hl (by decide) rfl (fun ls hl => ?_)
  refine lv_aload_n hx hb dL_law_980 rfl (lv_at hl 4 rfl) ?_
  obtain ⟨r981, hc, hf⟩ := bn_some hf
  try dsimp only at hf
  refine g_call0 (ws' := (w_0_1_2_3_4_5_6_7_8_9_10_11_12_13_14_15_16_17_18_19_20_21_22_23_24 q cI cJ cD Tn Ta Fn Fa Ba Rn Ra Rb Rd Ua Wg Wz Ww Wr Mh975 Mn Mm Mt Mk Ms Me Mp Mw Ml My Oa957 Od)) (st1 := [.int r981]) hq [0, 1, 2, 3, 4, 5, 6, 7, 8, 9, 10, 11, 12, 13, 14, 15, 16, 17, 18, 19, 20, 21, 22, 23, 24] [14] [.inr 0, .inr 1, .inr 2, .inr 3, .inr 4, .inr 5, .inr 6, .inr 7, .inr 8, .inr 9, .inr 10, .inr 11, .inr 12, .inr 13, .inl 0, .inr 15, .inr 16, .inr 17, .inr 18, .inr 19, .inr 20, .inr 21, .inr 22, .inr 23, .inr 24] (va_runV (As := []) (rest := []) ⟨hx, hb, hml, hown, hts⟩ (kX9_thrown l D cI cJ cD q hq N Mh975 Mn Mm r981 hc) (cwV 0 hts gL_law_X9_thrown rfl rfl rfl (by decide +kernel) ⟨(Nat.le_of_ble_eq_true rfl), (Nat.le_of_ble_eq_true rfl)⟩) ⟨gP_blind, va_recv hE.1 hP (ci := 7) (q0 := 14) rfl rfl, fun U hU hW => ⟨rfl, by rw [hU]; exact hP.sub (ws' := (w_14 q cI cJ cD Mh975 Mn Mm)) [14] rfl, gEv.warm hW hE⟩⟩ rfl rfl hl.1 rfl (lv_room (Nat.le_of_ble_eq_true rfl)) dL_law_981 ⟨hcm, hsm⟩) hP hS (gSubL hqA rfl) rfl rfl rfl rfl rfl (fun H locs hP hS => ?_)
  refine lv_iload hx hb dL_law_984 (lv_at hl 1 rfl) ?_
  refine lv_icmp_eq (tgt := 991) hx hb dL_law_986 (by decide) (fun c_5 => ?_) (fun c_5 => ?_)
  · have hf := (if_pos c_5).symm.trans hf
    refine lv_iload hx hb dL_law_991 (lv_at hl 1 rfl) ?_
    refine lv_if_ne (tgt := 1008) hx hb dL_law_993 (by decide) (fun c_6 => ?_) (fun c_6 => ?_)
    · have hf := (if_neg c_6).symm.trans hf
      exact law_J1008 hL C0 hlt D cI cJ cD sa q hq hqA hE hXe N k h5 k28 ih Tn Ta Fn Fa Ba Rn Ra Rb Rd Ua Wg Wz Ww Wr Mh975 Mn Mm Mt Mk Ms Me Mp Mw Ml My Oa957 Od x5 hx5 hf _ _ hP hS _ (lv_sub hl [2, 3, 4, 5, 6, 7] rfl)
    · have hf := (if_pos c_6).symm.trans hf
      refine lv_aload_n hx hb dL_law_996 rfl (lv_at hl 5 rfl) ?_
      refine lv_iconst (v := (0 : Int32)) hx hb dL_law_997 (by decide) ?_
      obtain ⟨g_7, hf⟩ := gd_some hf
      refine va_lald hx hb hE.1 hP 23 1 rfl rfl (inb_in g_7) dL_law_998 ?_
      refine lv_iload hx hb dL_law_999 (lv_at hl 0 rfl) ?_
      refine lv_i2l (v := (r975).toInt64) hx hb dL_law_1001 rfl ?_
      refine W.lcmp hx hb dL_law_1002 ?_
      refine lv_if_eq (tgt := 1008) hx hb dL_law_1003 (by decide) (fun c_8 => ?_) (fun c_8 => ?_)
      · have hf := (if_pos c_8).symm.trans hf
        exact law_J1008 hL C0 hlt D cI cJ cD sa q hq hqA hE hXe N k h5 k28 ih Tn Ta Fn Fa Ba Rn Ra Rb Rd Ua Wg Wz Ww Wr Mh975 Mn Mm Mt Mk Ms Me Mp Mw Ml My Oa957 Od x5 hx5 hf _ _ hP hS _ (lv_sub hl [2, 3, 4, 5, 6, 7] rfl)
      · have hf := (if_neg c_8).symm.trans hf
        exact law_J1006 hL C0 hlt D cI cJ cD sa q hq hqA hE hXe N k (by omega) Tn Ta Fn Fa Ba Rn Ra Rb Rd Ua Wg Wz Ww Wr Mh975 Mn Mm Mt Mk Ms Me Mp Mw Ml My Oa957 Od hf _ _ hP hS _ (lv_sub hl [] rfl)
  · have hf := (if_neg c_5).symm.trans hf
    exact law_J989 hL C0 hlt D cI cJ cD sa q hq hqA hE hXe N k (by omega) Tn Ta Fn Fa Ba Rn Ra Rb Rd Ua Wg Wz Ww Wr Mh975 Mn Mm Mt Mk Ms Me Mp Mw Ml My Oa957 Od hf _ _ hP hS _ (lv_sub hl [] rfl)
set_option maxHeartbeats 4000000 in
set_option maxRecDepth 100000 in
theorem law_J1083 {p : Program} {l : Launch} {e : Env} {s : State} {m : MethodId} {below : List Frame} {meth : Method} {c : Code} {b L : Nat} {xs : Nat → Int32} (hL : L ≤ 2560) (C0 : lw_At p s m meth c b L xs) (hlt : l.stackTraces = false) (D : va_G) (cI cJ cD : ClassId) (sa : Nat → Nat) (q : Nat → Nat) (hq : gInj q) (hqA : ∀ k, k < 25 → s.heap.size ≤ q k) (hE : gEv D cI cJ cD s) (hXe : gXe sa (fun a => s.heap.size ≤ a) s s.heap) (N : Nat) (k : Nat) (h5 : 5 * k + 5 ≤ L) (k28 : Int32 → (Nat → Int32) → Int32 → (Nat → Int32) → (Nat → Int32) → Int32 → (Nat → Int32) → (Nat → Int32) → (Nat → Int32) → (Nat → Int32) → Int32 → Int32 → Int32 → Int32 → Int32 → Int32 → Int32 → (Nat → Int32) → (Nat → Int32) → (Nat → Int32) → (Nat → Int32) → (Nat → Int32) → (Nat → Int32) → (Nat → Int32) → (Nat → Int64) → (Nat → Int64) → (Nat → UInt64) → Int32 → Option Int32) (ih : lawIH p l e s m below meth c b D cI cJ cD q k k28) (Tn : Int32) (Ta : (Nat → Int32)) (Fn : Int32) (Fa : (Nat → Int32)) (Ba : (Nat → Int32)) (Rn : Int32) (Ra : (Nat → Int32)) (Rb : (Nat → Int32)) (Rd : (Nat → Int32)) (Ua : (Nat → Int32)) (Wg : Int32) (Wz : Int32) (Ww : Int32) (Wr : Int32) (Mh : Int32) (Mn : Int32) (Mm : Int32) (Mt : (Nat → Int32)) (Mk : (Nat → Int32)) (Ms : (Nat → Int32)) (Me : (Nat → Int32)) (Mp : (Nat → Int32)) (Mw : (Nat → Int32)) (Ml : (Nat → Int32)) (My : (Nat → Int64)) (Oa : (Nat → Int64)) (Od : (Nat → UInt64)) (x5 : Int32) (hx5 : x5 = nI (5 * k)) (hf : fL_law_J1083 N L xs k28 Tn Ta Fn Fa Ba Rn Ra Rb Rd Ua Wg Wz Ww Wr Mh Mn Mm Mt Mk Ms Me Mp Mw Ml My Oa Od x5 = some 1) : ∀ (H : Heap) (locs : List Loc), va_P D vwCl (w_0_1_2_3_4_5_6_7_8_9_10_11_12_13_14_15_16_17_18_19_20_21_22_23_24 q cI cJ cD Tn Ta Fn Fa Ba Rn Ra Rb Rd Ua Wg Wz Ww Wr Mh Mn Mm Mt Mk Ms Me Mp Mw Ml My Oa Od) H → va_S (fun a : Nat => s.heap.size ≤ a) s.heap H locs → ∀ ls : Array Slot, lv_has ls 10 [(0, .ref b), (1, .ref (q 0)), (2, .ref (q 14)), (3, .ref (q 23)), (4, .ref (q 24)), (5, .int x5)] → W p l e room_1 s m #[Value.ref b] below meth c H locs (25 + k + 1) (1025 + 6 * k + 6) (lw_Z below #[Value.ref b] s) (F0 m 1083 ls []) := by
  obtain ⟨hx, hb, hr, hml, hown, hts0, hX, hbl, hlocks, hgv⟩ := id C0
  have hown : s.vm.findClass RL = some m.cls := hown
  have hts : ∀ w ∈ wsL_law, w.before #[Value.ref b] s = true := fun w h => hts0 w (wsL_law_in w h)
  have hbA : ¬ (fun a : Nat => s.heap.size ≤ a) b := Nat.not_le.mpr hbl
  have hcm : 25 + k + 1 ≤ 1058 := by omega
  have hsm : 1025 + 6 * k + 6 ≤ 9271 := by omega
  have hc0 : 25 + k ≤ 1058 := by omega
  have hs0 : 1025 + 6 * k ≤ 9271 := by omega
  intro H locs hP hS ls hl
  unfold fL_law_J1083 at hf
  refine lv_goto (tgt := 2831) hx hb dL_law_1083 (by decide) ?_
  exact law_J2831 hL C0 hlt D cI cJ cD sa q hq hqA hE hXe N k h5 k28 ih Tn Ta Fn Fa Ba Rn Ra Rb Rd Ua Wg Wz Ww Wr Mh Mn Mm Mt Mk Ms Me Mp Mw Ml My Oa Od x5 hx5 hf _ _ hP hS _ (lv_sub hl [0, 1, 2, 3, 4, 5] rfl)
set_option maxHeartbeats 4000000 in
set_option maxRecDepth 100000 in
theorem law_J1077 {p : Program} {l : Launch} {e : Env} {s : State} {m : MethodId} {below : List Frame} {meth : Method} {c : Code} {b L : Nat} {xs : Nat → Int32} (hL : L ≤ 2560) (C0 : lw_At p s m meth c b L xs) (hlt : l.stackTraces = false) (D : va_G) (cI cJ cD : ClassId) (sa : Nat → Nat) (q : Nat → Nat) (hq : gInj q) (hqA : ∀ k, k < 25 → s.heap.size ≤ q k) (hE : gEv D cI cJ cD s) (hXe : gXe sa (fun a => s.heap.size ≤ a) s s.heap) (N : Nat) (k : Nat) (h5 : 5 * k + 5 ≤ L) (k28 : Int32 → (Nat → Int32) → Int32 → (Nat → Int32) → (Nat → Int32) → Int32 → (Nat → Int32) → (Nat → Int32) → (Nat → Int32) → (Nat → Int32) → Int32 → Int32 → Int32 → Int32 → Int32 → Int32 → Int32 → (Nat → Int32) → (Nat → Int32) → (Nat → Int32) → (Nat → Int32) → (Nat → Int32) → (Nat → Int32) → (Nat → Int32) → (Nat → Int64) → (Nat → Int64) → (Nat → UInt64) → Int32 → Option Int32) (ih : lawIH p l e s m below meth c b D cI cJ cD q k k28) (Tn : Int32) (Ta : (Nat → Int32)) (Fn : Int32) (Fa : (Nat → Int32)) (Ba : (Nat → Int32)) (Rn : Int32) (Ra : (Nat → Int32)) (Rb : (Nat → Int32)) (Rd : (Nat → Int32)) (Ua : (Nat → Int32)) (Wg : Int32) (Wz : Int32) (Ww : Int32) (Wr : Int32) (Mh : Int32) (Mn : Int32) (Mm : Int32) (Mt : (Nat → Int32)) (Mk : (Nat → Int32)) (Ms : (Nat → Int32)) (Me : (Nat → Int32)) (Mp : (Nat → Int32)) (Mw : (Nat → Int32)) (Ml : (Nat → Int32)) (My : (Nat → Int64)) (Oa : (Nat → Int64)) (Od : (Nat → UInt64)) (x5 : Int32) (y0 : Int64) (y1 : Int64) (hx5 : x5 = nI (5 * k)) (hf : fL_law_J1077 N L xs k28 Tn Ta Fn Fa Ba Rn Ra Rb Rd Ua Wg Wz Ww Wr Mh Mn Mm Mt Mk Ms Me Mp Mw Ml My Oa Od x5 y0 y1 = some 1) : ∀ (H : Heap) (locs : List Loc), va_P D vwCl (w_0_1_2_3_4_5_6_7_8_9_10_11_12_13_14_15_16_17_18_19_20_21_22_23_24 q cI cJ cD Tn Ta Fn Fa Ba Rn Ra Rb Rd Ua Wg Wz Ww Wr Mh Mn Mm Mt Mk Ms Me Mp Mw Ml My Oa Od) H → va_S (fun a : Nat => s.heap.size ≤ a) s.heap H locs → ∀ ls : Array Slot, lv_has ls 10 [(0, .ref b), (1, .ref (q 0)), (2, .ref (q 14)), (3, .ref (q 23)), (4, .ref (q 24)), (5, .int x5)] → W p l e room_1 s m #[Value.ref b] below meth c H locs (25 + k + 1) (1025 + 6 * k + 6) (lw_Z below #[Value.ref b] s) (F0 m 1077 ls [.long y1, .long y0]) := by
  obtain ⟨hx, hb, hr, hml, hown, hts0, hX, hbl, hlocks, hgv⟩ := id C0
  have hown : s.vm.findClass RL = some m.cls := hown
  have hts : ∀ w ∈ wsL_law, w.before #[Value.ref b] s = true := fun w h => hts0 w (wsL_law_in w h)
  have hbA : ¬ (fun a : Nat => s.heap.size ≤ a) b := Nat.not_le.mpr hbl
  have hcm : 25 + k + 1 ≤ 1058 := by omega
  have hsm : 1025 + 6 * k + 6 ≤ 9271 := by omega
  have hc0 : 25 + k ≤ 1058 := by omega
  have hs0 : 1025 + 6 * k ≤ 9271 := by omega
  intro H locs hP hS ls hl
  unfold fL_law_J1077 at hf
  refine W.lcmp hx hb dL_law_1077 ?_
  refine lv_if_eq (tgt := 1083) hx hb dL_law_1078 (by decide) (fun c_1 => ?_) (fun c_1 => ?_)
  · have hf := (if_pos c_1).symm.trans hf
    exact law_J1083 hL C0 hlt D cI cJ cD sa q hq hqA hE hXe N k h5 k28 ih Tn Ta Fn Fa Ba Rn Ra Rb Rd Ua Wg Wz Ww Wr Mh Mn Mm Mt Mk Ms Me Mp Mw Ml My Oa Od x5 hx5 hf _ _ hP hS _ (lv_sub hl [0, 1, 2, 3, 4, 5] rfl)
  · have hf := (if_neg c_1).symm.trans hf
    exact law_J1081 hL C0 hlt D cI cJ cD sa q hq hqA hE hXe N k (by omega) Tn Ta Fn Fa Ba Rn Ra Rb Rd Ua Wg Wz Ww Wr Mh Mn Mm Mt Mk Ms Me Mp Mw Ml My Oa Od hf _ _ hP hS _ (lv_sub hl [] rfl)
set_option maxHeartbeats 4000000 in
set_option maxRecDepth 100000 in
theorem law_J1011 {p : Program} {l : Launch} {e : Env} {s : State} {m : MethodId} {below : List Frame} {meth : Method} {c : Code} {b L : Nat} {xs : Nat → Int32} (hL : L ≤ 2560) (C0 : lw_At p s m meth c b L xs) (hlt : l.stackTraces = false) (D : va_G) (cI cJ cD : ClassId) (sa : Nat → Nat) (q : Nat → Nat) (hq : gInj q) (hqA : ∀ k, k < 25 → s.heap.size ≤ q k) (hE : gEv D cI cJ cD s) (hXe : gXe sa (fun a => s.heap.size ≤ a) s s.heap) (N : Nat) (k : Nat) (h5 : 5 * k + 5 ≤ L) (k28 : Int32 → (Nat → Int32) → Int32 → (Nat → Int32) → (Nat → Int32) → Int32 → (Nat → Int32) → (Nat → Int32) → (Nat → Int32) → (Nat → Int32) → Int32 → Int32 → Int32 → Int32 → Int32 → Int32 → Int32 → (Nat → Int32) → (Nat → Int32) → (Nat → Int32) → (Nat → Int32) → (Nat → Int32) → (Nat → Int32) → (Nat → Int32) → (Nat → Int64) → (Nat → Int64) → (Nat → UInt64) → Int32 → Option Int32) (ih : lawIH p l e s m below meth c b D cI cJ cD q k k28) (Tn : Int32) (Ta : (Nat → Int32)) (Fn : Int32) (Fa : (Nat → Int32)) (Ba : (Nat → Int32)) (Rn : Int32) (Ra : (Nat → Int32)) (Rb : (Nat → Int32)) (Rd : (Nat → Int32)) (Ua : (Nat → Int32)) (Wg : Int32) (Wz : Int32) (Ww : Int32) (Wr : Int32) (Mh : Int32) (Mn : Int32) (Mm : Int32) (Mt : (Nat → Int32)) (Mk : (Nat → Int32)) (Ms : (Nat → Int32)) (Me : (Nat → Int32)) (Mp : (Nat → Int32)) (Mw : (Nat → Int32)) (Ml : (Nat → Int32)) (My : (Nat → Int64)) (Oa : (Nat → Int64)) (Od : (Nat → UInt64)) (x5 : Int32) (hx5 : x5 = nI (5 * k)) (hf : fL_law_J1011 N L xs k28 Tn Ta Fn Fa Ba Rn Ra Rb Rd Ua Wg Wz Ww Wr Mh Mn Mm Mt Mk Ms Me Mp Mw Ml My Oa Od x5 = some 1) : ∀ (H : Heap) (locs : List Loc), va_P D vwCl (w_0_1_2_3_4_5_6_7_8_9_10_11_12_13_14_15_16_17_18_19_20_21_22_23_24 q cI cJ cD Tn Ta Fn Fa Ba Rn Ra Rb Rd Ua Wg Wz Ww Wr Mh Mn Mm Mt Mk Ms Me Mp Mw Ml My Oa Od) H → va_S (fun a : Nat => s.heap.size ≤ a) s.heap H locs → ∀ ls : Array Slot, lv_has ls 10 [(0, .ref b), (1, .ref (q 0)), (2, .ref (q 14)), (3, .ref (q 23)), (4, .ref (q 24)), (5, .int x5)] → W p l e room_1 s m #[Value.ref b] below meth c H locs (25 + k) (1025 + 6 * k) (lw_Z below #[Value.ref b] s) (F0 m 1011 ls []) := by
  obtain ⟨hx, hb, hr, hml, hown, hts0, hX, hbl, hlocks, hgv⟩ := id C0
  have hown : s.vm.findClass RL = some m.cls := hown
  have hts : ∀ w ∈ wsL_law, w.before #[Value.ref b] s = true := fun w h => hts0 w (wsL_law_in w h)
  have hbA : ¬ (fun a : Nat => s.heap.size ≤ a) b := Nat.not_le.mpr hbl
  have hcm : 25 + k + 1 ≤ 1058 := by omega
  have hsm : 1025 + 6 * k + 6 ≤ 9271 := by omega
  have hc0 : 25 + k ≤ 1058 := by omega
  have hs0 : 1025 + 6 * k ≤ 9271 := by omega
  intro H locs hP hS ls hl
  unfold fL_law_J1011 at hf
  refine lv_aload_n hx hb dL_law_1011 rfl (lv_at hl 1 rfl) ?_
  refine lv_aload_n hx hb dL_law_1012 rfl (lv_at hl 0 rfl) ?_
  refine lv_iload hx hb dL_law_1013 (lv_at hl 5 rfl) ?_
  refine lv_iconst (v := (1 : Int32)) hx hb dL_law_1015 (by decide) ?_
  refine lv_iadd hx hb dL_law_1016 ?_
  obtain ⟨g_1, hf⟩ := gd_some hf
  refine va_sld hx hb hX hbl hbA hS (inb_in g_1) dL_law_1017 ?_
  refine lv_aload_n hx hb dL_law_1018 rfl (lv_at hl 0 rfl) ?_
  refine lv_iload hx hb dL_law_1019 (lv_at hl 5 rfl) ?_
  refine lv_iconst (v := (2 : Int32)) hx hb dL_law_1021 (by decide) ?_
  refine lv_iadd hx hb dL_law_1022 ?_
  obtain ⟨g_2, hf⟩ := gd_some hf
  refine va_sld hx hb hX hbl hbA hS (inb_in g_2) dL_law_1023 ?_
  refine lv_aload_n hx hb dL_law_1024 rfl (lv_at hl 3 rfl) ?_
  obtain ⟨⟨r1025, Oa1025⟩, hc, hf⟩ := bn_some hf
  try dsimp only at hf
  refine g_call (mc := 1) (ms := 6) (ws' := (w_0_1_2_3_4_5_6_7_8_9_10_11_12_13_14_15_16_17_18_19_20_21_22_23_24 q cI cJ cD Tn Ta Fn Fa Ba Rn Ra Rb Rd Ua Wg Wz Ww Wr Mh Mn Mm Mt Mk Ms Me Mp Mw Ml My Oa1025 Od)) (st1 := [.int r1025]) hq [0, 1, 2, 3, 4, 5, 6, 7, 8, 9, 10, 11, 12, 13, 14, 15, 16, 17, 18, 19, 20, 21, 22, 23, 24] [0, 1, 2, 23] [.inl 0, .inl 1, .inl 2, .inr 3, .inr 4, .inr 5, .inr 6, .inr 7, .inr 8, .inr 9, .inr 10, .inr 11, .inr 12, .inr 13, .inr 14, .inr 15, .inr 16, .inr 17, .inr 18, .inr 19, .inr 20, .inr 21, .inr 22, .inl 3, .inr 24] (vx_runSW (As := [.ref (q 0), .int (xs ((x5 + (1 : Int32))).toNatClampNeg), .int (xs ((x5 + (2 : Int32))).toNatClampNeg), .ref (q 23)]) (rest := []) ⟨hx, hb, hml, hown, hts⟩ (kL_isLyndon l hlt D cI cJ cD sa q hq N Tn Ta Oa (xs ((x5 + (1 : Int32))).toNatClampNeg) (xs ((x5 + (2 : Int32))).toNatClampNeg) r1025 Oa1025 hc) (vx_cwSW 4 hts gL_law_L_isLyndon rfl rfl rfl (by decide +kernel) ⟨(Nat.le_of_ble_eq_true rfl), (Nat.le_of_ble_eq_true rfl)⟩) ⟨gPx_blind, fun U hU hW => ⟨rfl, by rw [hU]; exact hP.sub (ws' := (w_0_1_2_23 q cI cJ cD Tn Ta Oa)) [0, 1, 2, 23] rfl, gEv.warm hW hE, gXe.go hW hS (gMonoL hqA rfl) hXe hU⟩⟩ rfl rfl hl.1 rfl (lv_room (Nat.le_of_ble_eq_true rfl)) dL_law_1025 ⟨hcm, hsm⟩) hP hS (gSubL hqA rfl) rfl rfl rfl rfl rfl (fun H locs hP hS => ?_)
  refine lv_istore (lv' := [(6, .int r1025), (0, .ref b), (1, .ref (q 0)), (2, .ref (q 14)), (3, .ref (q 23)), (4, .ref (q 24)), (5, .int x5)]) hx hb dL_law_1028 hl (by decide) rfl (fun ls hl => ?_)
  refine lv_aload_n hx hb dL_law_1030 rfl (lv_at hl 3 rfl) ?_
  refine lv_aload_n hx hb dL_law_1031 rfl (lv_at hl 1 rfl) ?_
  refine lv_iload hx hb dL_law_1032 (lv_at hl 6 rfl) ?_
  refine lv_iconst (v := (1 : Int32)) hx hb dL_law_1034 (by decide) ?_
  refine lv_iadd hx hb dL_law_1035 ?_
  obtain ⟨g_3, hf⟩ := gd_some hf
  refine va_sld hx hb hX hbl hbA hS (inb_in g_3) dL_law_1036 ?_
  refine lv_aload_n hx hb dL_law_1037 rfl (lv_at hl 1 rfl) ?_
  refine lv_iload hx hb dL_law_1038 (lv_at hl 6 rfl) ?_
  refine lv_iconst (v := (2 : Int32)) hx hb dL_law_1040 (by decide) ?_
  refine lv_iadd hx hb dL_law_1041 ?_
  obtain ⟨g_4, hf⟩ := gd_some hf
  refine va_sld hx hb hX hbl hbA hS (inb_in g_4) dL_law_1042 ?_
  obtain ⟨⟨r1043, Mh1043⟩, hc, hf⟩ := bn_some hf
  try dsimp only at hf
  refine g_call0 (ws' := (w_0_1_2_3_4_5_6_7_8_9_10_11_12_13_14_15_16_17_18_19_20_21_22_23_24 q cI cJ cD Tn Ta Fn Fa Ba Rn Ra Rb Rd Ua Wg Wz Ww Wr Mh1043 Mn Mm Mt Mk Ms Me Mp Mw Ml My Oa1025 Od)) (st1 := [.int r1043]) hq [0, 1, 2, 3, 4, 5, 6, 7, 8, 9, 10, 11, 12, 13, 14, 15, 16, 17, 18, 19, 20, 21, 22, 23, 24] [14, 15] [.inr 0, .inr 1, .inr 2, .inr 3, .inr 4, .inr 5, .inr 6, .inr 7, .inr 8, .inr 9, .inr 10, .inr 11, .inr 12, .inr 13, .inl 0, .inl 1, .inr 16, .inr 17, .inr 18, .inr 19, .inr 20, .inr 21, .inr 22, .inr 23, .inr 24] (va_runV (As := [.int (xs ((x5 + (1 : Int32))).toNatClampNeg), .int (xs ((x5 + (2 : Int32))).toNatClampNeg)]) (rest := []) ⟨hx, hb, hml, hown, hts⟩ (kX9_isLyndon l D cI cJ cD q hq N Mh Mn Mm Mt (xs ((x5 + (1 : Int32))).toNatClampNeg) (xs ((x5 + (2 : Int32))).toNatClampNeg) r1043 Mh1043 hc) (cwV 2 hts gL_law_X9_isLyndon rfl rfl rfl (by decide +kernel) ⟨(Nat.le_of_ble_eq_true rfl), (Nat.le_of_ble_eq_true rfl)⟩) ⟨gP_blind, va_recv hE.1 hP (ci := 7) (q0 := 14) rfl rfl, fun U hU hW => ⟨rfl, by rw [hU]; exact hP.sub (ws' := (w_14_15 q cI cJ cD Mh Mn Mm Mt)) [14, 15] rfl, gEv.warm hW hE⟩⟩ rfl rfl hl.1 rfl (lv_room (Nat.le_of_ble_eq_true rfl)) dL_law_1043 ⟨hcm, hsm⟩) hP hS (gSubL hqA rfl) rfl rfl rfl rfl rfl (fun H locs hP hS => ?_)
  refine lv_istore (lv' := [(7, .int r1043), (6, .int r1025), (0, .ref b), (1, .ref (q 0)), (2, .ref (q 14)), (3, .ref (q 23)), (4, .ref (q 24)), (5, .int x5)]) hx hb dL_law_1046 hl (by decide) rfl (fun ls hl => ?_)
  refine lv_aload_n hx hb dL_law_1048 rfl (lv_at hl 4 rfl) ?_
  obtain ⟨r1049, hc, hf⟩ := bn_some hf
  try dsimp only at hf
  refine g_call0 (ws' := (w_0_1_2_3_4_5_6_7_8_9_10_11_12_13_14_15_16_17_18_19_20_21_22_23_24 q cI cJ cD Tn Ta Fn Fa Ba Rn Ra Rb Rd Ua Wg Wz Ww Wr Mh1043 Mn Mm Mt Mk Ms Me Mp Mw Ml My Oa1025 Od)) (st1 := [.int r1049]) hq [0, 1, 2, 3, 4, 5, 6, 7, 8, 9, 10, 11, 12, 13, 14, 15, 16, 17, 18, 19, 20, 21, 22, 23, 24] [14] [.inr 0, .inr 1, .inr 2, .inr 3, .inr 4, .inr 5, .inr 6, .inr 7, .inr 8, .inr 9, .inr 10, .inr 11, .inr 12, .inr 13, .inl 0, .inr 15, .inr 16, .inr 17, .inr 18, .inr 19, .inr 20, .inr 21, .inr 22, .inr 23, .inr 24] (va_runV (As := []) (rest := []) ⟨hx, hb, hml, hown, hts⟩ (kX9_thrown l D cI cJ cD q hq N Mh1043 Mn Mm r1049 hc) (cwV 0 hts gL_law_X9_thrown rfl rfl rfl (by decide +kernel) ⟨(Nat.le_of_ble_eq_true rfl), (Nat.le_of_ble_eq_true rfl)⟩) ⟨gP_blind, va_recv hE.1 hP (ci := 7) (q0 := 14) rfl rfl, fun U hU hW => ⟨rfl, by rw [hU]; exact hP.sub (ws' := (w_14 q cI cJ cD Mh1043 Mn Mm)) [14] rfl, gEv.warm hW hE⟩⟩ rfl rfl hl.1 rfl (lv_room (Nat.le_of_ble_eq_true rfl)) dL_law_1049 ⟨hcm, hsm⟩) hP hS (gSubL hqA rfl) rfl rfl rfl rfl rfl (fun H locs hP hS => ?_)
  refine lv_iload hx hb dL_law_1052 (lv_at hl 1 rfl) ?_
  refine lv_icmp_eq (tgt := 1059) hx hb dL_law_1054 (by decide) (fun c_5 => ?_) (fun c_5 => ?_)
  · have hf := (if_pos c_5).symm.trans hf
    refine lv_iload hx hb dL_law_1059 (lv_at hl 1 rfl) ?_
    refine lv_if_ne (tgt := 1083) hx hb dL_law_1061 (by decide) (fun c_6 => ?_) (fun c_6 => ?_)
    · have hf := (if_neg c_6).symm.trans hf
      exact law_J1083 hL C0 hlt D cI cJ cD sa q hq hqA hE hXe N k h5 k28 ih Tn Ta Fn Fa Ba Rn Ra Rb Rd Ua Wg Wz Ww Wr Mh1043 Mn Mm Mt Mk Ms Me Mp Mw Ml My Oa1025 Od x5 hx5 hf _ _ hP hS _ (lv_sub hl [2, 3, 4, 5, 6, 7] rfl)
    · have hf := (if_pos c_6).symm.trans hf
      refine lv_aload_n hx hb dL_law_1064 rfl (lv_at hl 5 rfl) ?_
      refine lv_iconst (v := (0 : Int32)) hx hb dL_law_1065 (by decide) ?_
      obtain ⟨g_7, hf⟩ := gd_some hf
      refine va_lald hx hb hE.1 hP 23 1 rfl rfl (inb_in g_7) dL_law_1066 ?_
      refine lv_iload hx hb dL_law_1067 (lv_at hl 0 rfl) ?_
      refine lv_if_eq (tgt := 1076) hx hb dL_law_1069 (by decide) (fun c_8 => ?_) (fun c_8 => ?_)
      · have hf := (if_pos c_8).symm.trans hf
        refine lv_lconst (v := (0 : Int64)) hx hb dL_law_1076 (by decide) ?_
        exact law_J1077 hL C0 hlt D cI cJ cD sa q hq hqA hE hXe N k h5 k28 ih Tn Ta Fn Fa Ba Rn Ra Rb Rd Ua Wg Wz Ww Wr Mh1043 Mn Mm Mt Mk Ms Me Mp Mw Ml My Oa1025 Od x5 (Oa1025 ((0 : Int32)).toNatClampNeg) (0 : Int64) hx5 hf _ _ hP hS _ (lv_sub hl [2, 3, 4, 5, 6, 7] rfl)
      · have hf := (if_neg c_8).symm.trans hf
        refine lv_lconst (v := (1 : Int64)) hx hb dL_law_1072 (by decide) ?_
        refine lv_goto (tgt := 1077) hx hb dL_law_1073 (by decide) ?_
        exact law_J1077 hL C0 hlt D cI cJ cD sa q hq hqA hE hXe N k h5 k28 ih Tn Ta Fn Fa Ba Rn Ra Rb Rd Ua Wg Wz Ww Wr Mh1043 Mn Mm Mt Mk Ms Me Mp Mw Ml My Oa1025 Od x5 (Oa1025 ((0 : Int32)).toNatClampNeg) (1 : Int64) hx5 hf _ _ hP hS _ (lv_sub hl [2, 3, 4, 5, 6, 7] rfl)
  · have hf := (if_neg c_5).symm.trans hf
    exact law_J1057 hL C0 hlt D cI cJ cD sa q hq hqA hE hXe N k (by omega) Tn Ta Fn Fa Ba Rn Ra Rb Rd Ua Wg Wz Ww Wr Mh1043 Mn Mm Mt Mk Ms Me Mp Mw Ml My Oa1025 Od hf _ _ hP hS _ (lv_sub hl [] rfl)
set_option maxHeartbeats 4000000 in
set_option maxRecDepth 100000 in
theorem law_J1086 {p : Program} {l : Launch} {e : Env} {s : State} {m : MethodId} {below : List Frame} {meth : Method} {c : Code} {b L : Nat} {xs : Nat → Int32} (hL : L ≤ 2560) (C0 : lw_At p s m meth c b L xs) (hlt : l.stackTraces = false) (D : va_G) (cI cJ cD : ClassId) (sa : Nat → Nat) (q : Nat → Nat) (hq : gInj q) (hqA : ∀ k, k < 25 → s.heap.size ≤ q k) (hE : gEv D cI cJ cD s) (hXe : gXe sa (fun a => s.heap.size ≤ a) s s.heap) (N : Nat) (k : Nat) (h5 : 5 * k + 5 ≤ L) (k28 : Int32 → (Nat → Int32) → Int32 → (Nat → Int32) → (Nat → Int32) → Int32 → (Nat → Int32) → (Nat → Int32) → (Nat → Int32) → (Nat → Int32) → Int32 → Int32 → Int32 → Int32 → Int32 → Int32 → Int32 → (Nat → Int32) → (Nat → Int32) → (Nat → Int32) → (Nat → Int32) → (Nat → Int32) → (Nat → Int32) → (Nat → Int32) → (Nat → Int64) → (Nat → Int64) → (Nat → UInt64) → Int32 → Option Int32) (ih : lawIH p l e s m below meth c b D cI cJ cD q k k28) (Tn : Int32) (Ta : (Nat → Int32)) (Fn : Int32) (Fa : (Nat → Int32)) (Ba : (Nat → Int32)) (Rn : Int32) (Ra : (Nat → Int32)) (Rb : (Nat → Int32)) (Rd : (Nat → Int32)) (Ua : (Nat → Int32)) (Wg : Int32) (Wz : Int32) (Ww : Int32) (Wr : Int32) (Mh : Int32) (Mn : Int32) (Mm : Int32) (Mt : (Nat → Int32)) (Mk : (Nat → Int32)) (Ms : (Nat → Int32)) (Me : (Nat → Int32)) (Mp : (Nat → Int32)) (Mw : (Nat → Int32)) (Ml : (Nat → Int32)) (My : (Nat → Int64)) (Oa : (Nat → Int64)) (Od : (Nat → UInt64)) (x5 : Int32) (hx5 : x5 = nI (5 * k)) (hf : fL_law_J1086 N L xs k28 Tn Ta Fn Fa Ba Rn Ra Rb Rd Ua Wg Wz Ww Wr Mh Mn Mm Mt Mk Ms Me Mp Mw Ml My Oa Od x5 = some 1) : ∀ (H : Heap) (locs : List Loc), va_P D vwCl (w_0_1_2_3_4_5_6_7_8_9_10_11_12_13_14_15_16_17_18_19_20_21_22_23_24 q cI cJ cD Tn Ta Fn Fa Ba Rn Ra Rb Rd Ua Wg Wz Ww Wr Mh Mn Mm Mt Mk Ms Me Mp Mw Ml My Oa Od) H → va_S (fun a : Nat => s.heap.size ≤ a) s.heap H locs → ∀ ls : Array Slot, lv_has ls 10 [(0, .ref b), (1, .ref (q 0)), (2, .ref (q 14)), (3, .ref (q 23)), (4, .ref (q 24)), (5, .int x5)] → W p l e room_1 s m #[Value.ref b] below meth c H locs (25 + k) (1025 + 6 * k) (lw_Z below #[Value.ref b] s) (F0 m 1086 ls []) := by
  obtain ⟨hx, hb, hr, hml, hown, hts0, hX, hbl, hlocks, hgv⟩ := id C0
  have hown : s.vm.findClass RL = some m.cls := hown
  have hts : ∀ w ∈ wsL_law, w.before #[Value.ref b] s = true := fun w h => hts0 w (wsL_law_in w h)
  have hbA : ¬ (fun a : Nat => s.heap.size ≤ a) b := Nat.not_le.mpr hbl
  have hcm : 25 + k + 1 ≤ 1058 := by omega
  have hsm : 1025 + 6 * k + 6 ≤ 9271 := by omega
  have hc0 : 25 + k ≤ 1058 := by omega
  have hs0 : 1025 + 6 * k ≤ 9271 := by omega
  intro H locs hP hS ls hl
  unfold fL_law_J1086 at hf
  refine lv_aload_n hx hb dL_law_1086 rfl (lv_at hl 1 rfl) ?_
  obtain ⟨⟨r1087, Fn1087, Fa1087⟩, hc, hf⟩ := bn_some hf
  try dsimp only at hf
  refine g_call0 (ws' := (w_0_1_2_3_4_5_6_7_8_9_10_11_12_13_14_15_16_17_18_19_20_21_22_23_24 q cI cJ cD Tn Ta Fn1087 Fa1087 Ba Rn Ra Rb Rd Ua Wg Wz Ww Wr Mh Mn Mm Mt Mk Ms Me Mp Mw Ml My Oa Od)) (st1 := [.int r1087]) hq [0, 1, 2, 3, 4, 5, 6, 7, 8, 9, 10, 11, 12, 13, 14, 15, 16, 17, 18, 19, 20, 21, 22, 23, 24] [0, 1, 2, 3, 4] [.inl 0, .inl 1, .inl 2, .inl 3, .inl 4, .inr 5, .inr 6, .inr 7, .inr 8, .inr 9, .inr 10, .inr 11, .inr 12, .inr 13, .inr 14, .inr 15, .inr 16, .inr 17, .inr 18, .inr 19, .inr 20, .inr 21, .inr 22, .inr 23, .inr 24] (va_runV (As := []) (rest := []) ⟨hx, hb, hml, hown, hts⟩ (kX8_factors l D cI cJ cD q hq N Tn Ta Fn Fa r1087 Fn1087 Fa1087 hc) (cwV 0 hts gL_law_X8_factors rfl rfl rfl (by decide +kernel) ⟨(Nat.le_of_ble_eq_true rfl), (Nat.le_of_ble_eq_true rfl)⟩) ⟨gP_blind, va_recv hE.1 hP (ci := 6) (q0 := 0) rfl rfl, fun U hU hW => ⟨rfl, by rw [hU]; exact hP.sub (ws' := (w_0_1_2_3_4 q cI cJ cD Tn Ta Fn Fa)) [0, 1, 2, 3, 4] rfl, gEv.warm hW hE⟩⟩ rfl rfl hl.1 rfl (lv_room (Nat.le_of_ble_eq_true rfl)) dL_law_1087 ⟨hc0, hs0⟩) hP hS (gSubL hqA rfl) rfl rfl rfl rfl rfl (fun H locs hP hS => ?_)
  refine lv_aload_n hx hb dL_law_1090 rfl (lv_at hl 2 rfl) ?_
  obtain ⟨⟨r1091, Mh1091⟩, hc, hf⟩ := bn_some hf
  try dsimp only at hf
  refine g_call0 (ws' := (w_0_1_2_3_4_5_6_7_8_9_10_11_12_13_14_15_16_17_18_19_20_21_22_23_24 q cI cJ cD Tn Ta Fn1087 Fa1087 Ba Rn Ra Rb Rd Ua Wg Wz Ww Wr Mh1091 Mn Mm Mt Mk Ms Me Mp Mw Ml My Oa Od)) (st1 := [.int r1091, .int r1087]) hq [0, 1, 2, 3, 4, 5, 6, 7, 8, 9, 10, 11, 12, 13, 14, 15, 16, 17, 18, 19, 20, 21, 22, 23, 24] [14, 15] [.inr 0, .inr 1, .inr 2, .inr 3, .inr 4, .inr 5, .inr 6, .inr 7, .inr 8, .inr 9, .inr 10, .inr 11, .inr 12, .inr 13, .inl 0, .inl 1, .inr 16, .inr 17, .inr 18, .inr 19, .inr 20, .inr 21, .inr 22, .inr 23, .inr 24] (va_runV (As := []) (rest := [.int r1087]) ⟨hx, hb, hml, hown, hts⟩ (kX9_factors l D cI cJ cD q hq N Mh Mn Mm Mt r1091 Mh1091 hc) (cwV 0 hts gL_law_X9_factors rfl rfl rfl (by decide +kernel) ⟨(Nat.le_of_ble_eq_true rfl), (Nat.le_of_ble_eq_true rfl)⟩) ⟨gP_blind, va_recv hE.1 hP (ci := 7) (q0 := 14) rfl rfl, fun U hU hW => ⟨rfl, by rw [hU]; exact hP.sub (ws' := (w_14_15 q cI cJ cD Mh Mn Mm Mt)) [14, 15] rfl, gEv.warm hW hE⟩⟩ rfl rfl hl.1 rfl (lv_room (Nat.le_of_ble_eq_true rfl)) dL_law_1091 ⟨hc0, hs0⟩) hP hS (gSubL hqA rfl) rfl rfl rfl rfl rfl (fun H locs hP hS => ?_)
  refine lv_icmp_eq (tgt := 2831) hx hb dL_law_1094 (by decide) (fun c_1 => ?_) (fun c_1 => ?_)
  · have hf := (if_pos c_1).symm.trans hf
    refine W.widen (k := 25 + k + 1) (n := 1025 + 6 * k + 6) (by omega) (by omega) ?_
    exact law_J2831 hL C0 hlt D cI cJ cD sa q hq hqA hE hXe N k h5 k28 ih Tn Ta Fn1087 Fa1087 Ba Rn Ra Rb Rd Ua Wg Wz Ww Wr Mh1091 Mn Mm Mt Mk Ms Me Mp Mw Ml My Oa Od x5 hx5 hf _ _ hP hS _ (lv_sub hl [0, 1, 2, 3, 4, 5] rfl)
  · have hf := (if_neg c_1).symm.trans hf
    exact law_J1097 hL C0 hlt D cI cJ cD sa q hq hqA hE hXe N k (by omega) Tn Ta Fn1087 Fa1087 Ba Rn Ra Rb Rd Ua Wg Wz Ww Wr Mh1091 Mn Mm Mt Mk Ms Me Mp Mw Ml My Oa Od hf _ _ hP hS _ (lv_sub hl [] rfl)
set_option maxHeartbeats 4000000 in
set_option maxRecDepth 100000 in
theorem law_J1152 {p : Program} {l : Launch} {e : Env} {s : State} {m : MethodId} {below : List Frame} {meth : Method} {c : Code} {b L : Nat} {xs : Nat → Int32} (hL : L ≤ 2560) (C0 : lw_At p s m meth c b L xs) (hlt : l.stackTraces = false) (D : va_G) (cI cJ cD : ClassId) (sa : Nat → Nat) (q : Nat → Nat) (hq : gInj q) (hqA : ∀ k, k < 25 → s.heap.size ≤ q k) (hE : gEv D cI cJ cD s) (hXe : gXe sa (fun a => s.heap.size ≤ a) s s.heap) (N : Nat) (k : Nat) (h5 : 5 * k + 5 ≤ L) (k28 : Int32 → (Nat → Int32) → Int32 → (Nat → Int32) → (Nat → Int32) → Int32 → (Nat → Int32) → (Nat → Int32) → (Nat → Int32) → (Nat → Int32) → Int32 → Int32 → Int32 → Int32 → Int32 → Int32 → Int32 → (Nat → Int32) → (Nat → Int32) → (Nat → Int32) → (Nat → Int32) → (Nat → Int32) → (Nat → Int32) → (Nat → Int32) → (Nat → Int64) → (Nat → Int64) → (Nat → UInt64) → Int32 → Option Int32) (ih : lawIH p l e s m below meth c b D cI cJ cD q k k28) (Tn : Int32) (Ta : (Nat → Int32)) (Fn : Int32) (Fa : (Nat → Int32)) (Ba : (Nat → Int32)) (Rn : Int32) (Ra : (Nat → Int32)) (Rb : (Nat → Int32)) (Rd : (Nat → Int32)) (Ua : (Nat → Int32)) (Wg : Int32) (Wz : Int32) (Ww : Int32) (Wr : Int32) (Mh : Int32) (Mn : Int32) (Mm : Int32) (Mt : (Nat → Int32)) (Mk : (Nat → Int32)) (Ms : (Nat → Int32)) (Me : (Nat → Int32)) (Mp : (Nat → Int32)) (Mw : (Nat → Int32)) (Ml : (Nat → Int32)) (My : (Nat → Int64)) (Oa : (Nat → Int64)) (Od : (Nat → UInt64)) (x5 : Int32) (hx5 : x5 = nI (5 * k)) (hf : fL_law_J1152 N L xs k28 Tn Ta Fn Fa Ba Rn Ra Rb Rd Ua Wg Wz Ww Wr Mh Mn Mm Mt Mk Ms Me Mp Mw Ml My Oa Od x5 = some 1) : ∀ (H : Heap) (locs : List Loc), va_P D vwCl (w_0_1_2_3_4_5_6_7_8_9_10_11_12_13_14_15_16_17_18_19_20_21_22_23_24 q cI cJ cD Tn Ta Fn Fa Ba Rn Ra Rb Rd Ua Wg Wz Ww Wr Mh Mn Mm Mt Mk Ms Me Mp Mw Ml My Oa Od) H → va_S (fun a : Nat => s.heap.size ≤ a) s.heap H locs → ∀ ls : Array Slot, lv_has ls 10 [(0, .ref b), (1, .ref (q 0)), (2, .ref (q 14)), (3, .ref (q 23)), (4, .ref (q 24)), (5, .int x5)] → W p l e room_1 s m #[Value.ref b] below meth c H locs (25 + k + 1) (1025 + 6 * k + 6) (lw_Z below #[Value.ref b] s) (F0 m 1152 ls []) := by
  obtain ⟨hx, hb, hr, hml, hown, hts0, hX, hbl, hlocks, hgv⟩ := id C0
  have hown : s.vm.findClass RL = some m.cls := hown
  have hts : ∀ w ∈ wsL_law, w.before #[Value.ref b] s = true := fun w h => hts0 w (wsL_law_in w h)
  have hbA : ¬ (fun a : Nat => s.heap.size ≤ a) b := Nat.not_le.mpr hbl
  have hcm : 25 + k + 1 ≤ 1058 := by omega
  have hsm : 1025 + 6 * k + 6 ≤ 9271 := by omega
  have hc0 : 25 + k ≤ 1058 := by omega
  have hs0 : 1025 + 6 * k ≤ 9271 := by omega
  intro H locs hP hS ls hl
  unfold fL_law_J1152 at hf
  refine lv_goto (tgt := 2831) hx hb dL_law_1152 (by decide) ?_
  exact law_J2831 hL C0 hlt D cI cJ cD sa q hq hqA hE hXe N k h5 k28 ih Tn Ta Fn Fa Ba Rn Ra Rb Rd Ua Wg Wz Ww Wr Mh Mn Mm Mt Mk Ms Me Mp Mw Ml My Oa Od x5 hx5 hf _ _ hP hS _ (lv_sub hl [0, 1, 2, 3, 4, 5] rfl)
set_option maxHeartbeats 4000000 in
set_option maxRecDepth 100000 in
theorem law_J1099 {p : Program} {l : Launch} {e : Env} {s : State} {m : MethodId} {below : List Frame} {meth : Method} {c : Code} {b L : Nat} {xs : Nat → Int32} (hL : L ≤ 2560) (C0 : lw_At p s m meth c b L xs) (hlt : l.stackTraces = false) (D : va_G) (cI cJ cD : ClassId) (sa : Nat → Nat) (q : Nat → Nat) (hq : gInj q) (hqA : ∀ k, k < 25 → s.heap.size ≤ q k) (hE : gEv D cI cJ cD s) (hXe : gXe sa (fun a => s.heap.size ≤ a) s s.heap) (N : Nat) (k : Nat) (h5 : 5 * k + 5 ≤ L) (k28 : Int32 → (Nat → Int32) → Int32 → (Nat → Int32) → (Nat → Int32) → Int32 → (Nat → Int32) → (Nat → Int32) → (Nat → Int32) → (Nat → Int32) → Int32 → Int32 → Int32 → Int32 → Int32 → Int32 → Int32 → (Nat → Int32) → (Nat → Int32) → (Nat → Int32) → (Nat → Int32) → (Nat → Int32) → (Nat → Int32) → (Nat → Int32) → (Nat → Int64) → (Nat → Int64) → (Nat → UInt64) → Int32 → Option Int32) (ih : lawIH p l e s m below meth c b D cI cJ cD q k k28) (Tn : Int32) (Ta : (Nat → Int32)) (Fn : Int32) (Fa : (Nat → Int32)) (Ba : (Nat → Int32)) (Rn : Int32) (Ra : (Nat → Int32)) (Rb : (Nat → Int32)) (Rd : (Nat → Int32)) (Ua : (Nat → Int32)) (Wg : Int32) (Wz : Int32) (Ww : Int32) (Wr : Int32) (Mh : Int32) (Mn : Int32) (Mm : Int32) (Mt : (Nat → Int32)) (Mk : (Nat → Int32)) (Ms : (Nat → Int32)) (Me : (Nat → Int32)) (Mp : (Nat → Int32)) (Mw : (Nat → Int32)) (Ml : (Nat → Int32)) (My : (Nat → Int64)) (Oa : (Nat → Int64)) (Od : (Nat → UInt64)) (x5 : Int32) (hx5 : x5 = nI (5 * k)) (hf : fL_law_J1099 N L xs k28 Tn Ta Fn Fa Ba Rn Ra Rb Rd Ua Wg Wz Ww Wr Mh Mn Mm Mt Mk Ms Me Mp Mw Ml My Oa Od x5 = some 1) : ∀ (H : Heap) (locs : List Loc), va_P D vwCl (w_0_1_2_3_4_5_6_7_8_9_10_11_12_13_14_15_16_17_18_19_20_21_22_23_24 q cI cJ cD Tn Ta Fn Fa Ba Rn Ra Rb Rd Ua Wg Wz Ww Wr Mh Mn Mm Mt Mk Ms Me Mp Mw Ml My Oa Od) H → va_S (fun a : Nat => s.heap.size ≤ a) s.heap H locs → ∀ ls : Array Slot, lv_has ls 10 [(0, .ref b), (1, .ref (q 0)), (2, .ref (q 14)), (3, .ref (q 23)), (4, .ref (q 24)), (5, .int x5)] → W p l e room_1 s m #[Value.ref b] below meth c H locs (25 + k) (1025 + 6 * k) (lw_Z below #[Value.ref b] s) (F0 m 1099 ls []) := by
  obtain ⟨hx, hb, hr, hml, hown, hts0, hX, hbl, hlocks, hgv⟩ := id C0
  have hown : s.vm.findClass RL = some m.cls := hown
  have hts : ∀ w ∈ wsL_law, w.before #[Value.ref b] s = true := fun w h => hts0 w (wsL_law_in w h)
  have hbA : ¬ (fun a : Nat => s.heap.size ≤ a) b := Nat.not_le.mpr hbl
  have hcm : 25 + k + 1 ≤ 1058 := by omega
  have hsm : 1025 + 6 * k + 6 ≤ 9271 := by omega
  have hc0 : 25 + k ≤ 1058 := by omega
  have hs0 : 1025 + 6 * k ≤ 9271 := by omega
  intro H locs hP hS ls hl
  unfold fL_law_J1099 at hf
  refine lv_aload_n hx hb dL_law_1099 rfl (lv_at hl 1 rfl) ?_
  refine lv_aload_n hx hb dL_law_1100 rfl (lv_at hl 0 rfl) ?_
  refine lv_iload hx hb dL_law_1101 (lv_at hl 5 rfl) ?_
  refine lv_iconst (v := (1 : Int32)) hx hb dL_law_1103 (by decide) ?_
  refine lv_iadd hx hb dL_law_1104 ?_
  obtain ⟨g_1, hf⟩ := gd_some hf
  refine va_sld hx hb hX hbl hbA hS (inb_in g_1) dL_law_1105 ?_
  refine lv_aload_n hx hb dL_law_1106 rfl (lv_at hl 3 rfl) ?_
  obtain ⟨⟨r1107, Fn1107, Fa1107, Oa1107⟩, hc, hf⟩ := bn_some hf
  try dsimp only at hf
  refine g_call (mc := 1) (ms := 6) (ws' := (w_0_1_2_3_4_5_6_7_8_9_10_11_12_13_14_15_16_17_18_19_20_21_22_23_24 q cI cJ cD Tn Ta Fn1107 Fa1107 Ba Rn Ra Rb Rd Ua Wg Wz Ww Wr Mh Mn Mm Mt Mk Ms Me Mp Mw Ml My Oa1107 Od)) (st1 := [.int r1107]) hq [0, 1, 2, 3, 4, 5, 6, 7, 8, 9, 10, 11, 12, 13, 14, 15, 16, 17, 18, 19, 20, 21, 22, 23, 24] [0, 1, 2, 3, 4, 23] [.inl 0, .inl 1, .inl 2, .inl 3, .inl 4, .inr 5, .inr 6, .inr 7, .inr 8, .inr 9, .inr 10, .inr 11, .inr 12, .inr 13, .inr 14, .inr 15, .inr 16, .inr 17, .inr 18, .inr 19, .inr 20, .inr 21, .inr 22, .inl 5, .inr 24] (vx_runSW (As := [.ref (q 0), .int (xs ((x5 + (1 : Int32))).toNatClampNeg), .ref (q 23)]) (rest := []) ⟨hx, hb, hml, hown, hts⟩ (kL_factorStart l hlt D cI cJ cD sa q hq N Tn Ta Fn Fa Oa (xs ((x5 + (1 : Int32))).toNatClampNeg) r1107 Fn1107 Fa1107 Oa1107 hc) (vx_cwSW 3 hts gL_law_L_factorStart rfl rfl rfl (by decide +kernel) ⟨(Nat.le_of_ble_eq_true rfl), (Nat.le_of_ble_eq_true rfl)⟩) ⟨gPx_blind, fun U hU hW => ⟨rfl, by rw [hU]; exact hP.sub (ws' := (w_0_1_2_3_4_23 q cI cJ cD Tn Ta Fn Fa Oa)) [0, 1, 2, 3, 4, 23] rfl, gEv.warm hW hE, gXe.go hW hS (gMonoL hqA rfl) hXe hU⟩⟩ rfl rfl hl.1 rfl (lv_room (Nat.le_of_ble_eq_true rfl)) dL_law_1107 ⟨hcm, hsm⟩) hP hS (gSubL hqA rfl) rfl rfl rfl rfl rfl (fun H locs hP hS => ?_)
  refine lv_istore (lv' := [(6, .int r1107), (0, .ref b), (1, .ref (q 0)), (2, .ref (q 14)), (3, .ref (q 23)), (4, .ref (q 24)), (5, .int x5)]) hx hb dL_law_1110 hl (by decide) rfl (fun ls hl => ?_)
  refine lv_aload_n hx hb dL_law_1112 rfl (lv_at hl 3 rfl) ?_
  refine lv_aload_n hx hb dL_law_1113 rfl (lv_at hl 1 rfl) ?_
  refine lv_iload hx hb dL_law_1114 (lv_at hl 6 rfl) ?_
  refine lv_iconst (v := (1 : Int32)) hx hb dL_law_1116 (by decide) ?_
  refine lv_iadd hx hb dL_law_1117 ?_
  obtain ⟨g_2, hf⟩ := gd_some hf
  refine va_sld hx hb hX hbl hbA hS (inb_in g_2) dL_law_1118 ?_
  obtain ⟨⟨r1119, Mh1119⟩, hc, hf⟩ := bn_some hf
  try dsimp only at hf
  refine g_call0 (ws' := (w_0_1_2_3_4_5_6_7_8_9_10_11_12_13_14_15_16_17_18_19_20_21_22_23_24 q cI cJ cD Tn Ta Fn1107 Fa1107 Ba Rn Ra Rb Rd Ua Wg Wz Ww Wr Mh1119 Mn Mm Mt Mk Ms Me Mp Mw Ml My Oa1107 Od)) (st1 := [.int r1119]) hq [0, 1, 2, 3, 4, 5, 6, 7, 8, 9, 10, 11, 12, 13, 14, 15, 16, 17, 18, 19, 20, 21, 22, 23, 24] [14, 15] [.inr 0, .inr 1, .inr 2, .inr 3, .inr 4, .inr 5, .inr 6, .inr 7, .inr 8, .inr 9, .inr 10, .inr 11, .inr 12, .inr 13, .inl 0, .inl 1, .inr 16, .inr 17, .inr 18, .inr 19, .inr 20, .inr 21, .inr 22, .inr 23, .inr 24] (va_runV (As := [.int (xs ((x5 + (1 : Int32))).toNatClampNeg)]) (rest := []) ⟨hx, hb, hml, hown, hts⟩ (kX9_factorStart l D cI cJ cD q hq N Mh Mn Mm Mt (xs ((x5 + (1 : Int32))).toNatClampNeg) r1119 Mh1119 hc) (cwV 1 hts gL_law_X9_factorStart rfl rfl rfl (by decide +kernel) ⟨(Nat.le_of_ble_eq_true rfl), (Nat.le_of_ble_eq_true rfl)⟩) ⟨gP_blind, va_recv hE.1 hP (ci := 7) (q0 := 14) rfl rfl, fun U hU hW => ⟨rfl, by rw [hU]; exact hP.sub (ws' := (w_14_15 q cI cJ cD Mh Mn Mm Mt)) [14, 15] rfl, gEv.warm hW hE⟩⟩ rfl rfl hl.1 rfl (lv_room (Nat.le_of_ble_eq_true rfl)) dL_law_1119 ⟨hcm, hsm⟩) hP hS (gSubL hqA rfl) rfl rfl rfl rfl rfl (fun H locs hP hS => ?_)
  refine lv_istore (lv' := [(7, .int r1119), (6, .int r1107), (0, .ref b), (1, .ref (q 0)), (2, .ref (q 14)), (3, .ref (q 23)), (4, .ref (q 24)), (5, .int x5)]) hx hb dL_law_1122 hl (by decide) rfl (fun ls hl => ?_)
  refine lv_aload_n hx hb dL_law_1124 rfl (lv_at hl 4 rfl) ?_
  obtain ⟨r1125, hc, hf⟩ := bn_some hf
  try dsimp only at hf
  refine g_call0 (ws' := (w_0_1_2_3_4_5_6_7_8_9_10_11_12_13_14_15_16_17_18_19_20_21_22_23_24 q cI cJ cD Tn Ta Fn1107 Fa1107 Ba Rn Ra Rb Rd Ua Wg Wz Ww Wr Mh1119 Mn Mm Mt Mk Ms Me Mp Mw Ml My Oa1107 Od)) (st1 := [.int r1125]) hq [0, 1, 2, 3, 4, 5, 6, 7, 8, 9, 10, 11, 12, 13, 14, 15, 16, 17, 18, 19, 20, 21, 22, 23, 24] [14] [.inr 0, .inr 1, .inr 2, .inr 3, .inr 4, .inr 5, .inr 6, .inr 7, .inr 8, .inr 9, .inr 10, .inr 11, .inr 12, .inr 13, .inl 0, .inr 15, .inr 16, .inr 17, .inr 18, .inr 19, .inr 20, .inr 21, .inr 22, .inr 23, .inr 24] (va_runV (As := []) (rest := []) ⟨hx, hb, hml, hown, hts⟩ (kX9_thrown l D cI cJ cD q hq N Mh1119 Mn Mm r1125 hc) (cwV 0 hts gL_law_X9_thrown rfl rfl rfl (by decide +kernel) ⟨(Nat.le_of_ble_eq_true rfl), (Nat.le_of_ble_eq_true rfl)⟩) ⟨gP_blind, va_recv hE.1 hP (ci := 7) (q0 := 14) rfl rfl, fun U hU hW => ⟨rfl, by rw [hU]; exact hP.sub (ws' := (w_14 q cI cJ cD Mh1119 Mn Mm)) [14] rfl, gEv.warm hW hE⟩⟩ rfl rfl hl.1 rfl (lv_room (Nat.le_of_ble_eq_true rfl)) dL_law_1125 ⟨hcm, hsm⟩) hP hS (gSubL hqA rfl) rfl rfl rfl rfl rfl (fun H locs hP hS => ?_)
  refine lv_iload hx hb dL_law_1128 (lv_at hl 1 rfl) ?_
  refine lv_icmp_eq (tgt := 1135) hx hb dL_law_1130 (by decide) (fun c_3 => ?_) (fun c_3 => ?_)
  · have hf := (if_pos c_3).symm.trans hf
    refine lv_iload hx hb dL_law_1135 (lv_at hl 1 rfl) ?_
    refine lv_if_ne (tgt := 1152) hx hb dL_law_1137 (by decide) (fun c_4 => ?_) (fun c_4 => ?_)
    · have hf := (if_neg c_4).symm.trans hf
      exact law_J1152 hL C0 hlt D cI cJ cD sa q hq hqA hE hXe N k h5 k28 ih Tn Ta Fn1107 Fa1107 Ba Rn Ra Rb Rd Ua Wg Wz Ww Wr Mh1119 Mn Mm Mt Mk Ms Me Mp Mw Ml My Oa1107 Od x5 hx5 hf _ _ hP hS _ (lv_sub hl [2, 3, 4, 5, 6, 7] rfl)
    · have hf := (if_pos c_4).symm.trans hf
      refine lv_aload_n hx hb dL_law_1140 rfl (lv_at hl 5 rfl) ?_
      refine lv_iconst (v := (0 : Int32)) hx hb dL_law_1141 (by decide) ?_
      obtain ⟨g_5, hf⟩ := gd_some hf
      refine va_lald hx hb hE.1 hP 23 1 rfl rfl (inb_in g_5) dL_law_1142 ?_
      refine lv_iload hx hb dL_law_1143 (lv_at hl 0 rfl) ?_
      refine lv_i2l (v := (r1119).toInt64) hx hb dL_law_1145 rfl ?_
      refine W.lcmp hx hb dL_law_1146 ?_
      refine lv_if_eq (tgt := 1152) hx hb dL_law_1147 (by decide) (fun c_6 => ?_) (fun c_6 => ?_)
      · have hf := (if_pos c_6).symm.trans hf
        exact law_J1152 hL C0 hlt D cI cJ cD sa q hq hqA hE hXe N k h5 k28 ih Tn Ta Fn1107 Fa1107 Ba Rn Ra Rb Rd Ua Wg Wz Ww Wr Mh1119 Mn Mm Mt Mk Ms Me Mp Mw Ml My Oa1107 Od x5 hx5 hf _ _ hP hS _ (lv_sub hl [2, 3, 4, 5, 6, 7] rfl)
      · have hf := (if_neg c_6).symm.trans hf
        exact law_J1150 hL C0 hlt D cI cJ cD sa q hq hqA hE hXe N k (by omega) Tn Ta Fn1107 Fa1107 Ba Rn Ra Rb Rd Ua Wg Wz Ww Wr Mh1119 Mn Mm Mt Mk Ms Me Mp Mw Ml My Oa1107 Od hf _ _ hP hS _ (lv_sub hl [] rfl)
  · have hf := (if_neg c_3).symm.trans hf
    exact law_J1133 hL C0 hlt D cI cJ cD sa q hq hqA hE hXe N k (by omega) Tn Ta Fn1107 Fa1107 Ba Rn Ra Rb Rd Ua Wg Wz Ww Wr Mh1119 Mn Mm Mt Mk Ms Me Mp Mw Ml My Oa1107 Od hf _ _ hP hS _ (lv_sub hl [] rfl)
set_option maxHeartbeats 4000000 in
set_option maxRecDepth 100000 in
theorem law_J1208 {p : Program} {l : Launch} {e : Env} {s : State} {m : MethodId} {below : List Frame} {meth : Method} {c : Code} {b L : Nat} {xs : Nat → Int32} (hL : L ≤ 2560) (C0 : lw_At p s m meth c b L xs) (hlt : l.stackTraces = false) (D : va_G) (cI cJ cD : ClassId) (sa : Nat → Nat) (q : Nat → Nat) (hq : gInj q) (hqA : ∀ k, k < 25 → s.heap.size ≤ q k) (hE : gEv D cI cJ cD s) (hXe : gXe sa (fun a => s.heap.size ≤ a) s s.heap) (N : Nat) (k : Nat) (h5 : 5 * k + 5 ≤ L) (k28 : Int32 → (Nat → Int32) → Int32 → (Nat → Int32) → (Nat → Int32) → Int32 → (Nat → Int32) → (Nat → Int32) → (Nat → Int32) → (Nat → Int32) → Int32 → Int32 → Int32 → Int32 → Int32 → Int32 → Int32 → (Nat → Int32) → (Nat → Int32) → (Nat → Int32) → (Nat → Int32) → (Nat → Int32) → (Nat → Int32) → (Nat → Int32) → (Nat → Int64) → (Nat → Int64) → (Nat → UInt64) → Int32 → Option Int32) (ih : lawIH p l e s m below meth c b D cI cJ cD q k k28) (Tn : Int32) (Ta : (Nat → Int32)) (Fn : Int32) (Fa : (Nat → Int32)) (Ba : (Nat → Int32)) (Rn : Int32) (Ra : (Nat → Int32)) (Rb : (Nat → Int32)) (Rd : (Nat → Int32)) (Ua : (Nat → Int32)) (Wg : Int32) (Wz : Int32) (Ww : Int32) (Wr : Int32) (Mh : Int32) (Mn : Int32) (Mm : Int32) (Mt : (Nat → Int32)) (Mk : (Nat → Int32)) (Ms : (Nat → Int32)) (Me : (Nat → Int32)) (Mp : (Nat → Int32)) (Mw : (Nat → Int32)) (Ml : (Nat → Int32)) (My : (Nat → Int64)) (Oa : (Nat → Int64)) (Od : (Nat → UInt64)) (x5 : Int32) (hx5 : x5 = nI (5 * k)) (hf : fL_law_J1208 N L xs k28 Tn Ta Fn Fa Ba Rn Ra Rb Rd Ua Wg Wz Ww Wr Mh Mn Mm Mt Mk Ms Me Mp Mw Ml My Oa Od x5 = some 1) : ∀ (H : Heap) (locs : List Loc), va_P D vwCl (w_0_1_2_3_4_5_6_7_8_9_10_11_12_13_14_15_16_17_18_19_20_21_22_23_24 q cI cJ cD Tn Ta Fn Fa Ba Rn Ra Rb Rd Ua Wg Wz Ww Wr Mh Mn Mm Mt Mk Ms Me Mp Mw Ml My Oa Od) H → va_S (fun a : Nat => s.heap.size ≤ a) s.heap H locs → ∀ ls : Array Slot, lv_has ls 10 [(0, .ref b), (1, .ref (q 0)), (2, .ref (q 14)), (3, .ref (q 23)), (4, .ref (q 24)), (5, .int x5)] → W p l e room_1 s m #[Value.ref b] below meth c H locs (25 + k + 1) (1025 + 6 * k + 6) (lw_Z below #[Value.ref b] s) (F0 m 1208 ls []) := by
  obtain ⟨hx, hb, hr, hml, hown, hts0, hX, hbl, hlocks, hgv⟩ := id C0
  have hown : s.vm.findClass RL = some m.cls := hown
  have hts : ∀ w ∈ wsL_law, w.before #[Value.ref b] s = true := fun w h => hts0 w (wsL_law_in w h)
  have hbA : ¬ (fun a : Nat => s.heap.size ≤ a) b := Nat.not_le.mpr hbl
  have hcm : 25 + k + 1 ≤ 1058 := by omega
  have hsm : 1025 + 6 * k + 6 ≤ 9271 := by omega
  have hc0 : 25 + k ≤ 1058 := by omega
  have hs0 : 1025 + 6 * k ≤ 9271 := by omega
  intro H locs hP hS ls hl
  unfold fL_law_J1208 at hf
  refine lv_goto (tgt := 2831) hx hb dL_law_1208 (by decide) ?_
  exact law_J2831 hL C0 hlt D cI cJ cD sa q hq hqA hE hXe N k h5 k28 ih Tn Ta Fn Fa Ba Rn Ra Rb Rd Ua Wg Wz Ww Wr Mh Mn Mm Mt Mk Ms Me Mp Mw Ml My Oa Od x5 hx5 hf _ _ hP hS _ (lv_sub hl [0, 1, 2, 3, 4, 5] rfl)
set_option maxHeartbeats 4000000 in
set_option maxRecDepth 100000 in
theorem law_J1155 {p : Program} {l : Launch} {e : Env} {s : State} {m : MethodId} {below : List Frame} {meth : Method} {c : Code} {b L : Nat} {xs : Nat → Int32} (hL : L ≤ 2560) (C0 : lw_At p s m meth c b L xs) (hlt : l.stackTraces = false) (D : va_G) (cI cJ cD : ClassId) (sa : Nat → Nat) (q : Nat → Nat) (hq : gInj q) (hqA : ∀ k, k < 25 → s.heap.size ≤ q k) (hE : gEv D cI cJ cD s) (hXe : gXe sa (fun a => s.heap.size ≤ a) s s.heap) (N : Nat) (k : Nat) (h5 : 5 * k + 5 ≤ L) (k28 : Int32 → (Nat → Int32) → Int32 → (Nat → Int32) → (Nat → Int32) → Int32 → (Nat → Int32) → (Nat → Int32) → (Nat → Int32) → (Nat → Int32) → Int32 → Int32 → Int32 → Int32 → Int32 → Int32 → Int32 → (Nat → Int32) → (Nat → Int32) → (Nat → Int32) → (Nat → Int32) → (Nat → Int32) → (Nat → Int32) → (Nat → Int32) → (Nat → Int64) → (Nat → Int64) → (Nat → UInt64) → Int32 → Option Int32) (ih : lawIH p l e s m below meth c b D cI cJ cD q k k28) (Tn : Int32) (Ta : (Nat → Int32)) (Fn : Int32) (Fa : (Nat → Int32)) (Ba : (Nat → Int32)) (Rn : Int32) (Ra : (Nat → Int32)) (Rb : (Nat → Int32)) (Rd : (Nat → Int32)) (Ua : (Nat → Int32)) (Wg : Int32) (Wz : Int32) (Ww : Int32) (Wr : Int32) (Mh : Int32) (Mn : Int32) (Mm : Int32) (Mt : (Nat → Int32)) (Mk : (Nat → Int32)) (Ms : (Nat → Int32)) (Me : (Nat → Int32)) (Mp : (Nat → Int32)) (Mw : (Nat → Int32)) (Ml : (Nat → Int32)) (My : (Nat → Int64)) (Oa : (Nat → Int64)) (Od : (Nat → UInt64)) (x5 : Int32) (hx5 : x5 = nI (5 * k)) (hf : fL_law_J1155 N L xs k28 Tn Ta Fn Fa Ba Rn Ra Rb Rd Ua Wg Wz Ww Wr Mh Mn Mm Mt Mk Ms Me Mp Mw Ml My Oa Od x5 = some 1) : ∀ (H : Heap) (locs : List Loc), va_P D vwCl (w_0_1_2_3_4_5_6_7_8_9_10_11_12_13_14_15_16_17_18_19_20_21_22_23_24 q cI cJ cD Tn Ta Fn Fa Ba Rn Ra Rb Rd Ua Wg Wz Ww Wr Mh Mn Mm Mt Mk Ms Me Mp Mw Ml My Oa Od) H → va_S (fun a : Nat => s.heap.size ≤ a) s.heap H locs → ∀ ls : Array Slot, lv_has ls 10 [(0, .ref b), (1, .ref (q 0)), (2, .ref (q 14)), (3, .ref (q 23)), (4, .ref (q 24)), (5, .int x5)] → W p l e room_1 s m #[Value.ref b] below meth c H locs (25 + k) (1025 + 6 * k) (lw_Z below #[Value.ref b] s) (F0 m 1155 ls []) := by
  obtain ⟨hx, hb, hr, hml, hown, hts0, hX, hbl, hlocks, hgv⟩ := id C0
  have hown : s.vm.findClass RL = some m.cls := hown
  have hts : ∀ w ∈ wsL_law, w.before #[Value.ref b] s = true := fun w h => hts0 w (wsL_law_in w h)
  have hbA : ¬ (fun a : Nat => s.heap.size ≤ a) b := Nat.not_le.mpr hbl
  have hcm : 25 + k + 1 ≤ 1058 := by omega
  have hsm : 1025 + 6 * k + 6 ≤ 9271 := by omega
  have hc0 : 25 + k ≤ 1058 := by omega
  have hs0 : 1025 + 6 * k ≤ 9271 := by omega
  intro H locs hP hS ls hl
  unfold fL_law_J1155 at hf
  refine lv_aload_n hx hb dL_law_1155 rfl (lv_at hl 1 rfl) ?_
  refine lv_aload_n hx hb dL_law_1156 rfl (lv_at hl 0 rfl) ?_
  refine lv_iload hx hb dL_law_1157 (lv_at hl 5 rfl) ?_
  refine lv_iconst (v := (1 : Int32)) hx hb dL_law_1159 (by decide) ?_
  refine lv_iadd hx hb dL_law_1160 ?_
  obtain ⟨g_1, hf⟩ := gd_some hf
  refine va_sld hx hb hX hbl hbA hS (inb_in g_1) dL_law_1161 ?_
  refine lv_aload_n hx hb dL_law_1162 rfl (lv_at hl 3 rfl) ?_
  obtain ⟨⟨r1163, Fn1163, Fa1163, Oa1163⟩, hc, hf⟩ := bn_some hf
  try dsimp only at hf
  refine g_call (mc := 1) (ms := 6) (ws' := (w_0_1_2_3_4_5_6_7_8_9_10_11_12_13_14_15_16_17_18_19_20_21_22_23_24 q cI cJ cD Tn Ta Fn1163 Fa1163 Ba Rn Ra Rb Rd Ua Wg Wz Ww Wr Mh Mn Mm Mt Mk Ms Me Mp Mw Ml My Oa1163 Od)) (st1 := [.int r1163]) hq [0, 1, 2, 3, 4, 5, 6, 7, 8, 9, 10, 11, 12, 13, 14, 15, 16, 17, 18, 19, 20, 21, 22, 23, 24] [0, 1, 2, 3, 4, 23] [.inl 0, .inl 1, .inl 2, .inl 3, .inl 4, .inr 5, .inr 6, .inr 7, .inr 8, .inr 9, .inr 10, .inr 11, .inr 12, .inr 13, .inr 14, .inr 15, .inr 16, .inr 17, .inr 18, .inr 19, .inr 20, .inr 21, .inr 22, .inl 5, .inr 24] (vx_runSW (As := [.ref (q 0), .int (xs ((x5 + (1 : Int32))).toNatClampNeg), .ref (q 23)]) (rest := []) ⟨hx, hb, hml, hown, hts⟩ (kL_factorLength l hlt D cI cJ cD sa q hq N Tn Ta Fn Fa Oa (xs ((x5 + (1 : Int32))).toNatClampNeg) r1163 Fn1163 Fa1163 Oa1163 hc) (vx_cwSW 3 hts gL_law_L_factorLength rfl rfl rfl (by decide +kernel) ⟨(Nat.le_of_ble_eq_true rfl), (Nat.le_of_ble_eq_true rfl)⟩) ⟨gPx_blind, fun U hU hW => ⟨rfl, by rw [hU]; exact hP.sub (ws' := (w_0_1_2_3_4_23 q cI cJ cD Tn Ta Fn Fa Oa)) [0, 1, 2, 3, 4, 23] rfl, gEv.warm hW hE, gXe.go hW hS (gMonoL hqA rfl) hXe hU⟩⟩ rfl rfl hl.1 rfl (lv_room (Nat.le_of_ble_eq_true rfl)) dL_law_1163 ⟨hcm, hsm⟩) hP hS (gSubL hqA rfl) rfl rfl rfl rfl rfl (fun H locs hP hS => ?_)
  refine lv_istore (lv' := [(6, .int r1163), (0, .ref b), (1, .ref (q 0)), (2, .ref (q 14)), (3, .ref (q 23)), (4, .ref (q 24)), (5, .int x5)]) hx hb dL_law_1166 hl (by decide) rfl (fun ls hl => ?_)
  refine lv_aload_n hx hb dL_law_1168 rfl (lv_at hl 3 rfl) ?_
  refine lv_aload_n hx hb dL_law_1169 rfl (lv_at hl 1 rfl) ?_
  refine lv_iload hx hb dL_law_1170 (lv_at hl 6 rfl) ?_
  refine lv_iconst (v := (1 : Int32)) hx hb dL_law_1172 (by decide) ?_
  refine lv_iadd hx hb dL_law_1173 ?_
  obtain ⟨g_2, hf⟩ := gd_some hf
  refine va_sld hx hb hX hbl hbA hS (inb_in g_2) dL_law_1174 ?_
  obtain ⟨⟨r1175, Mh1175⟩, hc, hf⟩ := bn_some hf
  try dsimp only at hf
  refine g_call0 (ws' := (w_0_1_2_3_4_5_6_7_8_9_10_11_12_13_14_15_16_17_18_19_20_21_22_23_24 q cI cJ cD Tn Ta Fn1163 Fa1163 Ba Rn Ra Rb Rd Ua Wg Wz Ww Wr Mh1175 Mn Mm Mt Mk Ms Me Mp Mw Ml My Oa1163 Od)) (st1 := [.int r1175]) hq [0, 1, 2, 3, 4, 5, 6, 7, 8, 9, 10, 11, 12, 13, 14, 15, 16, 17, 18, 19, 20, 21, 22, 23, 24] [14, 15] [.inr 0, .inr 1, .inr 2, .inr 3, .inr 4, .inr 5, .inr 6, .inr 7, .inr 8, .inr 9, .inr 10, .inr 11, .inr 12, .inr 13, .inl 0, .inl 1, .inr 16, .inr 17, .inr 18, .inr 19, .inr 20, .inr 21, .inr 22, .inr 23, .inr 24] (va_runV (As := [.int (xs ((x5 + (1 : Int32))).toNatClampNeg)]) (rest := []) ⟨hx, hb, hml, hown, hts⟩ (kX9_factorLength l D cI cJ cD q hq N Mh Mn Mm Mt (xs ((x5 + (1 : Int32))).toNatClampNeg) r1175 Mh1175 hc) (cwV 1 hts gL_law_X9_factorLength rfl rfl rfl (by decide +kernel) ⟨(Nat.le_of_ble_eq_true rfl), (Nat.le_of_ble_eq_true rfl)⟩) ⟨gP_blind, va_recv hE.1 hP (ci := 7) (q0 := 14) rfl rfl, fun U hU hW => ⟨rfl, by rw [hU]; exact hP.sub (ws' := (w_14_15 q cI cJ cD Mh Mn Mm Mt)) [14, 15] rfl, gEv.warm hW hE⟩⟩ rfl rfl hl.1 rfl (lv_room (Nat.le_of_ble_eq_true rfl)) dL_law_1175 ⟨hcm, hsm⟩) hP hS (gSubL hqA rfl) rfl rfl rfl rfl rfl (fun H locs hP hS => ?_)
  refine lv_istore (lv' := [(7, .int r1175), (6, .int r1163), (0, .ref b), (1, .ref (q 0)), (2, .ref (q 14)), (3, .ref (q 23)), (4, .ref (q 24)), (5, .int x5)]) hx hb dL_law_1178 hl (by decide) rfl (fun ls hl => ?_)
  refine lv_aload_n hx hb dL_law_1180 rfl (lv_at hl 4 rfl) ?_
  obtain ⟨r1181, hc, hf⟩ := bn_some hf
  try dsimp only at hf
  refine g_call0 (ws' := (w_0_1_2_3_4_5_6_7_8_9_10_11_12_13_14_15_16_17_18_19_20_21_22_23_24 q cI cJ cD Tn Ta Fn1163 Fa1163 Ba Rn Ra Rb Rd Ua Wg Wz Ww Wr Mh1175 Mn Mm Mt Mk Ms Me Mp Mw Ml My Oa1163 Od)) (st1 := [.int r1181]) hq [0, 1, 2, 3, 4, 5, 6, 7, 8, 9, 10, 11, 12, 13, 14, 15, 16, 17, 18, 19, 20, 21, 22, 23, 24] [14] [.inr 0, .inr 1, .inr 2, .inr 3, .inr 4, .inr 5, .inr 6, .inr 7, .inr 8, .inr 9, .inr 10, .inr 11, .inr 12, .inr 13, .inl 0, .inr 15, .inr 16, .inr 17, .inr 18, .inr 19, .inr 20, .inr 21, .inr 22, .inr 23, .inr 24] (va_runV (As := []) (rest := []) ⟨hx, hb, hml, hown, hts⟩ (kX9_thrown l D cI cJ cD q hq N Mh1175 Mn Mm r1181 hc) (cwV 0 hts gL_law_X9_thrown rfl rfl rfl (by decide +kernel) ⟨(Nat.le_of_ble_eq_true rfl), (Nat.le_of_ble_eq_true rfl)⟩) ⟨gP_blind, va_recv hE.1 hP (ci := 7) (q0 := 14) rfl rfl, fun U hU hW => ⟨rfl, by rw [hU]; exact hP.sub (ws' := (w_14 q cI cJ cD Mh1175 Mn Mm)) [14] rfl, gEv.warm hW hE⟩⟩ rfl rfl hl.1 rfl (lv_room (Nat.le_of_ble_eq_true rfl)) dL_law_1181 ⟨hcm, hsm⟩) hP hS (gSubL hqA rfl) rfl rfl rfl rfl rfl (fun H locs hP hS => ?_)
  refine lv_iload hx hb dL_law_1184 (lv_at hl 1 rfl) ?_
  refine lv_icmp_eq (tgt := 1191) hx hb dL_law_1186 (by decide) (fun c_3 => ?_) (fun c_3 => ?_)
  · have hf := (if_pos c_3).symm.trans hf
    refine lv_iload hx hb dL_law_1191 (lv_at hl 1 rfl) ?_
    refine lv_if_ne (tgt := 1208) hx hb dL_law_1193 (by decide) (fun c_4 => ?_) (fun c_4 => ?_)
    · have hf := (if_neg c_4).symm.trans hf
      exact law_J1208 hL C0 hlt D cI cJ cD sa q hq hqA hE hXe N k h5 k28 ih Tn Ta Fn1163 Fa1163 Ba Rn Ra Rb Rd Ua Wg Wz Ww Wr Mh1175 Mn Mm Mt Mk Ms Me Mp Mw Ml My Oa1163 Od x5 hx5 hf _ _ hP hS _ (lv_sub hl [2, 3, 4, 5, 6, 7] rfl)
    · have hf := (if_pos c_4).symm.trans hf
      refine lv_aload_n hx hb dL_law_1196 rfl (lv_at hl 5 rfl) ?_
      refine lv_iconst (v := (0 : Int32)) hx hb dL_law_1197 (by decide) ?_
      obtain ⟨g_5, hf⟩ := gd_some hf
      refine va_lald hx hb hE.1 hP 23 1 rfl rfl (inb_in g_5) dL_law_1198 ?_
      refine lv_iload hx hb dL_law_1199 (lv_at hl 0 rfl) ?_
      refine lv_i2l (v := (r1175).toInt64) hx hb dL_law_1201 rfl ?_
      refine W.lcmp hx hb dL_law_1202 ?_
      refine lv_if_eq (tgt := 1208) hx hb dL_law_1203 (by decide) (fun c_6 => ?_) (fun c_6 => ?_)
      · have hf := (if_pos c_6).symm.trans hf
        exact law_J1208 hL C0 hlt D cI cJ cD sa q hq hqA hE hXe N k h5 k28 ih Tn Ta Fn1163 Fa1163 Ba Rn Ra Rb Rd Ua Wg Wz Ww Wr Mh1175 Mn Mm Mt Mk Ms Me Mp Mw Ml My Oa1163 Od x5 hx5 hf _ _ hP hS _ (lv_sub hl [2, 3, 4, 5, 6, 7] rfl)
      · have hf := (if_neg c_6).symm.trans hf
        exact law_J1206 hL C0 hlt D cI cJ cD sa q hq hqA hE hXe N k (by omega) Tn Ta Fn1163 Fa1163 Ba Rn Ra Rb Rd Ua Wg Wz Ww Wr Mh1175 Mn Mm Mt Mk Ms Me Mp Mw Ml My Oa1163 Od hf _ _ hP hS _ (lv_sub hl [] rfl)
  · have hf := (if_neg c_3).symm.trans hf
    exact law_J1189 hL C0 hlt D cI cJ cD sa q hq hqA hE hXe N k (by omega) Tn Ta Fn1163 Fa1163 Ba Rn Ra Rb Rd Ua Wg Wz Ww Wr Mh1175 Mn Mm Mt Mk Ms Me Mp Mw Ml My Oa1163 Od hf _ _ hP hS _ (lv_sub hl [] rfl)
set_option maxHeartbeats 4000000 in
set_option maxRecDepth 100000 in
theorem law_J1264 {p : Program} {l : Launch} {e : Env} {s : State} {m : MethodId} {below : List Frame} {meth : Method} {c : Code} {b L : Nat} {xs : Nat → Int32} (hL : L ≤ 2560) (C0 : lw_At p s m meth c b L xs) (hlt : l.stackTraces = false) (D : va_G) (cI cJ cD : ClassId) (sa : Nat → Nat) (q : Nat → Nat) (hq : gInj q) (hqA : ∀ k, k < 25 → s.heap.size ≤ q k) (hE : gEv D cI cJ cD s) (hXe : gXe sa (fun a => s.heap.size ≤ a) s s.heap) (N : Nat) (k : Nat) (h5 : 5 * k + 5 ≤ L) (k28 : Int32 → (Nat → Int32) → Int32 → (Nat → Int32) → (Nat → Int32) → Int32 → (Nat → Int32) → (Nat → Int32) → (Nat → Int32) → (Nat → Int32) → Int32 → Int32 → Int32 → Int32 → Int32 → Int32 → Int32 → (Nat → Int32) → (Nat → Int32) → (Nat → Int32) → (Nat → Int32) → (Nat → Int32) → (Nat → Int32) → (Nat → Int32) → (Nat → Int64) → (Nat → Int64) → (Nat → UInt64) → Int32 → Option Int32) (ih : lawIH p l e s m below meth c b D cI cJ cD q k k28) (Tn : Int32) (Ta : (Nat → Int32)) (Fn : Int32) (Fa : (Nat → Int32)) (Ba : (Nat → Int32)) (Rn : Int32) (Ra : (Nat → Int32)) (Rb : (Nat → Int32)) (Rd : (Nat → Int32)) (Ua : (Nat → Int32)) (Wg : Int32) (Wz : Int32) (Ww : Int32) (Wr : Int32) (Mh : Int32) (Mn : Int32) (Mm : Int32) (Mt : (Nat → Int32)) (Mk : (Nat → Int32)) (Ms : (Nat → Int32)) (Me : (Nat → Int32)) (Mp : (Nat → Int32)) (Mw : (Nat → Int32)) (Ml : (Nat → Int32)) (My : (Nat → Int64)) (Oa : (Nat → Int64)) (Od : (Nat → UInt64)) (x5 : Int32) (hx5 : x5 = nI (5 * k)) (hf : fL_law_J1264 N L xs k28 Tn Ta Fn Fa Ba Rn Ra Rb Rd Ua Wg Wz Ww Wr Mh Mn Mm Mt Mk Ms Me Mp Mw Ml My Oa Od x5 = some 1) : ∀ (H : Heap) (locs : List Loc), va_P D vwCl (w_0_1_2_3_4_5_6_7_8_9_10_11_12_13_14_15_16_17_18_19_20_21_22_23_24 q cI cJ cD Tn Ta Fn Fa Ba Rn Ra Rb Rd Ua Wg Wz Ww Wr Mh Mn Mm Mt Mk Ms Me Mp Mw Ml My Oa Od) H → va_S (fun a : Nat => s.heap.size ≤ a) s.heap H locs → ∀ ls : Array Slot, lv_has ls 10 [(0, .ref b), (1, .ref (q 0)), (2, .ref (q 14)), (3, .ref (q 23)), (4, .ref (q 24)), (5, .int x5)] → W p l e room_1 s m #[Value.ref b] below meth c H locs (25 + k + 1) (1025 + 6 * k + 6) (lw_Z below #[Value.ref b] s) (F0 m 1264 ls []) := by
  obtain ⟨hx, hb, hr, hml, hown, hts0, hX, hbl, hlocks, hgv⟩ := id C0
  have hown : s.vm.findClass RL = some m.cls := hown
  have hts : ∀ w ∈ wsL_law, w.before #[Value.ref b] s = true := fun w h => hts0 w (wsL_law_in w h)
  have hbA : ¬ (fun a : Nat => s.heap.size ≤ a) b := Nat.not_le.mpr hbl
  have hcm : 25 + k + 1 ≤ 1058 := by omega
  have hsm : 1025 + 6 * k + 6 ≤ 9271 := by omega
  have hc0 : 25 + k ≤ 1058 := by omega
  have hs0 : 1025 + 6 * k ≤ 9271 := by omega
  intro H locs hP hS ls hl
  unfold fL_law_J1264 at hf
  refine lv_goto (tgt := 2831) hx hb dL_law_1264 (by decide) ?_
  exact law_J2831 hL C0 hlt D cI cJ cD sa q hq hqA hE hXe N k h5 k28 ih Tn Ta Fn Fa Ba Rn Ra Rb Rd Ua Wg Wz Ww Wr Mh Mn Mm Mt Mk Ms Me Mp Mw Ml My Oa Od x5 hx5 hf _ _ hP hS _ (lv_sub hl [0, 1, 2, 3, 4, 5] rfl)
set_option maxHeartbeats 4000000 in
set_option maxRecDepth 100000 in
theorem law_J1211 {p : Program} {l : Launch} {e : Env} {s : State} {m : MethodId} {below : List Frame} {meth : Method} {c : Code} {b L : Nat} {xs : Nat → Int32} (hL : L ≤ 2560) (C0 : lw_At p s m meth c b L xs) (hlt : l.stackTraces = false) (D : va_G) (cI cJ cD : ClassId) (sa : Nat → Nat) (q : Nat → Nat) (hq : gInj q) (hqA : ∀ k, k < 25 → s.heap.size ≤ q k) (hE : gEv D cI cJ cD s) (hXe : gXe sa (fun a => s.heap.size ≤ a) s s.heap) (N : Nat) (k : Nat) (h5 : 5 * k + 5 ≤ L) (k28 : Int32 → (Nat → Int32) → Int32 → (Nat → Int32) → (Nat → Int32) → Int32 → (Nat → Int32) → (Nat → Int32) → (Nat → Int32) → (Nat → Int32) → Int32 → Int32 → Int32 → Int32 → Int32 → Int32 → Int32 → (Nat → Int32) → (Nat → Int32) → (Nat → Int32) → (Nat → Int32) → (Nat → Int32) → (Nat → Int32) → (Nat → Int32) → (Nat → Int64) → (Nat → Int64) → (Nat → UInt64) → Int32 → Option Int32) (ih : lawIH p l e s m below meth c b D cI cJ cD q k k28) (Tn : Int32) (Ta : (Nat → Int32)) (Fn : Int32) (Fa : (Nat → Int32)) (Ba : (Nat → Int32)) (Rn : Int32) (Ra : (Nat → Int32)) (Rb : (Nat → Int32)) (Rd : (Nat → Int32)) (Ua : (Nat → Int32)) (Wg : Int32) (Wz : Int32) (Ww : Int32) (Wr : Int32) (Mh : Int32) (Mn : Int32) (Mm : Int32) (Mt : (Nat → Int32)) (Mk : (Nat → Int32)) (Ms : (Nat → Int32)) (Me : (Nat → Int32)) (Mp : (Nat → Int32)) (Mw : (Nat → Int32)) (Ml : (Nat → Int32)) (My : (Nat → Int64)) (Oa : (Nat → Int64)) (Od : (Nat → UInt64)) (x5 : Int32) (hx5 : x5 = nI (5 * k)) (hf : fL_law_J1211 N L xs k28 Tn Ta Fn Fa Ba Rn Ra Rb Rd Ua Wg Wz Ww Wr Mh Mn Mm Mt Mk Ms Me Mp Mw Ml My Oa Od x5 = some 1) : ∀ (H : Heap) (locs : List Loc), va_P D vwCl (w_0_1_2_3_4_5_6_7_8_9_10_11_12_13_14_15_16_17_18_19_20_21_22_23_24 q cI cJ cD Tn Ta Fn Fa Ba Rn Ra Rb Rd Ua Wg Wz Ww Wr Mh Mn Mm Mt Mk Ms Me Mp Mw Ml My Oa Od) H → va_S (fun a : Nat => s.heap.size ≤ a) s.heap H locs → ∀ ls : Array Slot, lv_has ls 10 [(0, .ref b), (1, .ref (q 0)), (2, .ref (q 14)), (3, .ref (q 23)), (4, .ref (q 24)), (5, .int x5)] → W p l e room_1 s m #[Value.ref b] below meth c H locs (25 + k) (1025 + 6 * k) (lw_Z below #[Value.ref b] s) (F0 m 1211 ls []) := by
  obtain ⟨hx, hb, hr, hml, hown, hts0, hX, hbl, hlocks, hgv⟩ := id C0
  have hown : s.vm.findClass RL = some m.cls := hown
  have hts : ∀ w ∈ wsL_law, w.before #[Value.ref b] s = true := fun w h => hts0 w (wsL_law_in w h)
  have hbA : ¬ (fun a : Nat => s.heap.size ≤ a) b := Nat.not_le.mpr hbl
  have hcm : 25 + k + 1 ≤ 1058 := by omega
  have hsm : 1025 + 6 * k + 6 ≤ 9271 := by omega
  have hc0 : 25 + k ≤ 1058 := by omega
  have hs0 : 1025 + 6 * k ≤ 9271 := by omega
  intro H locs hP hS ls hl
  unfold fL_law_J1211 at hf
  refine lv_aload_n hx hb dL_law_1211 rfl (lv_at hl 1 rfl) ?_
  refine lv_aload_n hx hb dL_law_1212 rfl (lv_at hl 0 rfl) ?_
  refine lv_iload hx hb dL_law_1213 (lv_at hl 5 rfl) ?_
  refine lv_iconst (v := (1 : Int32)) hx hb dL_law_1215 (by decide) ?_
  refine lv_iadd hx hb dL_law_1216 ?_
  obtain ⟨g_1, hf⟩ := gd_some hf
  refine va_sld hx hb hX hbl hbA hS (inb_in g_1) dL_law_1217 ?_
  refine lv_aload_n hx hb dL_law_1218 rfl (lv_at hl 3 rfl) ?_
  obtain ⟨⟨r1219, Fn1219, Fa1219, Oa1219⟩, hc, hf⟩ := bn_some hf
  try dsimp only at hf
  refine g_call (mc := 1) (ms := 6) (ws' := (w_0_1_2_3_4_5_6_7_8_9_10_11_12_13_14_15_16_17_18_19_20_21_22_23_24 q cI cJ cD Tn Ta Fn1219 Fa1219 Ba Rn Ra Rb Rd Ua Wg Wz Ww Wr Mh Mn Mm Mt Mk Ms Me Mp Mw Ml My Oa1219 Od)) (st1 := [.int r1219]) hq [0, 1, 2, 3, 4, 5, 6, 7, 8, 9, 10, 11, 12, 13, 14, 15, 16, 17, 18, 19, 20, 21, 22, 23, 24] [0, 1, 2, 3, 4, 23] [.inl 0, .inl 1, .inl 2, .inl 3, .inl 4, .inr 5, .inr 6, .inr 7, .inr 8, .inr 9, .inr 10, .inr 11, .inr 12, .inr 13, .inr 14, .inr 15, .inr 16, .inr 17, .inr 18, .inr 19, .inr 20, .inr 21, .inr 22, .inl 5, .inr 24] (vx_runSW (As := [.ref (q 0), .int (xs ((x5 + (1 : Int32))).toNatClampNeg), .ref (q 23)]) (rest := []) ⟨hx, hb, hml, hown, hts⟩ (kL_factorOver l hlt D cI cJ cD sa q hq N Tn Ta Fn Fa Oa (xs ((x5 + (1 : Int32))).toNatClampNeg) r1219 Fn1219 Fa1219 Oa1219 hc) (vx_cwSW 3 hts gL_law_L_factorOver rfl rfl rfl (by decide +kernel) ⟨(Nat.le_of_ble_eq_true rfl), (Nat.le_of_ble_eq_true rfl)⟩) ⟨gPx_blind, fun U hU hW => ⟨rfl, by rw [hU]; exact hP.sub (ws' := (w_0_1_2_3_4_23 q cI cJ cD Tn Ta Fn Fa Oa)) [0, 1, 2, 3, 4, 23] rfl, gEv.warm hW hE, gXe.go hW hS (gMonoL hqA rfl) hXe hU⟩⟩ rfl rfl hl.1 rfl (lv_room (Nat.le_of_ble_eq_true rfl)) dL_law_1219 ⟨hcm, hsm⟩) hP hS (gSubL hqA rfl) rfl rfl rfl rfl rfl (fun H locs hP hS => ?_)
  refine lv_istore (lv' := [(6, .int r1219), (0, .ref b), (1, .ref (q 0)), (2, .ref (q 14)), (3, .ref (q 23)), (4, .ref (q 24)), (5, .int x5)]) hx hb dL_law_1222 hl (by decide) rfl (fun ls hl => ?_)
  refine lv_aload_n hx hb dL_law_1224 rfl (lv_at hl 3 rfl) ?_
  refine lv_aload_n hx hb dL_law_1225 rfl (lv_at hl 1 rfl) ?_
  refine lv_iload hx hb dL_law_1226 (lv_at hl 6 rfl) ?_
  refine lv_iconst (v := (1 : Int32)) hx hb dL_law_1228 (by decide) ?_
  refine lv_iadd hx hb dL_law_1229 ?_
  obtain ⟨g_2, hf⟩ := gd_some hf
  refine va_sld hx hb hX hbl hbA hS (inb_in g_2) dL_law_1230 ?_
  obtain ⟨⟨r1231, Mh1231⟩, hc, hf⟩ := bn_some hf
  try dsimp only at hf
  refine g_call0 (ws' := (w_0_1_2_3_4_5_6_7_8_9_10_11_12_13_14_15_16_17_18_19_20_21_22_23_24 q cI cJ cD Tn Ta Fn1219 Fa1219 Ba Rn Ra Rb Rd Ua Wg Wz Ww Wr Mh1231 Mn Mm Mt Mk Ms Me Mp Mw Ml My Oa1219 Od)) (st1 := [.int r1231]) hq [0, 1, 2, 3, 4, 5, 6, 7, 8, 9, 10, 11, 12, 13, 14, 15, 16, 17, 18, 19, 20, 21, 22, 23, 24] [14, 15] [.inr 0, .inr 1, .inr 2, .inr 3, .inr 4, .inr 5, .inr 6, .inr 7, .inr 8, .inr 9, .inr 10, .inr 11, .inr 12, .inr 13, .inl 0, .inl 1, .inr 16, .inr 17, .inr 18, .inr 19, .inr 20, .inr 21, .inr 22, .inr 23, .inr 24] (va_runV (As := [.int (xs ((x5 + (1 : Int32))).toNatClampNeg)]) (rest := []) ⟨hx, hb, hml, hown, hts⟩ (kX9_factorOver l D cI cJ cD q hq N Mh Mn Mm Mt (xs ((x5 + (1 : Int32))).toNatClampNeg) r1231 Mh1231 hc) (cwV 1 hts gL_law_X9_factorOver rfl rfl rfl (by decide +kernel) ⟨(Nat.le_of_ble_eq_true rfl), (Nat.le_of_ble_eq_true rfl)⟩) ⟨gP_blind, va_recv hE.1 hP (ci := 7) (q0 := 14) rfl rfl, fun U hU hW => ⟨rfl, by rw [hU]; exact hP.sub (ws' := (w_14_15 q cI cJ cD Mh Mn Mm Mt)) [14, 15] rfl, gEv.warm hW hE⟩⟩ rfl rfl hl.1 rfl (lv_room (Nat.le_of_ble_eq_true rfl)) dL_law_1231 ⟨hcm, hsm⟩) hP hS (gSubL hqA rfl) rfl rfl rfl rfl rfl (fun H locs hP hS => ?_)
  refine lv_istore (lv' := [(7, .int r1231), (6, .int r1219), (0, .ref b), (1, .ref (q 0)), (2, .ref (q 14)), (3, .ref (q 23)), (4, .ref (q 24)), (5, .int x5)]) hx hb dL_law_1234 hl (by decide) rfl (fun ls hl => ?_)
  refine lv_aload_n hx hb dL_law_1236 rfl (lv_at hl 4 rfl) ?_
  obtain ⟨r1237, hc, hf⟩ := bn_some hf
  try dsimp only at hf
  refine g_call0 (ws' := (w_0_1_2_3_4_5_6_7_8_9_10_11_12_13_14_15_16_17_18_19_20_21_22_23_24 q cI cJ cD Tn Ta Fn1219 Fa1219 Ba Rn Ra Rb Rd Ua Wg Wz Ww Wr Mh1231 Mn Mm Mt Mk Ms Me Mp Mw Ml My Oa1219 Od)) (st1 := [.int r1237]) hq [0, 1, 2, 3, 4, 5, 6, 7, 8, 9, 10, 11, 12, 13, 14, 15, 16, 17, 18, 19, 20, 21, 22, 23, 24] [14] [.inr 0, .inr 1, .inr 2, .inr 3, .inr 4, .inr 5, .inr 6, .inr 7, .inr 8, .inr 9, .inr 10, .inr 11, .inr 12, .inr 13, .inl 0, .inr 15, .inr 16, .inr 17, .inr 18, .inr 19, .inr 20, .inr 21, .inr 22, .inr 23, .inr 24] (va_runV (As := []) (rest := []) ⟨hx, hb, hml, hown, hts⟩ (kX9_thrown l D cI cJ cD q hq N Mh1231 Mn Mm r1237 hc) (cwV 0 hts gL_law_X9_thrown rfl rfl rfl (by decide +kernel) ⟨(Nat.le_of_ble_eq_true rfl), (Nat.le_of_ble_eq_true rfl)⟩) ⟨gP_blind, va_recv hE.1 hP (ci := 7) (q0 := 14) rfl rfl, fun U hU hW => ⟨rfl, by rw [hU]; exact hP.sub (ws' := (w_14 q cI cJ cD Mh1231 Mn Mm)) [14] rfl, gEv.warm hW hE⟩⟩ rfl rfl hl.1 rfl (lv_room (Nat.le_of_ble_eq_true rfl)) dL_law_1237 ⟨hcm, hsm⟩) hP hS (gSubL hqA rfl) rfl rfl rfl rfl rfl (fun H locs hP hS => ?_)
  refine lv_iload hx hb dL_law_1240 (lv_at hl 1 rfl) ?_
  refine lv_icmp_eq (tgt := 1247) hx hb dL_law_1242 (by decide) (fun c_3 => ?_) (fun c_3 => ?_)
  · have hf := (if_pos c_3).symm.trans hf
    refine lv_iload hx hb dL_law_1247 (lv_at hl 1 rfl) ?_
    refine lv_if_ne (tgt := 1264) hx hb dL_law_1249 (by decide) (fun c_4 => ?_) (fun c_4 => ?_)
    · have hf := (if_neg c_4).symm.trans hf
      exact law_J1264 hL C0 hlt D cI cJ cD sa q hq hqA hE hXe N k h5 k28 ih Tn Ta Fn1219 Fa1219 Ba Rn Ra Rb Rd Ua Wg Wz Ww Wr Mh1231 Mn Mm Mt Mk Ms Me Mp Mw Ml My Oa1219 Od x5 hx5 hf _ _ hP hS _ (lv_sub hl [2, 3, 4, 5, 6, 7] rfl)
    · have hf := (if_pos c_4).symm.trans hf
      refine lv_aload_n hx hb dL_law_1252 rfl (lv_at hl 5 rfl) ?_
      refine lv_iconst (v := (0 : Int32)) hx hb dL_law_1253 (by decide) ?_
      obtain ⟨g_5, hf⟩ := gd_some hf
      refine va_lald hx hb hE.1 hP 23 1 rfl rfl (inb_in g_5) dL_law_1254 ?_
      refine lv_iload hx hb dL_law_1255 (lv_at hl 0 rfl) ?_
      refine lv_i2l (v := (r1231).toInt64) hx hb dL_law_1257 rfl ?_
      refine W.lcmp hx hb dL_law_1258 ?_
      refine lv_if_eq (tgt := 1264) hx hb dL_law_1259 (by decide) (fun c_6 => ?_) (fun c_6 => ?_)
      · have hf := (if_pos c_6).symm.trans hf
        exact law_J1264 hL C0 hlt D cI cJ cD sa q hq hqA hE hXe N k h5 k28 ih Tn Ta Fn1219 Fa1219 Ba Rn Ra Rb Rd Ua Wg Wz Ww Wr Mh1231 Mn Mm Mt Mk Ms Me Mp Mw Ml My Oa1219 Od x5 hx5 hf _ _ hP hS _ (lv_sub hl [2, 3, 4, 5, 6, 7] rfl)
      · have hf := (if_neg c_6).symm.trans hf
        exact law_J1262 hL C0 hlt D cI cJ cD sa q hq hqA hE hXe N k (by omega) Tn Ta Fn1219 Fa1219 Ba Rn Ra Rb Rd Ua Wg Wz Ww Wr Mh1231 Mn Mm Mt Mk Ms Me Mp Mw Ml My Oa1219 Od hf _ _ hP hS _ (lv_sub hl [] rfl)
  · have hf := (if_neg c_3).symm.trans hf
    exact law_J1245 hL C0 hlt D cI cJ cD sa q hq hqA hE hXe N k (by omega) Tn Ta Fn1219 Fa1219 Ba Rn Ra Rb Rd Ua Wg Wz Ww Wr Mh1231 Mn Mm Mt Mk Ms Me Mp Mw Ml My Oa1219 Od hf _ _ hP hS _ (lv_sub hl [] rfl)
set_option maxHeartbeats 4000000 in
set_option maxRecDepth 100000 in
theorem law_J1348 {p : Program} {l : Launch} {e : Env} {s : State} {m : MethodId} {below : List Frame} {meth : Method} {c : Code} {b L : Nat} {xs : Nat → Int32} (hL : L ≤ 2560) (C0 : lw_At p s m meth c b L xs) (hlt : l.stackTraces = false) (D : va_G) (cI cJ cD : ClassId) (sa : Nat → Nat) (q : Nat → Nat) (hq : gInj q) (hqA : ∀ k, k < 25 → s.heap.size ≤ q k) (hE : gEv D cI cJ cD s) (hXe : gXe sa (fun a => s.heap.size ≤ a) s s.heap) (N : Nat) (k : Nat) (h5 : 5 * k + 5 ≤ L) (k28 : Int32 → (Nat → Int32) → Int32 → (Nat → Int32) → (Nat → Int32) → Int32 → (Nat → Int32) → (Nat → Int32) → (Nat → Int32) → (Nat → Int32) → Int32 → Int32 → Int32 → Int32 → Int32 → Int32 → Int32 → (Nat → Int32) → (Nat → Int32) → (Nat → Int32) → (Nat → Int32) → (Nat → Int32) → (Nat → Int32) → (Nat → Int32) → (Nat → Int64) → (Nat → Int64) → (Nat → UInt64) → Int32 → Option Int32) (ih : lawIH p l e s m below meth c b D cI cJ cD q k k28) (Tn : Int32) (Ta : (Nat → Int32)) (Fn : Int32) (Fa : (Nat → Int32)) (Ba : (Nat → Int32)) (Rn : Int32) (Ra : (Nat → Int32)) (Rb : (Nat → Int32)) (Rd : (Nat → Int32)) (Ua : (Nat → Int32)) (Wg : Int32) (Wz : Int32) (Ww : Int32) (Wr : Int32) (Mh : Int32) (Mn : Int32) (Mm : Int32) (Mt : (Nat → Int32)) (Mk : (Nat → Int32)) (Ms : (Nat → Int32)) (Me : (Nat → Int32)) (Mp : (Nat → Int32)) (Mw : (Nat → Int32)) (Ml : (Nat → Int32)) (My : (Nat → Int64)) (Oa : (Nat → Int64)) (Od : (Nat → UInt64)) (x5 : Int32) (hx5 : x5 = nI (5 * k)) (hf : fL_law_J1348 N L xs k28 Tn Ta Fn Fa Ba Rn Ra Rb Rd Ua Wg Wz Ww Wr Mh Mn Mm Mt Mk Ms Me Mp Mw Ml My Oa Od x5 = some 1) : ∀ (H : Heap) (locs : List Loc), va_P D vwCl (w_0_1_2_3_4_5_6_7_8_9_10_11_12_13_14_15_16_17_18_19_20_21_22_23_24 q cI cJ cD Tn Ta Fn Fa Ba Rn Ra Rb Rd Ua Wg Wz Ww Wr Mh Mn Mm Mt Mk Ms Me Mp Mw Ml My Oa Od) H → va_S (fun a : Nat => s.heap.size ≤ a) s.heap H locs → ∀ ls : Array Slot, lv_has ls 10 [(0, .ref b), (1, .ref (q 0)), (2, .ref (q 14)), (3, .ref (q 23)), (4, .ref (q 24)), (5, .int x5)] → W p l e room_1 s m #[Value.ref b] below meth c H locs (25 + k + 1) (1025 + 6 * k + 6) (lw_Z below #[Value.ref b] s) (F0 m 1348 ls []) := by
  obtain ⟨hx, hb, hr, hml, hown, hts0, hX, hbl, hlocks, hgv⟩ := id C0
  have hown : s.vm.findClass RL = some m.cls := hown
  have hts : ∀ w ∈ wsL_law, w.before #[Value.ref b] s = true := fun w h => hts0 w (wsL_law_in w h)
  have hbA : ¬ (fun a : Nat => s.heap.size ≤ a) b := Nat.not_le.mpr hbl
  have hcm : 25 + k + 1 ≤ 1058 := by omega
  have hsm : 1025 + 6 * k + 6 ≤ 9271 := by omega
  have hc0 : 25 + k ≤ 1058 := by omega
  have hs0 : 1025 + 6 * k ≤ 9271 := by omega
  intro H locs hP hS ls hl
  unfold fL_law_J1348 at hf
  refine lv_goto (tgt := 2831) hx hb dL_law_1348 (by decide) ?_
  exact law_J2831 hL C0 hlt D cI cJ cD sa q hq hqA hE hXe N k h5 k28 ih Tn Ta Fn Fa Ba Rn Ra Rb Rd Ua Wg Wz Ww Wr Mh Mn Mm Mt Mk Ms Me Mp Mw Ml My Oa Od x5 hx5 hf _ _ hP hS _ (lv_sub hl [0, 1, 2, 3, 4, 5] rfl)
set_option maxHeartbeats 4000000 in
set_option maxRecDepth 100000 in
theorem law_J1315 {p : Program} {l : Launch} {e : Env} {s : State} {m : MethodId} {below : List Frame} {meth : Method} {c : Code} {b L : Nat} {xs : Nat → Int32} (hL : L ≤ 2560) (C0 : lw_At p s m meth c b L xs) (hlt : l.stackTraces = false) (D : va_G) (cI cJ cD : ClassId) (sa : Nat → Nat) (q : Nat → Nat) (hq : gInj q) (hqA : ∀ k, k < 25 → s.heap.size ≤ q k) (hE : gEv D cI cJ cD s) (hXe : gXe sa (fun a => s.heap.size ≤ a) s s.heap) (N : Nat) (k : Nat) (h5 : 5 * k + 5 ≤ L) (k28 : Int32 → (Nat → Int32) → Int32 → (Nat → Int32) → (Nat → Int32) → Int32 → (Nat → Int32) → (Nat → Int32) → (Nat → Int32) → (Nat → Int32) → Int32 → Int32 → Int32 → Int32 → Int32 → Int32 → Int32 → (Nat → Int32) → (Nat → Int32) → (Nat → Int32) → (Nat → Int32) → (Nat → Int32) → (Nat → Int32) → (Nat → Int32) → (Nat → Int64) → (Nat → Int64) → (Nat → UInt64) → Int32 → Option Int32) (ih : lawIH p l e s m below meth c b D cI cJ cD q k k28) (Tn : Int32) (Ta : (Nat → Int32)) (Fn : Int32) (Fa : (Nat → Int32)) (Ba : (Nat → Int32)) (Rn : Int32) (Ra : (Nat → Int32)) (Rb : (Nat → Int32)) (Rd : (Nat → Int32)) (Ua : (Nat → Int32)) (Wg : Int32) (Wz : Int32) (Ww : Int32) (Wr : Int32) (Mh : Int32) (Mn : Int32) (Mm : Int32) (Mt : (Nat → Int32)) (Mk : (Nat → Int32)) (Ms : (Nat → Int32)) (Me : (Nat → Int32)) (Mp : (Nat → Int32)) (Mw : (Nat → Int32)) (Ml : (Nat → Int32)) (My : (Nat → Int64)) (Oa : (Nat → Int64)) (Od : (Nat → UInt64)) (x5 : Int32) (x6 : Int32) (y1 : Int32) (y2 : Int32) (hx5 : x5 = nI (5 * k)) (hf : fL_law_J1315 N L xs k28 Tn Ta Fn Fa Ba Rn Ra Rb Rd Ua Wg Wz Ww Wr Mh Mn Mm Mt Mk Ms Me Mp Mw Ml My Oa Od x5 x6 y1 y2 = some 1) : ∀ (H : Heap) (locs : List Loc), va_P D vwCl (w_0_1_2_3_4_5_6_7_8_9_10_11_12_13_14_15_16_17_18_19_20_21_22_23_24 q cI cJ cD Tn Ta Fn Fa Ba Rn Ra Rb Rd Ua Wg Wz Ww Wr Mh Mn Mm Mt Mk Ms Me Mp Mw Ml My Oa Od) H → va_S (fun a : Nat => s.heap.size ≤ a) s.heap H locs → ∀ ls : Array Slot, lv_has ls 10 [(0, .ref b), (1, .ref (q 0)), (2, .ref (q 14)), (3, .ref (q 23)), (4, .ref (q 24)), (5, .int x5), (6, .int x6)] → W p l e room_1 s m #[Value.ref b] below meth c H locs (25 + k + 1) (1025 + 6 * k + 6) (lw_Z below #[Value.ref b] s) (F0 m 1315 ls [.int y2, .int y1, .ref (q 14)]) := by
  obtain ⟨hx, hb, hr, hml, hown, hts0, hX, hbl, hlocks, hgv⟩ := id C0
  have hown : s.vm.findClass RL = some m.cls := hown
  have hts : ∀ w ∈ wsL_law, w.before #[Value.ref b] s = true := fun w h => hts0 w (wsL_law_in w h)
  have hbA : ¬ (fun a : Nat => s.heap.size ≤ a) b := Nat.not_le.mpr hbl
  have hcm : 25 + k + 1 ≤ 1058 := by omega
  have hsm : 1025 + 6 * k + 6 ≤ 9271 := by omega
  have hc0 : 25 + k ≤ 1058 := by omega
  have hs0 : 1025 + 6 * k ≤ 9271 := by omega
  intro H locs hP hS ls hl
  unfold fL_law_J1315 at hf
  obtain ⟨⟨r1315, Mh1315⟩, hc, hf⟩ := bn_some hf
  try dsimp only at hf
  refine g_call0 (ws' := (w_0_1_2_3_4_5_6_7_8_9_10_11_12_13_14_15_16_17_18_19_20_21_22_23_24 q cI cJ cD Tn Ta Fn Fa Ba Rn Ra Rb Rd Ua Wg Wz Ww Wr Mh1315 Mn Mm Mt Mk Ms Me Mp Mw Ml My Oa Od)) (st1 := [.int r1315]) hq [0, 1, 2, 3, 4, 5, 6, 7, 8, 9, 10, 11, 12, 13, 14, 15, 16, 17, 18, 19, 20, 21, 22, 23, 24] [14, 15] [.inr 0, .inr 1, .inr 2, .inr 3, .inr 4, .inr 5, .inr 6, .inr 7, .inr 8, .inr 9, .inr 10, .inr 11, .inr 12, .inr 13, .inl 0, .inl 1, .inr 16, .inr 17, .inr 18, .inr 19, .inr 20, .inr 21, .inr 22, .inr 23, .inr 24] (va_runV (As := [.int y1, .int y2]) (rest := []) ⟨hx, hb, hml, hown, hts⟩ (kX9_longestLyndon l D cI cJ cD q hq N Mh Mn Mm Mt y1 y2 r1315 Mh1315 hc) (cwV 2 hts gL_law_X9_longestLyndon rfl rfl rfl (by decide +kernel) ⟨(Nat.le_of_ble_eq_true rfl), (Nat.le_of_ble_eq_true rfl)⟩) ⟨gP_blind, va_recv hE.1 hP (ci := 7) (q0 := 14) rfl rfl, fun U hU hW => ⟨rfl, by rw [hU]; exact hP.sub (ws' := (w_14_15 q cI cJ cD Mh Mn Mm Mt)) [14, 15] rfl, gEv.warm hW hE⟩⟩ rfl rfl hl.1 rfl (lv_room (Nat.le_of_ble_eq_true rfl)) dL_law_1315 ⟨hcm, hsm⟩) hP hS (gSubL hqA rfl) rfl rfl rfl rfl rfl (fun H locs hP hS => ?_)
  refine lv_istore (lv' := [(7, .int r1315), (0, .ref b), (1, .ref (q 0)), (2, .ref (q 14)), (3, .ref (q 23)), (4, .ref (q 24)), (5, .int x5), (6, .int x6)]) hx hb dL_law_1318 hl (by decide) rfl (fun ls hl => ?_)
  refine lv_aload_n hx hb dL_law_1320 rfl (lv_at hl 3 rfl) ?_
  obtain ⟨r1321, hc, hf⟩ := bn_some hf
  try dsimp only at hf
  refine g_call0 (ws' := (w_0_1_2_3_4_5_6_7_8_9_10_11_12_13_14_15_16_17_18_19_20_21_22_23_24 q cI cJ cD Tn Ta Fn Fa Ba Rn Ra Rb Rd Ua Wg Wz Ww Wr Mh1315 Mn Mm Mt Mk Ms Me Mp Mw Ml My Oa Od)) (st1 := [.int r1321]) hq [0, 1, 2, 3, 4, 5, 6, 7, 8, 9, 10, 11, 12, 13, 14, 15, 16, 17, 18, 19, 20, 21, 22, 23, 24] [14] [.inr 0, .inr 1, .inr 2, .inr 3, .inr 4, .inr 5, .inr 6, .inr 7, .inr 8, .inr 9, .inr 10, .inr 11, .inr 12, .inr 13, .inl 0, .inr 15, .inr 16, .inr 17, .inr 18, .inr 19, .inr 20, .inr 21, .inr 22, .inr 23, .inr 24] (va_runV (As := []) (rest := []) ⟨hx, hb, hml, hown, hts⟩ (kX9_thrown l D cI cJ cD q hq N Mh1315 Mn Mm r1321 hc) (cwV 0 hts gL_law_X9_thrown rfl rfl rfl (by decide +kernel) ⟨(Nat.le_of_ble_eq_true rfl), (Nat.le_of_ble_eq_true rfl)⟩) ⟨gP_blind, va_recv hE.1 hP (ci := 7) (q0 := 14) rfl rfl, fun U hU hW => ⟨rfl, by rw [hU]; exact hP.sub (ws' := (w_14 q cI cJ cD Mh1315 Mn Mm)) [14] rfl, gEv.warm hW hE⟩⟩ rfl rfl hl.1 rfl (lv_room (Nat.le_of_ble_eq_true rfl)) dL_law_1321 ⟨hcm, hsm⟩) hP hS (gSubL hqA rfl) rfl rfl rfl rfl rfl (fun H locs hP hS => ?_)
  refine lv_iload hx hb dL_law_1324 (lv_at hl 7 rfl) ?_
  refine lv_icmp_eq (tgt := 1331) hx hb dL_law_1326 (by decide) (fun c_1 => ?_) (fun c_1 => ?_)
  · have hf := (if_pos c_1).symm.trans hf
    refine lv_iload hx hb dL_law_1331 (lv_at hl 7 rfl) ?_
    refine lv_if_ne (tgt := 1348) hx hb dL_law_1333 (by decide) (fun c_2 => ?_) (fun c_2 => ?_)
    · have hf := (if_neg c_2).symm.trans hf
      exact law_J1348 hL C0 hlt D cI cJ cD sa q hq hqA hE hXe N k h5 k28 ih Tn Ta Fn Fa Ba Rn Ra Rb Rd Ua Wg Wz Ww Wr Mh1315 Mn Mm Mt Mk Ms Me Mp Mw Ml My Oa Od x5 hx5 hf _ _ hP hS _ (lv_sub hl [1, 2, 3, 4, 5, 6] rfl)
    · have hf := (if_pos c_2).symm.trans hf
      refine lv_aload_n hx hb dL_law_1336 rfl (lv_at hl 4 rfl) ?_
      refine lv_iconst (v := (0 : Int32)) hx hb dL_law_1337 (by decide) ?_
      obtain ⟨g_3, hf⟩ := gd_some hf
      refine va_lald hx hb hE.1 hP 23 1 rfl rfl (inb_in g_3) dL_law_1338 ?_
      refine lv_iload hx hb dL_law_1339 (lv_at hl 0 rfl) ?_
      refine lv_i2l (v := (r1315).toInt64) hx hb dL_law_1341 rfl ?_
      refine W.lcmp hx hb dL_law_1342 ?_
      refine lv_if_eq (tgt := 1348) hx hb dL_law_1343 (by decide) (fun c_4 => ?_) (fun c_4 => ?_)
      · have hf := (if_pos c_4).symm.trans hf
        exact law_J1348 hL C0 hlt D cI cJ cD sa q hq hqA hE hXe N k h5 k28 ih Tn Ta Fn Fa Ba Rn Ra Rb Rd Ua Wg Wz Ww Wr Mh1315 Mn Mm Mt Mk Ms Me Mp Mw Ml My Oa Od x5 hx5 hf _ _ hP hS _ (lv_sub hl [1, 2, 3, 4, 5, 6] rfl)
      · have hf := (if_neg c_4).symm.trans hf
        exact law_J1346 hL C0 hlt D cI cJ cD sa q hq hqA hE hXe N k (by omega) Tn Ta Fn Fa Ba Rn Ra Rb Rd Ua Wg Wz Ww Wr Mh1315 Mn Mm Mt Mk Ms Me Mp Mw Ml My Oa Od hf _ _ hP hS _ (lv_sub hl [] rfl)
  · have hf := (if_neg c_1).symm.trans hf
    exact law_J1329 hL C0 hlt D cI cJ cD sa q hq hqA hE hXe N k (by omega) Tn Ta Fn Fa Ba Rn Ra Rb Rd Ua Wg Wz Ww Wr Mh1315 Mn Mm Mt Mk Ms Me Mp Mw Ml My Oa Od hf _ _ hP hS _ (lv_sub hl [] rfl)
set_option maxHeartbeats 4000000 in
set_option maxRecDepth 100000 in
theorem law_J1288 {p : Program} {l : Launch} {e : Env} {s : State} {m : MethodId} {below : List Frame} {meth : Method} {c : Code} {b L : Nat} {xs : Nat → Int32} (hL : L ≤ 2560) (C0 : lw_At p s m meth c b L xs) (hlt : l.stackTraces = false) (D : va_G) (cI cJ cD : ClassId) (sa : Nat → Nat) (q : Nat → Nat) (hq : gInj q) (hqA : ∀ k, k < 25 → s.heap.size ≤ q k) (hE : gEv D cI cJ cD s) (hXe : gXe sa (fun a => s.heap.size ≤ a) s s.heap) (N : Nat) (k : Nat) (h5 : 5 * k + 5 ≤ L) (k28 : Int32 → (Nat → Int32) → Int32 → (Nat → Int32) → (Nat → Int32) → Int32 → (Nat → Int32) → (Nat → Int32) → (Nat → Int32) → (Nat → Int32) → Int32 → Int32 → Int32 → Int32 → Int32 → Int32 → Int32 → (Nat → Int32) → (Nat → Int32) → (Nat → Int32) → (Nat → Int32) → (Nat → Int32) → (Nat → Int32) → (Nat → Int32) → (Nat → Int64) → (Nat → Int64) → (Nat → UInt64) → Int32 → Option Int32) (ih : lawIH p l e s m below meth c b D cI cJ cD q k k28) (Tn : Int32) (Ta : (Nat → Int32)) (Fn : Int32) (Fa : (Nat → Int32)) (Ba : (Nat → Int32)) (Rn : Int32) (Ra : (Nat → Int32)) (Rb : (Nat → Int32)) (Rd : (Nat → Int32)) (Ua : (Nat → Int32)) (Wg : Int32) (Wz : Int32) (Ww : Int32) (Wr : Int32) (Mh : Int32) (Mn : Int32) (Mm : Int32) (Mt : (Nat → Int32)) (Mk : (Nat → Int32)) (Ms : (Nat → Int32)) (Me : (Nat → Int32)) (Mp : (Nat → Int32)) (Mw : (Nat → Int32)) (Ml : (Nat → Int32)) (My : (Nat → Int64)) (Oa : (Nat → Int64)) (Od : (Nat → UInt64)) (x5 : Int32) (y1 : Int32) (y2 : Int32) (hx5 : x5 = nI (5 * k)) (hf : fL_law_J1288 N L xs k28 Tn Ta Fn Fa Ba Rn Ra Rb Rd Ua Wg Wz Ww Wr Mh Mn Mm Mt Mk Ms Me Mp Mw Ml My Oa Od x5 y1 y2 = some 1) : ∀ (H : Heap) (locs : List Loc), va_P D vwCl (w_0_1_2_3_4_5_6_7_8_9_10_11_12_13_14_15_16_17_18_19_20_21_22_23_24 q cI cJ cD Tn Ta Fn Fa Ba Rn Ra Rb Rd Ua Wg Wz Ww Wr Mh Mn Mm Mt Mk Ms Me Mp Mw Ml My Oa Od) H → va_S (fun a : Nat => s.heap.size ≤ a) s.heap H locs → ∀ ls : Array Slot, lv_has ls 10 [(0, .ref b), (1, .ref (q 0)), (2, .ref (q 14)), (3, .ref (q 23)), (4, .ref (q 24)), (5, .int x5)] → W p l e room_1 s m #[Value.ref b] below meth c H locs (25 + k) (1025 + 6 * k) (lw_Z below #[Value.ref b] s) (F0 m 1288 ls [.int y2, .int y1, .ref (q 0)]) := by
  obtain ⟨hx, hb, hr, hml, hown, hts0, hX, hbl, hlocks, hgv⟩ := id C0
  have hown : s.vm.findClass RL = some m.cls := hown
  have hts : ∀ w ∈ wsL_law, w.before #[Value.ref b] s = true := fun w h => hts0 w (wsL_law_in w h)
  have hbA : ¬ (fun a : Nat => s.heap.size ≤ a) b := Nat.not_le.mpr hbl
  have hcm : 25 + k + 1 ≤ 1058 := by omega
  have hsm : 1025 + 6 * k + 6 ≤ 9271 := by omega
  have hc0 : 25 + k ≤ 1058 := by omega
  have hs0 : 1025 + 6 * k ≤ 9271 := by omega
  intro H locs hP hS ls hl
  unfold fL_law_J1288 at hf
  refine lv_aload_n hx hb dL_law_1288 rfl (lv_at hl 3 rfl) ?_
  obtain ⟨⟨r1289, Oa1289⟩, hc, hf⟩ := bn_some hf
  try dsimp only at hf
  refine g_call (mc := 1) (ms := 6) (ws' := (w_0_1_2_3_4_5_6_7_8_9_10_11_12_13_14_15_16_17_18_19_20_21_22_23_24 q cI cJ cD Tn Ta Fn Fa Ba Rn Ra Rb Rd Ua Wg Wz Ww Wr Mh Mn Mm Mt Mk Ms Me Mp Mw Ml My Oa1289 Od)) (st1 := [.int r1289]) hq [0, 1, 2, 3, 4, 5, 6, 7, 8, 9, 10, 11, 12, 13, 14, 15, 16, 17, 18, 19, 20, 21, 22, 23, 24] [0, 1, 2, 23] [.inl 0, .inl 1, .inl 2, .inr 3, .inr 4, .inr 5, .inr 6, .inr 7, .inr 8, .inr 9, .inr 10, .inr 11, .inr 12, .inr 13, .inr 14, .inr 15, .inr 16, .inr 17, .inr 18, .inr 19, .inr 20, .inr 21, .inr 22, .inl 3, .inr 24] (vx_runSW (As := [.ref (q 0), .int y1, .int y2, .ref (q 23)]) (rest := []) ⟨hx, hb, hml, hown, hts⟩ (kL_longestLyndon l hlt D cI cJ cD sa q hq N Tn Ta Oa y1 y2 r1289 Oa1289 hc) (vx_cwSW 4 hts gL_law_L_longestLyndon rfl rfl rfl (by decide +kernel) ⟨(Nat.le_of_ble_eq_true rfl), (Nat.le_of_ble_eq_true rfl)⟩) ⟨gPx_blind, fun U hU hW => ⟨rfl, by rw [hU]; exact hP.sub (ws' := (w_0_1_2_23 q cI cJ cD Tn Ta Oa)) [0, 1, 2, 23] rfl, gEv.warm hW hE, gXe.go hW hS (gMonoL hqA rfl) hXe hU⟩⟩ rfl rfl hl.1 rfl (lv_room (Nat.le_of_ble_eq_true rfl)) dL_law_1289 ⟨hcm, hsm⟩) hP hS (gSubL hqA rfl) rfl rfl rfl rfl rfl (fun H locs hP hS => ?_)
  refine lv_istore (lv' := [(6, .int r1289), (0, .ref b), (1, .ref (q 0)), (2, .ref (q 14)), (3, .ref (q 23)), (4, .ref (q 24)), (5, .int x5)]) hx hb dL_law_1292 hl (by decide) rfl (fun ls hl => ?_)
  refine lv_aload_n hx hb dL_law_1294 rfl (lv_at hl 3 rfl) ?_
  refine lv_aload_n hx hb dL_law_1295 rfl (lv_at hl 1 rfl) ?_
  refine lv_iload hx hb dL_law_1296 (lv_at hl 6 rfl) ?_
  refine lv_iconst (v := (1 : Int32)) hx hb dL_law_1298 (by decide) ?_
  refine lv_iadd hx hb dL_law_1299 ?_
  obtain ⟨g_1, hf⟩ := gd_some hf
  refine va_sld hx hb hX hbl hbA hS (inb_in g_1) dL_law_1300 ?_
  refine lv_aload_n hx hb dL_law_1301 rfl (lv_at hl 1 rfl) ?_
  refine lv_iload hx hb dL_law_1302 (lv_at hl 6 rfl) ?_
  refine lv_iconst (v := (2 : Int32)) hx hb dL_law_1304 (by decide) ?_
  refine lv_iadd hx hb dL_law_1305 ?_
  obtain ⟨g_2, hf⟩ := gd_some hf
  refine va_sld hx hb hX hbl hbA hS (inb_in g_2) dL_law_1306 ?_
  refine lv_if_eq (tgt := 1314) hx hb dL_law_1307 (by decide) (fun c_3 => ?_) (fun c_3 => ?_)
  · have hf := (if_pos c_3).symm.trans hf
    refine lv_iconst (v := (0 : Int32)) hx hb dL_law_1314 (by decide) ?_
    exact law_J1315 hL C0 hlt D cI cJ cD sa q hq hqA hE hXe N k h5 k28 ih Tn Ta Fn Fa Ba Rn Ra Rb Rd Ua Wg Wz Ww Wr Mh Mn Mm Mt Mk Ms Me Mp Mw Ml My Oa1289 Od x5 r1289 (xs ((x5 + (1 : Int32))).toNatClampNeg) (0 : Int32) hx5 hf _ _ hP hS _ (lv_sub hl [1, 2, 3, 4, 5, 6, 0] rfl)
  · have hf := (if_neg c_3).symm.trans hf
    refine lv_iconst (v := (1 : Int32)) hx hb dL_law_1310 (by decide) ?_
    refine lv_goto (tgt := 1315) hx hb dL_law_1311 (by decide) ?_
    exact law_J1315 hL C0 hlt D cI cJ cD sa q hq hqA hE hXe N k h5 k28 ih Tn Ta Fn Fa Ba Rn Ra Rb Rd Ua Wg Wz Ww Wr Mh Mn Mm Mt Mk Ms Me Mp Mw Ml My Oa1289 Od x5 r1289 (xs ((x5 + (1 : Int32))).toNatClampNeg) (1 : Int32) hx5 hf _ _ hP hS _ (lv_sub hl [1, 2, 3, 4, 5, 6, 0] rfl)
set_option maxHeartbeats 4000000 in
set_option maxRecDepth 100000 in
theorem law_J1267 {p : Program} {l : Launch} {e : Env} {s : State} {m : MethodId} {below : List Frame} {meth : Method} {c : Code} {b L : Nat} {xs : Nat → Int32} (hL : L ≤ 2560) (C0 : lw_At p s m meth c b L xs) (hlt : l.stackTraces = false) (D : va_G) (cI cJ cD : ClassId) (sa : Nat → Nat) (q : Nat → Nat) (hq : gInj q) (hqA : ∀ k, k < 25 → s.heap.size ≤ q k) (hE : gEv D cI cJ cD s) (hXe : gXe sa (fun a => s.heap.size ≤ a) s s.heap) (N : Nat) (k : Nat) (h5 : 5 * k + 5 ≤ L) (k28 : Int32 → (Nat → Int32) → Int32 → (Nat → Int32) → (Nat → Int32) → Int32 → (Nat → Int32) → (Nat → Int32) → (Nat → Int32) → (Nat → Int32) → Int32 → Int32 → Int32 → Int32 → Int32 → Int32 → Int32 → (Nat → Int32) → (Nat → Int32) → (Nat → Int32) → (Nat → Int32) → (Nat → Int32) → (Nat → Int32) → (Nat → Int32) → (Nat → Int64) → (Nat → Int64) → (Nat → UInt64) → Int32 → Option Int32) (ih : lawIH p l e s m below meth c b D cI cJ cD q k k28) (Tn : Int32) (Ta : (Nat → Int32)) (Fn : Int32) (Fa : (Nat → Int32)) (Ba : (Nat → Int32)) (Rn : Int32) (Ra : (Nat → Int32)) (Rb : (Nat → Int32)) (Rd : (Nat → Int32)) (Ua : (Nat → Int32)) (Wg : Int32) (Wz : Int32) (Ww : Int32) (Wr : Int32) (Mh : Int32) (Mn : Int32) (Mm : Int32) (Mt : (Nat → Int32)) (Mk : (Nat → Int32)) (Ms : (Nat → Int32)) (Me : (Nat → Int32)) (Mp : (Nat → Int32)) (Mw : (Nat → Int32)) (Ml : (Nat → Int32)) (My : (Nat → Int64)) (Oa : (Nat → Int64)) (Od : (Nat → UInt64)) (x5 : Int32) (hx5 : x5 = nI (5 * k)) (hf : fL_law_J1267 N L xs k28 Tn Ta Fn Fa Ba Rn Ra Rb Rd Ua Wg Wz Ww Wr Mh Mn Mm Mt Mk Ms Me Mp Mw Ml My Oa Od x5 = some 1) : ∀ (H : Heap) (locs : List Loc), va_P D vwCl (w_0_1_2_3_4_5_6_7_8_9_10_11_12_13_14_15_16_17_18_19_20_21_22_23_24 q cI cJ cD Tn Ta Fn Fa Ba Rn Ra Rb Rd Ua Wg Wz Ww Wr Mh Mn Mm Mt Mk Ms Me Mp Mw Ml My Oa Od) H → va_S (fun a : Nat => s.heap.size ≤ a) s.heap H locs → ∀ ls : Array Slot, lv_has ls 10 [(0, .ref b), (1, .ref (q 0)), (2, .ref (q 14)), (3, .ref (q 23)), (4, .ref (q 24)), (5, .int x5)] → W p l e room_1 s m #[Value.ref b] below meth c H locs (25 + k) (1025 + 6 * k) (lw_Z below #[Value.ref b] s) (F0 m 1267 ls []) := by
  obtain ⟨hx, hb, hr, hml, hown, hts0, hX, hbl, hlocks, hgv⟩ := id C0
  have hown : s.vm.findClass RL = some m.cls := hown
  have hts : ∀ w ∈ wsL_law, w.before #[Value.ref b] s = true := fun w h => hts0 w (wsL_law_in w h)
  have hbA : ¬ (fun a : Nat => s.heap.size ≤ a) b := Nat.not_le.mpr hbl
  have hcm : 25 + k + 1 ≤ 1058 := by omega
  have hsm : 1025 + 6 * k + 6 ≤ 9271 := by omega
  have hc0 : 25 + k ≤ 1058 := by omega
  have hs0 : 1025 + 6 * k ≤ 9271 := by omega
  intro H locs hP hS ls hl
  unfold fL_law_J1267 at hf
  refine lv_aload_n hx hb dL_law_1267 rfl (lv_at hl 1 rfl) ?_
  refine lv_aload_n hx hb dL_law_1268 rfl (lv_at hl 0 rfl) ?_
  refine lv_iload hx hb dL_law_1269 (lv_at hl 5 rfl) ?_
  refine lv_iconst (v := (1 : Int32)) hx hb dL_law_1271 (by decide) ?_
  refine lv_iadd hx hb dL_law_1272 ?_
  obtain ⟨g_1, hf⟩ := gd_some hf
  refine va_sld hx hb hX hbl hbA hS (inb_in g_1) dL_law_1273 ?_
  refine lv_aload_n hx hb dL_law_1274 rfl (lv_at hl 0 rfl) ?_
  refine lv_iload hx hb dL_law_1275 (lv_at hl 5 rfl) ?_
  refine lv_iconst (v := (2 : Int32)) hx hb dL_law_1277 (by decide) ?_
  refine lv_iadd hx hb dL_law_1278 ?_
  obtain ⟨g_2, hf⟩ := gd_some hf
  refine va_sld hx hb hX hbl hbA hS (inb_in g_2) dL_law_1279 ?_
  refine lv_if_eq (tgt := 1287) hx hb dL_law_1280 (by decide) (fun c_3 => ?_) (fun c_3 => ?_)
  · have hf := (if_pos c_3).symm.trans hf
    refine lv_iconst (v := (0 : Int32)) hx hb dL_law_1287 (by decide) ?_
    exact law_J1288 hL C0 hlt D cI cJ cD sa q hq hqA hE hXe N k h5 k28 ih Tn Ta Fn Fa Ba Rn Ra Rb Rd Ua Wg Wz Ww Wr Mh Mn Mm Mt Mk Ms Me Mp Mw Ml My Oa Od x5 (xs ((x5 + (1 : Int32))).toNatClampNeg) (0 : Int32) hx5 hf _ _ hP hS _ (lv_sub hl [0, 1, 2, 3, 4, 5] rfl)
  · have hf := (if_neg c_3).symm.trans hf
    refine lv_iconst (v := (1 : Int32)) hx hb dL_law_1283 (by decide) ?_
    refine lv_goto (tgt := 1288) hx hb dL_law_1284 (by decide) ?_
    exact law_J1288 hL C0 hlt D cI cJ cD sa q hq hqA hE hXe N k h5 k28 ih Tn Ta Fn Fa Ba Rn Ra Rb Rd Ua Wg Wz Ww Wr Mh Mn Mm Mt Mk Ms Me Mp Mw Ml My Oa Od x5 (xs ((x5 + (1 : Int32))).toNatClampNeg) (1 : Int32) hx5 hf _ _ hP hS _ (lv_sub hl [0, 1, 2, 3, 4, 5] rfl)
set_option maxHeartbeats 4000000 in
set_option maxRecDepth 100000 in
theorem law_J1416 {p : Program} {l : Launch} {e : Env} {s : State} {m : MethodId} {below : List Frame} {meth : Method} {c : Code} {b L : Nat} {xs : Nat → Int32} (hL : L ≤ 2560) (C0 : lw_At p s m meth c b L xs) (hlt : l.stackTraces = false) (D : va_G) (cI cJ cD : ClassId) (sa : Nat → Nat) (q : Nat → Nat) (hq : gInj q) (hqA : ∀ k, k < 25 → s.heap.size ≤ q k) (hE : gEv D cI cJ cD s) (hXe : gXe sa (fun a => s.heap.size ≤ a) s s.heap) (N : Nat) (k : Nat) (h5 : 5 * k + 5 ≤ L) (k28 : Int32 → (Nat → Int32) → Int32 → (Nat → Int32) → (Nat → Int32) → Int32 → (Nat → Int32) → (Nat → Int32) → (Nat → Int32) → (Nat → Int32) → Int32 → Int32 → Int32 → Int32 → Int32 → Int32 → Int32 → (Nat → Int32) → (Nat → Int32) → (Nat → Int32) → (Nat → Int32) → (Nat → Int32) → (Nat → Int32) → (Nat → Int32) → (Nat → Int64) → (Nat → Int64) → (Nat → UInt64) → Int32 → Option Int32) (ih : lawIH p l e s m below meth c b D cI cJ cD q k k28) (Tn : Int32) (Ta : (Nat → Int32)) (Fn : Int32) (Fa : (Nat → Int32)) (Ba : (Nat → Int32)) (Rn : Int32) (Ra : (Nat → Int32)) (Rb : (Nat → Int32)) (Rd : (Nat → Int32)) (Ua : (Nat → Int32)) (Wg : Int32) (Wz : Int32) (Ww : Int32) (Wr : Int32) (Mh : Int32) (Mn : Int32) (Mm : Int32) (Mt : (Nat → Int32)) (Mk : (Nat → Int32)) (Ms : (Nat → Int32)) (Me : (Nat → Int32)) (Mp : (Nat → Int32)) (Mw : (Nat → Int32)) (Ml : (Nat → Int32)) (My : (Nat → Int64)) (Oa : (Nat → Int64)) (Od : (Nat → UInt64)) (x5 : Int32) (hx5 : x5 = nI (5 * k)) (hf : fL_law_J1416 N L xs k28 Tn Ta Fn Fa Ba Rn Ra Rb Rd Ua Wg Wz Ww Wr Mh Mn Mm Mt Mk Ms Me Mp Mw Ml My Oa Od x5 = some 1) : ∀ (H : Heap) (locs : List Loc), va_P D vwCl (w_0_1_2_3_4_5_6_7_8_9_10_11_12_13_14_15_16_17_18_19_20_21_22_23_24 q cI cJ cD Tn Ta Fn Fa Ba Rn Ra Rb Rd Ua Wg Wz Ww Wr Mh Mn Mm Mt Mk Ms Me Mp Mw Ml My Oa Od) H → va_S (fun a : Nat => s.heap.size ≤ a) s.heap H locs → ∀ ls : Array Slot, lv_has ls 10 [(0, .ref b), (1, .ref (q 0)), (2, .ref (q 14)), (3, .ref (q 23)), (4, .ref (q 24)), (5, .int x5)] → W p l e room_1 s m #[Value.ref b] below meth c H locs (25 + k + 1) (1025 + 6 * k + 6) (lw_Z below #[Value.ref b] s) (F0 m 1416 ls []) := by
  obtain ⟨hx, hb, hr, hml, hown, hts0, hX, hbl, hlocks, hgv⟩ := id C0
  have hown : s.vm.findClass RL = some m.cls := hown
  have hts : ∀ w ∈ wsL_law, w.before #[Value.ref b] s = true := fun w h => hts0 w (wsL_law_in w h)
  have hbA : ¬ (fun a : Nat => s.heap.size ≤ a) b := Nat.not_le.mpr hbl
  have hcm : 25 + k + 1 ≤ 1058 := by omega
  have hsm : 1025 + 6 * k + 6 ≤ 9271 := by omega
  have hc0 : 25 + k ≤ 1058 := by omega
  have hs0 : 1025 + 6 * k ≤ 9271 := by omega
  intro H locs hP hS ls hl
  unfold fL_law_J1416 at hf
  refine lv_goto (tgt := 2831) hx hb dL_law_1416 (by decide) ?_
  exact law_J2831 hL C0 hlt D cI cJ cD sa q hq hqA hE hXe N k h5 k28 ih Tn Ta Fn Fa Ba Rn Ra Rb Rd Ua Wg Wz Ww Wr Mh Mn Mm Mt Mk Ms Me Mp Mw Ml My Oa Od x5 hx5 hf _ _ hP hS _ (lv_sub hl [0, 1, 2, 3, 4, 5] rfl)
set_option maxHeartbeats 4000000 in
set_option maxRecDepth 100000 in
theorem law_J1351 {p : Program} {l : Launch} {e : Env} {s : State} {m : MethodId} {below : List Frame} {meth : Method} {c : Code} {b L : Nat} {xs : Nat → Int32} (hL : L ≤ 2560) (C0 : lw_At p s m meth c b L xs) (hlt : l.stackTraces = false) (D : va_G) (cI cJ cD : ClassId) (sa : Nat → Nat) (q : Nat → Nat) (hq : gInj q) (hqA : ∀ k, k < 25 → s.heap.size ≤ q k) (hE : gEv D cI cJ cD s) (hXe : gXe sa (fun a => s.heap.size ≤ a) s s.heap) (N : Nat) (k : Nat) (h5 : 5 * k + 5 ≤ L) (k28 : Int32 → (Nat → Int32) → Int32 → (Nat → Int32) → (Nat → Int32) → Int32 → (Nat → Int32) → (Nat → Int32) → (Nat → Int32) → (Nat → Int32) → Int32 → Int32 → Int32 → Int32 → Int32 → Int32 → Int32 → (Nat → Int32) → (Nat → Int32) → (Nat → Int32) → (Nat → Int32) → (Nat → Int32) → (Nat → Int32) → (Nat → Int32) → (Nat → Int64) → (Nat → Int64) → (Nat → UInt64) → Int32 → Option Int32) (ih : lawIH p l e s m below meth c b D cI cJ cD q k k28) (Tn : Int32) (Ta : (Nat → Int32)) (Fn : Int32) (Fa : (Nat → Int32)) (Ba : (Nat → Int32)) (Rn : Int32) (Ra : (Nat → Int32)) (Rb : (Nat → Int32)) (Rd : (Nat → Int32)) (Ua : (Nat → Int32)) (Wg : Int32) (Wz : Int32) (Ww : Int32) (Wr : Int32) (Mh : Int32) (Mn : Int32) (Mm : Int32) (Mt : (Nat → Int32)) (Mk : (Nat → Int32)) (Ms : (Nat → Int32)) (Me : (Nat → Int32)) (Mp : (Nat → Int32)) (Mw : (Nat → Int32)) (Ml : (Nat → Int32)) (My : (Nat → Int64)) (Oa : (Nat → Int64)) (Od : (Nat → UInt64)) (x5 : Int32) (hx5 : x5 = nI (5 * k)) (hf : fL_law_J1351 N L xs k28 Tn Ta Fn Fa Ba Rn Ra Rb Rd Ua Wg Wz Ww Wr Mh Mn Mm Mt Mk Ms Me Mp Mw Ml My Oa Od x5 = some 1) : ∀ (H : Heap) (locs : List Loc), va_P D vwCl (w_0_1_2_3_4_5_6_7_8_9_10_11_12_13_14_15_16_17_18_19_20_21_22_23_24 q cI cJ cD Tn Ta Fn Fa Ba Rn Ra Rb Rd Ua Wg Wz Ww Wr Mh Mn Mm Mt Mk Ms Me Mp Mw Ml My Oa Od) H → va_S (fun a : Nat => s.heap.size ≤ a) s.heap H locs → ∀ ls : Array Slot, lv_has ls 10 [(0, .ref b), (1, .ref (q 0)), (2, .ref (q 14)), (3, .ref (q 23)), (4, .ref (q 24)), (5, .int x5)] → W p l e room_1 s m #[Value.ref b] below meth c H locs (25 + k) (1025 + 6 * k) (lw_Z below #[Value.ref b] s) (F0 m 1351 ls []) := by
  obtain ⟨hx, hb, hr, hml, hown, hts0, hX, hbl, hlocks, hgv⟩ := id C0
  have hown : s.vm.findClass RL = some m.cls := hown
  have hts : ∀ w ∈ wsL_law, w.before #[Value.ref b] s = true := fun w h => hts0 w (wsL_law_in w h)
  have hbA : ¬ (fun a : Nat => s.heap.size ≤ a) b := Nat.not_le.mpr hbl
  have hcm : 25 + k + 1 ≤ 1058 := by omega
  have hsm : 1025 + 6 * k + 6 ≤ 9271 := by omega
  have hc0 : 25 + k ≤ 1058 := by omega
  have hs0 : 1025 + 6 * k ≤ 9271 := by omega
  intro H locs hP hS ls hl
  unfold fL_law_J1351 at hf
  refine lv_aload_n hx hb dL_law_1351 rfl (lv_at hl 1 rfl) ?_
  refine lv_aload_n hx hb dL_law_1352 rfl (lv_at hl 0 rfl) ?_
  refine lv_iload hx hb dL_law_1353 (lv_at hl 5 rfl) ?_
  refine lv_iconst (v := (1 : Int32)) hx hb dL_law_1355 (by decide) ?_
  refine lv_iadd hx hb dL_law_1356 ?_
  obtain ⟨g_1, hf⟩ := gd_some hf
  refine va_sld hx hb hX hbl hbA hS (inb_in g_1) dL_law_1357 ?_
  refine lv_aload_n hx hb dL_law_1358 rfl (lv_at hl 0 rfl) ?_
  refine lv_iload hx hb dL_law_1359 (lv_at hl 5 rfl) ?_
  refine lv_iconst (v := (2 : Int32)) hx hb dL_law_1361 (by decide) ?_
  refine lv_iadd hx hb dL_law_1362 ?_
  obtain ⟨g_2, hf⟩ := gd_some hf
  refine va_sld hx hb hX hbl hbA hS (inb_in g_2) dL_law_1363 ?_
  refine lv_aload_n hx hb dL_law_1364 rfl (lv_at hl 3 rfl) ?_
  obtain ⟨⟨r1365, Oa1365⟩, hc, hf⟩ := bn_some hf
  try dsimp only at hf
  refine g_call (mc := 1) (ms := 6) (ws' := (w_0_1_2_3_4_5_6_7_8_9_10_11_12_13_14_15_16_17_18_19_20_21_22_23_24 q cI cJ cD Tn Ta Fn Fa Ba Rn Ra Rb Rd Ua Wg Wz Ww Wr Mh Mn Mm Mt Mk Ms Me Mp Mw Ml My Oa1365 Od)) (st1 := [.int r1365]) hq [0, 1, 2, 3, 4, 5, 6, 7, 8, 9, 10, 11, 12, 13, 14, 15, 16, 17, 18, 19, 20, 21, 22, 23, 24] [0, 1, 2, 23] [.inl 0, .inl 1, .inl 2, .inr 3, .inr 4, .inr 5, .inr 6, .inr 7, .inr 8, .inr 9, .inr 10, .inr 11, .inr 12, .inr 13, .inr 14, .inr 15, .inr 16, .inr 17, .inr 18, .inr 19, .inr 20, .inr 21, .inr 22, .inl 3, .inr 24] (vx_runSW (As := [.ref (q 0), .int (xs ((x5 + (1 : Int32))).toNatClampNeg), .int (xs ((x5 + (2 : Int32))).toNatClampNeg), .ref (q 23)]) (rest := []) ⟨hx, hb, hml, hown, hts⟩ (kL_standardFactor l hlt D cI cJ cD sa q hq N Tn Ta Oa (xs ((x5 + (1 : Int32))).toNatClampNeg) (xs ((x5 + (2 : Int32))).toNatClampNeg) r1365 Oa1365 hc) (vx_cwSW 4 hts gL_law_L_standardFactor rfl rfl rfl (by decide +kernel) ⟨(Nat.le_of_ble_eq_true rfl), (Nat.le_of_ble_eq_true rfl)⟩) ⟨gPx_blind, fun U hU hW => ⟨rfl, by rw [hU]; exact hP.sub (ws' := (w_0_1_2_23 q cI cJ cD Tn Ta Oa)) [0, 1, 2, 23] rfl, gEv.warm hW hE, gXe.go hW hS (gMonoL hqA rfl) hXe hU⟩⟩ rfl rfl hl.1 rfl (lv_room (Nat.le_of_ble_eq_true rfl)) dL_law_1365 ⟨hcm, hsm⟩) hP hS (gSubL hqA rfl) rfl rfl rfl rfl rfl (fun H locs hP hS => ?_)
  refine lv_istore (lv' := [(6, .int r1365), (0, .ref b), (1, .ref (q 0)), (2, .ref (q 14)), (3, .ref (q 23)), (4, .ref (q 24)), (5, .int x5)]) hx hb dL_law_1368 hl (by decide) rfl (fun ls hl => ?_)
  refine lv_aload_n hx hb dL_law_1370 rfl (lv_at hl 3 rfl) ?_
  refine lv_aload_n hx hb dL_law_1371 rfl (lv_at hl 1 rfl) ?_
  refine lv_iload hx hb dL_law_1372 (lv_at hl 6 rfl) ?_
  refine lv_iconst (v := (1 : Int32)) hx hb dL_law_1374 (by decide) ?_
  refine lv_iadd hx hb dL_law_1375 ?_
  obtain ⟨g_3, hf⟩ := gd_some hf
  refine va_sld hx hb hX hbl hbA hS (inb_in g_3) dL_law_1376 ?_
  refine lv_aload_n hx hb dL_law_1377 rfl (lv_at hl 1 rfl) ?_
  refine lv_iload hx hb dL_law_1378 (lv_at hl 6 rfl) ?_
  refine lv_iconst (v := (2 : Int32)) hx hb dL_law_1380 (by decide) ?_
  refine lv_iadd hx hb dL_law_1381 ?_
  obtain ⟨g_4, hf⟩ := gd_some hf
  refine va_sld hx hb hX hbl hbA hS (inb_in g_4) dL_law_1382 ?_
  obtain ⟨⟨r1383, Mh1383⟩, hc, hf⟩ := bn_some hf
  try dsimp only at hf
  refine g_call0 (ws' := (w_0_1_2_3_4_5_6_7_8_9_10_11_12_13_14_15_16_17_18_19_20_21_22_23_24 q cI cJ cD Tn Ta Fn Fa Ba Rn Ra Rb Rd Ua Wg Wz Ww Wr Mh1383 Mn Mm Mt Mk Ms Me Mp Mw Ml My Oa1365 Od)) (st1 := [.int r1383]) hq [0, 1, 2, 3, 4, 5, 6, 7, 8, 9, 10, 11, 12, 13, 14, 15, 16, 17, 18, 19, 20, 21, 22, 23, 24] [14, 15] [.inr 0, .inr 1, .inr 2, .inr 3, .inr 4, .inr 5, .inr 6, .inr 7, .inr 8, .inr 9, .inr 10, .inr 11, .inr 12, .inr 13, .inl 0, .inl 1, .inr 16, .inr 17, .inr 18, .inr 19, .inr 20, .inr 21, .inr 22, .inr 23, .inr 24] (va_runV (As := [.int (xs ((x5 + (1 : Int32))).toNatClampNeg), .int (xs ((x5 + (2 : Int32))).toNatClampNeg)]) (rest := []) ⟨hx, hb, hml, hown, hts⟩ (kX9_standardFactor l D cI cJ cD q hq N Mh Mn Mm Mt (xs ((x5 + (1 : Int32))).toNatClampNeg) (xs ((x5 + (2 : Int32))).toNatClampNeg) r1383 Mh1383 hc) (cwV 2 hts gL_law_X9_standardFactor rfl rfl rfl (by decide +kernel) ⟨(Nat.le_of_ble_eq_true rfl), (Nat.le_of_ble_eq_true rfl)⟩) ⟨gP_blind, va_recv hE.1 hP (ci := 7) (q0 := 14) rfl rfl, fun U hU hW => ⟨rfl, by rw [hU]; exact hP.sub (ws' := (w_14_15 q cI cJ cD Mh Mn Mm Mt)) [14, 15] rfl, gEv.warm hW hE⟩⟩ rfl rfl hl.1 rfl (lv_room (Nat.le_of_ble_eq_true rfl)) dL_law_1383 ⟨hcm, hsm⟩) hP hS (gSubL hqA rfl) rfl rfl rfl rfl rfl (fun H locs hP hS => ?_)
  refine lv_istore (lv' := [(7, .int r1383), (6, .int r1365), (0, .ref b), (1, .ref (q 0)), (2, .ref (q 14)), (3, .ref (q 23)), (4, .ref (q 24)), (5, .int x5)]) hx hb dL_law_1386 hl (by decide) rfl (fun ls hl => ?_)
  refine lv_aload_n hx hb dL_law_1388 rfl (lv_at hl 4 rfl) ?_
  obtain ⟨r1389, hc, hf⟩ := bn_some hf
  try dsimp only at hf
  refine g_call0 (ws' := (w_0_1_2_3_4_5_6_7_8_9_10_11_12_13_14_15_16_17_18_19_20_21_22_23_24 q cI cJ cD Tn Ta Fn Fa Ba Rn Ra Rb Rd Ua Wg Wz Ww Wr Mh1383 Mn Mm Mt Mk Ms Me Mp Mw Ml My Oa1365 Od)) (st1 := [.int r1389]) hq [0, 1, 2, 3, 4, 5, 6, 7, 8, 9, 10, 11, 12, 13, 14, 15, 16, 17, 18, 19, 20, 21, 22, 23, 24] [14] [.inr 0, .inr 1, .inr 2, .inr 3, .inr 4, .inr 5, .inr 6, .inr 7, .inr 8, .inr 9, .inr 10, .inr 11, .inr 12, .inr 13, .inl 0, .inr 15, .inr 16, .inr 17, .inr 18, .inr 19, .inr 20, .inr 21, .inr 22, .inr 23, .inr 24] (va_runV (As := []) (rest := []) ⟨hx, hb, hml, hown, hts⟩ (kX9_thrown l D cI cJ cD q hq N Mh1383 Mn Mm r1389 hc) (cwV 0 hts gL_law_X9_thrown rfl rfl rfl (by decide +kernel) ⟨(Nat.le_of_ble_eq_true rfl), (Nat.le_of_ble_eq_true rfl)⟩) ⟨gP_blind, va_recv hE.1 hP (ci := 7) (q0 := 14) rfl rfl, fun U hU hW => ⟨rfl, by rw [hU]; exact hP.sub (ws' := (w_14 q cI cJ cD Mh1383 Mn Mm)) [14] rfl, gEv.warm hW hE⟩⟩ rfl rfl hl.1 rfl (lv_room (Nat.le_of_ble_eq_true rfl)) dL_law_1389 ⟨hcm, hsm⟩) hP hS (gSubL hqA rfl) rfl rfl rfl rfl rfl (fun H locs hP hS => ?_)
  refine lv_iload hx hb dL_law_1392 (lv_at hl 1 rfl) ?_
  refine lv_icmp_eq (tgt := 1399) hx hb dL_law_1394 (by decide) (fun c_5 => ?_) (fun c_5 => ?_)
  · have hf := (if_pos c_5).symm.trans hf
    refine lv_iload hx hb dL_law_1399 (lv_at hl 1 rfl) ?_
    refine lv_if_ne (tgt := 1416) hx hb dL_law_1401 (by decide) (fun c_6 => ?_) (fun c_6 => ?_)
    · have hf := (if_neg c_6).symm.trans hf
      exact law_J1416 hL C0 hlt D cI cJ cD sa q hq hqA hE hXe N k h5 k28 ih Tn Ta Fn Fa Ba Rn Ra Rb Rd Ua Wg Wz Ww Wr Mh1383 Mn Mm Mt Mk Ms Me Mp Mw Ml My Oa1365 Od x5 hx5 hf _ _ hP hS _ (lv_sub hl [2, 3, 4, 5, 6, 7] rfl)
    · have hf := (if_pos c_6).symm.trans hf
      refine lv_aload_n hx hb dL_law_1404 rfl (lv_at hl 5 rfl) ?_
      refine lv_iconst (v := (0 : Int32)) hx hb dL_law_1405 (by decide) ?_
      obtain ⟨g_7, hf⟩ := gd_some hf
      refine va_lald hx hb hE.1 hP 23 1 rfl rfl (inb_in g_7) dL_law_1406 ?_
      refine lv_iload hx hb dL_law_1407 (lv_at hl 0 rfl) ?_
      refine lv_i2l (v := (r1383).toInt64) hx hb dL_law_1409 rfl ?_
      refine W.lcmp hx hb dL_law_1410 ?_
      refine lv_if_eq (tgt := 1416) hx hb dL_law_1411 (by decide) (fun c_8 => ?_) (fun c_8 => ?_)
      · have hf := (if_pos c_8).symm.trans hf
        exact law_J1416 hL C0 hlt D cI cJ cD sa q hq hqA hE hXe N k h5 k28 ih Tn Ta Fn Fa Ba Rn Ra Rb Rd Ua Wg Wz Ww Wr Mh1383 Mn Mm Mt Mk Ms Me Mp Mw Ml My Oa1365 Od x5 hx5 hf _ _ hP hS _ (lv_sub hl [2, 3, 4, 5, 6, 7] rfl)
      · have hf := (if_neg c_8).symm.trans hf
        exact law_J1414 hL C0 hlt D cI cJ cD sa q hq hqA hE hXe N k (by omega) Tn Ta Fn Fa Ba Rn Ra Rb Rd Ua Wg Wz Ww Wr Mh1383 Mn Mm Mt Mk Ms Me Mp Mw Ml My Oa1365 Od hf _ _ hP hS _ (lv_sub hl [] rfl)
  · have hf := (if_neg c_5).symm.trans hf
    exact law_J1397 hL C0 hlt D cI cJ cD sa q hq hqA hE hXe N k (by omega) Tn Ta Fn Fa Ba Rn Ra Rb Rd Ua Wg Wz Ww Wr Mh1383 Mn Mm Mt Mk Ms Me Mp Mw Ml My Oa1365 Od hf _ _ hP hS _ (lv_sub hl [] rfl)
set_option maxHeartbeats 4000000 in
set_option maxRecDepth 100000 in
theorem law_J1484 {p : Program} {l : Launch} {e : Env} {s : State} {m : MethodId} {below : List Frame} {meth : Method} {c : Code} {b L : Nat} {xs : Nat → Int32} (hL : L ≤ 2560) (C0 : lw_At p s m meth c b L xs) (hlt : l.stackTraces = false) (D : va_G) (cI cJ cD : ClassId) (sa : Nat → Nat) (q : Nat → Nat) (hq : gInj q) (hqA : ∀ k, k < 25 → s.heap.size ≤ q k) (hE : gEv D cI cJ cD s) (hXe : gXe sa (fun a => s.heap.size ≤ a) s s.heap) (N : Nat) (k : Nat) (h5 : 5 * k + 5 ≤ L) (k28 : Int32 → (Nat → Int32) → Int32 → (Nat → Int32) → (Nat → Int32) → Int32 → (Nat → Int32) → (Nat → Int32) → (Nat → Int32) → (Nat → Int32) → Int32 → Int32 → Int32 → Int32 → Int32 → Int32 → Int32 → (Nat → Int32) → (Nat → Int32) → (Nat → Int32) → (Nat → Int32) → (Nat → Int32) → (Nat → Int32) → (Nat → Int32) → (Nat → Int64) → (Nat → Int64) → (Nat → UInt64) → Int32 → Option Int32) (ih : lawIH p l e s m below meth c b D cI cJ cD q k k28) (Tn : Int32) (Ta : (Nat → Int32)) (Fn : Int32) (Fa : (Nat → Int32)) (Ba : (Nat → Int32)) (Rn : Int32) (Ra : (Nat → Int32)) (Rb : (Nat → Int32)) (Rd : (Nat → Int32)) (Ua : (Nat → Int32)) (Wg : Int32) (Wz : Int32) (Ww : Int32) (Wr : Int32) (Mh : Int32) (Mn : Int32) (Mm : Int32) (Mt : (Nat → Int32)) (Mk : (Nat → Int32)) (Ms : (Nat → Int32)) (Me : (Nat → Int32)) (Mp : (Nat → Int32)) (Mw : (Nat → Int32)) (Ml : (Nat → Int32)) (My : (Nat → Int64)) (Oa : (Nat → Int64)) (Od : (Nat → UInt64)) (x5 : Int32) (hx5 : x5 = nI (5 * k)) (hf : fL_law_J1484 N L xs k28 Tn Ta Fn Fa Ba Rn Ra Rb Rd Ua Wg Wz Ww Wr Mh Mn Mm Mt Mk Ms Me Mp Mw Ml My Oa Od x5 = some 1) : ∀ (H : Heap) (locs : List Loc), va_P D vwCl (w_0_1_2_3_4_5_6_7_8_9_10_11_12_13_14_15_16_17_18_19_20_21_22_23_24 q cI cJ cD Tn Ta Fn Fa Ba Rn Ra Rb Rd Ua Wg Wz Ww Wr Mh Mn Mm Mt Mk Ms Me Mp Mw Ml My Oa Od) H → va_S (fun a : Nat => s.heap.size ≤ a) s.heap H locs → ∀ ls : Array Slot, lv_has ls 10 [(0, .ref b), (1, .ref (q 0)), (2, .ref (q 14)), (3, .ref (q 23)), (4, .ref (q 24)), (5, .int x5)] → W p l e room_1 s m #[Value.ref b] below meth c H locs (25 + k + 1) (1025 + 6 * k + 6) (lw_Z below #[Value.ref b] s) (F0 m 1484 ls []) := by
  obtain ⟨hx, hb, hr, hml, hown, hts0, hX, hbl, hlocks, hgv⟩ := id C0
  have hown : s.vm.findClass RL = some m.cls := hown
  have hts : ∀ w ∈ wsL_law, w.before #[Value.ref b] s = true := fun w h => hts0 w (wsL_law_in w h)
  have hbA : ¬ (fun a : Nat => s.heap.size ≤ a) b := Nat.not_le.mpr hbl
  have hcm : 25 + k + 1 ≤ 1058 := by omega
  have hsm : 1025 + 6 * k + 6 ≤ 9271 := by omega
  have hc0 : 25 + k ≤ 1058 := by omega
  have hs0 : 1025 + 6 * k ≤ 9271 := by omega
  intro H locs hP hS ls hl
  unfold fL_law_J1484 at hf
  refine lv_goto (tgt := 2831) hx hb dL_law_1484 (by decide) ?_
  exact law_J2831 hL C0 hlt D cI cJ cD sa q hq hqA hE hXe N k h5 k28 ih Tn Ta Fn Fa Ba Rn Ra Rb Rd Ua Wg Wz Ww Wr Mh Mn Mm Mt Mk Ms Me Mp Mw Ml My Oa Od x5 hx5 hf _ _ hP hS _ (lv_sub hl [0, 1, 2, 3, 4, 5] rfl)
set_option maxHeartbeats 4000000 in
set_option maxRecDepth 100000 in
theorem law_J1419 {p : Program} {l : Launch} {e : Env} {s : State} {m : MethodId} {below : List Frame} {meth : Method} {c : Code} {b L : Nat} {xs : Nat → Int32} (hL : L ≤ 2560) (C0 : lw_At p s m meth c b L xs) (hlt : l.stackTraces = false) (D : va_G) (cI cJ cD : ClassId) (sa : Nat → Nat) (q : Nat → Nat) (hq : gInj q) (hqA : ∀ k, k < 25 → s.heap.size ≤ q k) (hE : gEv D cI cJ cD s) (hXe : gXe sa (fun a => s.heap.size ≤ a) s s.heap) (N : Nat) (k : Nat) (h5 : 5 * k + 5 ≤ L) (k28 : Int32 → (Nat → Int32) → Int32 → (Nat → Int32) → (Nat → Int32) → Int32 → (Nat → Int32) → (Nat → Int32) → (Nat → Int32) → (Nat → Int32) → Int32 → Int32 → Int32 → Int32 → Int32 → Int32 → Int32 → (Nat → Int32) → (Nat → Int32) → (Nat → Int32) → (Nat → Int32) → (Nat → Int32) → (Nat → Int32) → (Nat → Int32) → (Nat → Int64) → (Nat → Int64) → (Nat → UInt64) → Int32 → Option Int32) (ih : lawIH p l e s m below meth c b D cI cJ cD q k k28) (Tn : Int32) (Ta : (Nat → Int32)) (Fn : Int32) (Fa : (Nat → Int32)) (Ba : (Nat → Int32)) (Rn : Int32) (Ra : (Nat → Int32)) (Rb : (Nat → Int32)) (Rd : (Nat → Int32)) (Ua : (Nat → Int32)) (Wg : Int32) (Wz : Int32) (Ww : Int32) (Wr : Int32) (Mh : Int32) (Mn : Int32) (Mm : Int32) (Mt : (Nat → Int32)) (Mk : (Nat → Int32)) (Ms : (Nat → Int32)) (Me : (Nat → Int32)) (Mp : (Nat → Int32)) (Mw : (Nat → Int32)) (Ml : (Nat → Int32)) (My : (Nat → Int64)) (Oa : (Nat → Int64)) (Od : (Nat → UInt64)) (x5 : Int32) (hx5 : x5 = nI (5 * k)) (hf : fL_law_J1419 N L xs k28 Tn Ta Fn Fa Ba Rn Ra Rb Rd Ua Wg Wz Ww Wr Mh Mn Mm Mt Mk Ms Me Mp Mw Ml My Oa Od x5 = some 1) : ∀ (H : Heap) (locs : List Loc), va_P D vwCl (w_0_1_2_3_4_5_6_7_8_9_10_11_12_13_14_15_16_17_18_19_20_21_22_23_24 q cI cJ cD Tn Ta Fn Fa Ba Rn Ra Rb Rd Ua Wg Wz Ww Wr Mh Mn Mm Mt Mk Ms Me Mp Mw Ml My Oa Od) H → va_S (fun a : Nat => s.heap.size ≤ a) s.heap H locs → ∀ ls : Array Slot, lv_has ls 10 [(0, .ref b), (1, .ref (q 0)), (2, .ref (q 14)), (3, .ref (q 23)), (4, .ref (q 24)), (5, .int x5)] → W p l e room_1 s m #[Value.ref b] below meth c H locs (25 + k) (1025 + 6 * k) (lw_Z below #[Value.ref b] s) (F0 m 1419 ls []) := by
  obtain ⟨hx, hb, hr, hml, hown, hts0, hX, hbl, hlocks, hgv⟩ := id C0
  have hown : s.vm.findClass RL = some m.cls := hown
  have hts : ∀ w ∈ wsL_law, w.before #[Value.ref b] s = true := fun w h => hts0 w (wsL_law_in w h)
  have hbA : ¬ (fun a : Nat => s.heap.size ≤ a) b := Nat.not_le.mpr hbl
  have hcm : 25 + k + 1 ≤ 1058 := by omega
  have hsm : 1025 + 6 * k + 6 ≤ 9271 := by omega
  have hc0 : 25 + k ≤ 1058 := by omega
  have hs0 : 1025 + 6 * k ≤ 9271 := by omega
  intro H locs hP hS ls hl
  unfold fL_law_J1419 at hf
  refine lv_aload_n hx hb dL_law_1419 rfl (lv_at hl 1 rfl) ?_
  refine lv_aload_n hx hb dL_law_1420 rfl (lv_at hl 0 rfl) ?_
  refine lv_iload hx hb dL_law_1421 (lv_at hl 5 rfl) ?_
  refine lv_iconst (v := (1 : Int32)) hx hb dL_law_1423 (by decide) ?_
  refine lv_iadd hx hb dL_law_1424 ?_
  obtain ⟨g_1, hf⟩ := gd_some hf
  refine va_sld hx hb hX hbl hbA hS (inb_in g_1) dL_law_1425 ?_
  refine lv_aload_n hx hb dL_law_1426 rfl (lv_at hl 0 rfl) ?_
  refine lv_iload hx hb dL_law_1427 (lv_at hl 5 rfl) ?_
  refine lv_iconst (v := (2 : Int32)) hx hb dL_law_1429 (by decide) ?_
  refine lv_iadd hx hb dL_law_1430 ?_
  obtain ⟨g_2, hf⟩ := gd_some hf
  refine va_sld hx hb hX hbl hbA hS (inb_in g_2) dL_law_1431 ?_
  refine lv_aload_n hx hb dL_law_1432 rfl (lv_at hl 3 rfl) ?_
  obtain ⟨⟨r1433, Oa1433⟩, hc, hf⟩ := bn_some hf
  try dsimp only at hf
  refine g_call (mc := 1) (ms := 6) (ws' := (w_0_1_2_3_4_5_6_7_8_9_10_11_12_13_14_15_16_17_18_19_20_21_22_23_24 q cI cJ cD Tn Ta Fn Fa Ba Rn Ra Rb Rd Ua Wg Wz Ww Wr Mh Mn Mm Mt Mk Ms Me Mp Mw Ml My Oa1433 Od)) (st1 := [.int r1433]) hq [0, 1, 2, 3, 4, 5, 6, 7, 8, 9, 10, 11, 12, 13, 14, 15, 16, 17, 18, 19, 20, 21, 22, 23, 24] [0, 1, 2, 23] [.inl 0, .inl 1, .inl 2, .inr 3, .inr 4, .inr 5, .inr 6, .inr 7, .inr 8, .inr 9, .inr 10, .inr 11, .inr 12, .inr 13, .inr 14, .inr 15, .inr 16, .inr 17, .inr 18, .inr 19, .inr 20, .inr 21, .inr 22, .inl 3, .inr 24] (vx_runSW (As := [.ref (q 0), .int (xs ((x5 + (1 : Int32))).toNatClampNeg), .int (xs ((x5 + (2 : Int32))).toNatClampNeg), .ref (q 23)]) (rest := []) ⟨hx, hb, hml, hown, hts⟩ (kL_leastRotation l hlt D cI cJ cD sa q hq N Tn Ta Oa (xs ((x5 + (1 : Int32))).toNatClampNeg) (xs ((x5 + (2 : Int32))).toNatClampNeg) r1433 Oa1433 hc) (vx_cwSW 4 hts gL_law_L_leastRotation rfl rfl rfl (by decide +kernel) ⟨(Nat.le_of_ble_eq_true rfl), (Nat.le_of_ble_eq_true rfl)⟩) ⟨gPx_blind, fun U hU hW => ⟨rfl, by rw [hU]; exact hP.sub (ws' := (w_0_1_2_23 q cI cJ cD Tn Ta Oa)) [0, 1, 2, 23] rfl, gEv.warm hW hE, gXe.go hW hS (gMonoL hqA rfl) hXe hU⟩⟩ rfl rfl hl.1 rfl (lv_room (Nat.le_of_ble_eq_true rfl)) dL_law_1433 ⟨hcm, hsm⟩) hP hS (gSubL hqA rfl) rfl rfl rfl rfl rfl (fun H locs hP hS => ?_)
  refine lv_istore (lv' := [(6, .int r1433), (0, .ref b), (1, .ref (q 0)), (2, .ref (q 14)), (3, .ref (q 23)), (4, .ref (q 24)), (5, .int x5)]) hx hb dL_law_1436 hl (by decide) rfl (fun ls hl => ?_)
  refine lv_aload_n hx hb dL_law_1438 rfl (lv_at hl 3 rfl) ?_
  refine lv_aload_n hx hb dL_law_1439 rfl (lv_at hl 1 rfl) ?_
  refine lv_iload hx hb dL_law_1440 (lv_at hl 6 rfl) ?_
  refine lv_iconst (v := (1 : Int32)) hx hb dL_law_1442 (by decide) ?_
  refine lv_iadd hx hb dL_law_1443 ?_
  obtain ⟨g_3, hf⟩ := gd_some hf
  refine va_sld hx hb hX hbl hbA hS (inb_in g_3) dL_law_1444 ?_
  refine lv_aload_n hx hb dL_law_1445 rfl (lv_at hl 1 rfl) ?_
  refine lv_iload hx hb dL_law_1446 (lv_at hl 6 rfl) ?_
  refine lv_iconst (v := (2 : Int32)) hx hb dL_law_1448 (by decide) ?_
  refine lv_iadd hx hb dL_law_1449 ?_
  obtain ⟨g_4, hf⟩ := gd_some hf
  refine va_sld hx hb hX hbl hbA hS (inb_in g_4) dL_law_1450 ?_
  obtain ⟨⟨r1451, Mh1451⟩, hc, hf⟩ := bn_some hf
  try dsimp only at hf
  refine g_call0 (ws' := (w_0_1_2_3_4_5_6_7_8_9_10_11_12_13_14_15_16_17_18_19_20_21_22_23_24 q cI cJ cD Tn Ta Fn Fa Ba Rn Ra Rb Rd Ua Wg Wz Ww Wr Mh1451 Mn Mm Mt Mk Ms Me Mp Mw Ml My Oa1433 Od)) (st1 := [.int r1451]) hq [0, 1, 2, 3, 4, 5, 6, 7, 8, 9, 10, 11, 12, 13, 14, 15, 16, 17, 18, 19, 20, 21, 22, 23, 24] [14, 15] [.inr 0, .inr 1, .inr 2, .inr 3, .inr 4, .inr 5, .inr 6, .inr 7, .inr 8, .inr 9, .inr 10, .inr 11, .inr 12, .inr 13, .inl 0, .inl 1, .inr 16, .inr 17, .inr 18, .inr 19, .inr 20, .inr 21, .inr 22, .inr 23, .inr 24] (va_runV (As := [.int (xs ((x5 + (1 : Int32))).toNatClampNeg), .int (xs ((x5 + (2 : Int32))).toNatClampNeg)]) (rest := []) ⟨hx, hb, hml, hown, hts⟩ (kX9_leastRotation l D cI cJ cD q hq N Mh Mn Mm Mt (xs ((x5 + (1 : Int32))).toNatClampNeg) (xs ((x5 + (2 : Int32))).toNatClampNeg) r1451 Mh1451 hc) (cwV 2 hts gL_law_X9_leastRotation rfl rfl rfl (by decide +kernel) ⟨(Nat.le_of_ble_eq_true rfl), (Nat.le_of_ble_eq_true rfl)⟩) ⟨gP_blind, va_recv hE.1 hP (ci := 7) (q0 := 14) rfl rfl, fun U hU hW => ⟨rfl, by rw [hU]; exact hP.sub (ws' := (w_14_15 q cI cJ cD Mh Mn Mm Mt)) [14, 15] rfl, gEv.warm hW hE⟩⟩ rfl rfl hl.1 rfl (lv_room (Nat.le_of_ble_eq_true rfl)) dL_law_1451 ⟨hcm, hsm⟩) hP hS (gSubL hqA rfl) rfl rfl rfl rfl rfl (fun H locs hP hS => ?_)
  refine lv_istore (lv' := [(7, .int r1451), (6, .int r1433), (0, .ref b), (1, .ref (q 0)), (2, .ref (q 14)), (3, .ref (q 23)), (4, .ref (q 24)), (5, .int x5)]) hx hb dL_law_1454 hl (by decide) rfl (fun ls hl => ?_)
  refine lv_aload_n hx hb dL_law_1456 rfl (lv_at hl 4 rfl) ?_
  obtain ⟨r1457, hc, hf⟩ := bn_some hf
  try dsimp only at hf
  refine g_call0 (ws' := (w_0_1_2_3_4_5_6_7_8_9_10_11_12_13_14_15_16_17_18_19_20_21_22_23_24 q cI cJ cD Tn Ta Fn Fa Ba Rn Ra Rb Rd Ua Wg Wz Ww Wr Mh1451 Mn Mm Mt Mk Ms Me Mp Mw Ml My Oa1433 Od)) (st1 := [.int r1457]) hq [0, 1, 2, 3, 4, 5, 6, 7, 8, 9, 10, 11, 12, 13, 14, 15, 16, 17, 18, 19, 20, 21, 22, 23, 24] [14] [.inr 0, .inr 1, .inr 2, .inr 3, .inr 4, .inr 5, .inr 6, .inr 7, .inr 8, .inr 9, .inr 10, .inr 11, .inr 12, .inr 13, .inl 0, .inr 15, .inr 16, .inr 17, .inr 18, .inr 19, .inr 20, .inr 21, .inr 22, .inr 23, .inr 24] (va_runV (As := []) (rest := []) ⟨hx, hb, hml, hown, hts⟩ (kX9_thrown l D cI cJ cD q hq N Mh1451 Mn Mm r1457 hc) (cwV 0 hts gL_law_X9_thrown rfl rfl rfl (by decide +kernel) ⟨(Nat.le_of_ble_eq_true rfl), (Nat.le_of_ble_eq_true rfl)⟩) ⟨gP_blind, va_recv hE.1 hP (ci := 7) (q0 := 14) rfl rfl, fun U hU hW => ⟨rfl, by rw [hU]; exact hP.sub (ws' := (w_14 q cI cJ cD Mh1451 Mn Mm)) [14] rfl, gEv.warm hW hE⟩⟩ rfl rfl hl.1 rfl (lv_room (Nat.le_of_ble_eq_true rfl)) dL_law_1457 ⟨hcm, hsm⟩) hP hS (gSubL hqA rfl) rfl rfl rfl rfl rfl (fun H locs hP hS => ?_)
  refine lv_iload hx hb dL_law_1460 (lv_at hl 1 rfl) ?_
  refine lv_icmp_eq (tgt := 1467) hx hb dL_law_1462 (by decide) (fun c_5 => ?_) (fun c_5 => ?_)
  · have hf := (if_pos c_5).symm.trans hf
    refine lv_iload hx hb dL_law_1467 (lv_at hl 1 rfl) ?_
    refine lv_if_ne (tgt := 1484) hx hb dL_law_1469 (by decide) (fun c_6 => ?_) (fun c_6 => ?_)
    · have hf := (if_neg c_6).symm.trans hf
      exact law_J1484 hL C0 hlt D cI cJ cD sa q hq hqA hE hXe N k h5 k28 ih Tn Ta Fn Fa Ba Rn Ra Rb Rd Ua Wg Wz Ww Wr Mh1451 Mn Mm Mt Mk Ms Me Mp Mw Ml My Oa1433 Od x5 hx5 hf _ _ hP hS _ (lv_sub hl [2, 3, 4, 5, 6, 7] rfl)
    · have hf := (if_pos c_6).symm.trans hf
      refine lv_aload_n hx hb dL_law_1472 rfl (lv_at hl 5 rfl) ?_
      refine lv_iconst (v := (0 : Int32)) hx hb dL_law_1473 (by decide) ?_
      obtain ⟨g_7, hf⟩ := gd_some hf
      refine va_lald hx hb hE.1 hP 23 1 rfl rfl (inb_in g_7) dL_law_1474 ?_
      refine lv_iload hx hb dL_law_1475 (lv_at hl 0 rfl) ?_
      refine lv_i2l (v := (r1451).toInt64) hx hb dL_law_1477 rfl ?_
      refine W.lcmp hx hb dL_law_1478 ?_
      refine lv_if_eq (tgt := 1484) hx hb dL_law_1479 (by decide) (fun c_8 => ?_) (fun c_8 => ?_)
      · have hf := (if_pos c_8).symm.trans hf
        exact law_J1484 hL C0 hlt D cI cJ cD sa q hq hqA hE hXe N k h5 k28 ih Tn Ta Fn Fa Ba Rn Ra Rb Rd Ua Wg Wz Ww Wr Mh1451 Mn Mm Mt Mk Ms Me Mp Mw Ml My Oa1433 Od x5 hx5 hf _ _ hP hS _ (lv_sub hl [2, 3, 4, 5, 6, 7] rfl)
      · have hf := (if_neg c_8).symm.trans hf
        exact law_J1482 hL C0 hlt D cI cJ cD sa q hq hqA hE hXe N k (by omega) Tn Ta Fn Fa Ba Rn Ra Rb Rd Ua Wg Wz Ww Wr Mh1451 Mn Mm Mt Mk Ms Me Mp Mw Ml My Oa1433 Od hf _ _ hP hS _ (lv_sub hl [] rfl)
  · have hf := (if_neg c_5).symm.trans hf
    exact law_J1465 hL C0 hlt D cI cJ cD sa q hq hqA hE hXe N k (by omega) Tn Ta Fn Fa Ba Rn Ra Rb Rd Ua Wg Wz Ww Wr Mh1451 Mn Mm Mt Mk Ms Me Mp Mw Ml My Oa1433 Od hf _ _ hP hS _ (lv_sub hl [] rfl)
set_option maxHeartbeats 4000000 in
set_option maxRecDepth 100000 in
theorem law_J1552 {p : Program} {l : Launch} {e : Env} {s : State} {m : MethodId} {below : List Frame} {meth : Method} {c : Code} {b L : Nat} {xs : Nat → Int32} (hL : L ≤ 2560) (C0 : lw_At p s m meth c b L xs) (hlt : l.stackTraces = false) (D : va_G) (cI cJ cD : ClassId) (sa : Nat → Nat) (q : Nat → Nat) (hq : gInj q) (hqA : ∀ k, k < 25 → s.heap.size ≤ q k) (hE : gEv D cI cJ cD s) (hXe : gXe sa (fun a => s.heap.size ≤ a) s s.heap) (N : Nat) (k : Nat) (h5 : 5 * k + 5 ≤ L) (k28 : Int32 → (Nat → Int32) → Int32 → (Nat → Int32) → (Nat → Int32) → Int32 → (Nat → Int32) → (Nat → Int32) → (Nat → Int32) → (Nat → Int32) → Int32 → Int32 → Int32 → Int32 → Int32 → Int32 → Int32 → (Nat → Int32) → (Nat → Int32) → (Nat → Int32) → (Nat → Int32) → (Nat → Int32) → (Nat → Int32) → (Nat → Int32) → (Nat → Int64) → (Nat → Int64) → (Nat → UInt64) → Int32 → Option Int32) (ih : lawIH p l e s m below meth c b D cI cJ cD q k k28) (Tn : Int32) (Ta : (Nat → Int32)) (Fn : Int32) (Fa : (Nat → Int32)) (Ba : (Nat → Int32)) (Rn : Int32) (Ra : (Nat → Int32)) (Rb : (Nat → Int32)) (Rd : (Nat → Int32)) (Ua : (Nat → Int32)) (Wg : Int32) (Wz : Int32) (Ww : Int32) (Wr : Int32) (Mh : Int32) (Mn : Int32) (Mm : Int32) (Mt : (Nat → Int32)) (Mk : (Nat → Int32)) (Ms : (Nat → Int32)) (Me : (Nat → Int32)) (Mp : (Nat → Int32)) (Mw : (Nat → Int32)) (Ml : (Nat → Int32)) (My : (Nat → Int64)) (Oa : (Nat → Int64)) (Od : (Nat → UInt64)) (x5 : Int32) (hx5 : x5 = nI (5 * k)) (hf : fL_law_J1552 N L xs k28 Tn Ta Fn Fa Ba Rn Ra Rb Rd Ua Wg Wz Ww Wr Mh Mn Mm Mt Mk Ms Me Mp Mw Ml My Oa Od x5 = some 1) : ∀ (H : Heap) (locs : List Loc), va_P D vwCl (w_0_1_2_3_4_5_6_7_8_9_10_11_12_13_14_15_16_17_18_19_20_21_22_23_24 q cI cJ cD Tn Ta Fn Fa Ba Rn Ra Rb Rd Ua Wg Wz Ww Wr Mh Mn Mm Mt Mk Ms Me Mp Mw Ml My Oa Od) H → va_S (fun a : Nat => s.heap.size ≤ a) s.heap H locs → ∀ ls : Array Slot, lv_has ls 10 [(0, .ref b), (1, .ref (q 0)), (2, .ref (q 14)), (3, .ref (q 23)), (4, .ref (q 24)), (5, .int x5)] → W p l e room_1 s m #[Value.ref b] below meth c H locs (25 + k + 1) (1025 + 6 * k + 6) (lw_Z below #[Value.ref b] s) (F0 m 1552 ls []) := by
  obtain ⟨hx, hb, hr, hml, hown, hts0, hX, hbl, hlocks, hgv⟩ := id C0
  have hown : s.vm.findClass RL = some m.cls := hown
  have hts : ∀ w ∈ wsL_law, w.before #[Value.ref b] s = true := fun w h => hts0 w (wsL_law_in w h)
  have hbA : ¬ (fun a : Nat => s.heap.size ≤ a) b := Nat.not_le.mpr hbl
  have hcm : 25 + k + 1 ≤ 1058 := by omega
  have hsm : 1025 + 6 * k + 6 ≤ 9271 := by omega
  have hc0 : 25 + k ≤ 1058 := by omega
  have hs0 : 1025 + 6 * k ≤ 9271 := by omega
  intro H locs hP hS ls hl
  unfold fL_law_J1552 at hf
  refine lv_goto (tgt := 2831) hx hb dL_law_1552 (by decide) ?_
  exact law_J2831 hL C0 hlt D cI cJ cD sa q hq hqA hE hXe N k h5 k28 ih Tn Ta Fn Fa Ba Rn Ra Rb Rd Ua Wg Wz Ww Wr Mh Mn Mm Mt Mk Ms Me Mp Mw Ml My Oa Od x5 hx5 hf _ _ hP hS _ (lv_sub hl [0, 1, 2, 3, 4, 5] rfl)
set_option maxHeartbeats 4000000 in
set_option maxRecDepth 100000 in
theorem law_J1487 {p : Program} {l : Launch} {e : Env} {s : State} {m : MethodId} {below : List Frame} {meth : Method} {c : Code} {b L : Nat} {xs : Nat → Int32} (hL : L ≤ 2560) (C0 : lw_At p s m meth c b L xs) (hlt : l.stackTraces = false) (D : va_G) (cI cJ cD : ClassId) (sa : Nat → Nat) (q : Nat → Nat) (hq : gInj q) (hqA : ∀ k, k < 25 → s.heap.size ≤ q k) (hE : gEv D cI cJ cD s) (hXe : gXe sa (fun a => s.heap.size ≤ a) s s.heap) (N : Nat) (k : Nat) (h5 : 5 * k + 5 ≤ L) (k28 : Int32 → (Nat → Int32) → Int32 → (Nat → Int32) → (Nat → Int32) → Int32 → (Nat → Int32) → (Nat → Int32) → (Nat → Int32) → (Nat → Int32) → Int32 → Int32 → Int32 → Int32 → Int32 → Int32 → Int32 → (Nat → Int32) → (Nat → Int32) → (Nat → Int32) → (Nat → Int32) → (Nat → Int32) → (Nat → Int32) → (Nat → Int32) → (Nat → Int64) → (Nat → Int64) → (Nat → UInt64) → Int32 → Option Int32) (ih : lawIH p l e s m below meth c b D cI cJ cD q k k28) (Tn : Int32) (Ta : (Nat → Int32)) (Fn : Int32) (Fa : (Nat → Int32)) (Ba : (Nat → Int32)) (Rn : Int32) (Ra : (Nat → Int32)) (Rb : (Nat → Int32)) (Rd : (Nat → Int32)) (Ua : (Nat → Int32)) (Wg : Int32) (Wz : Int32) (Ww : Int32) (Wr : Int32) (Mh : Int32) (Mn : Int32) (Mm : Int32) (Mt : (Nat → Int32)) (Mk : (Nat → Int32)) (Ms : (Nat → Int32)) (Me : (Nat → Int32)) (Mp : (Nat → Int32)) (Mw : (Nat → Int32)) (Ml : (Nat → Int32)) (My : (Nat → Int64)) (Oa : (Nat → Int64)) (Od : (Nat → UInt64)) (x5 : Int32) (hx5 : x5 = nI (5 * k)) (hf : fL_law_J1487 N L xs k28 Tn Ta Fn Fa Ba Rn Ra Rb Rd Ua Wg Wz Ww Wr Mh Mn Mm Mt Mk Ms Me Mp Mw Ml My Oa Od x5 = some 1) : ∀ (H : Heap) (locs : List Loc), va_P D vwCl (w_0_1_2_3_4_5_6_7_8_9_10_11_12_13_14_15_16_17_18_19_20_21_22_23_24 q cI cJ cD Tn Ta Fn Fa Ba Rn Ra Rb Rd Ua Wg Wz Ww Wr Mh Mn Mm Mt Mk Ms Me Mp Mw Ml My Oa Od) H → va_S (fun a : Nat => s.heap.size ≤ a) s.heap H locs → ∀ ls : Array Slot, lv_has ls 10 [(0, .ref b), (1, .ref (q 0)), (2, .ref (q 14)), (3, .ref (q 23)), (4, .ref (q 24)), (5, .int x5)] → W p l e room_1 s m #[Value.ref b] below meth c H locs (25 + k) (1025 + 6 * k) (lw_Z below #[Value.ref b] s) (F0 m 1487 ls []) := by
  obtain ⟨hx, hb, hr, hml, hown, hts0, hX, hbl, hlocks, hgv⟩ := id C0
  have hown : s.vm.findClass RL = some m.cls := hown
  have hts : ∀ w ∈ wsL_law, w.before #[Value.ref b] s = true := fun w h => hts0 w (wsL_law_in w h)
  have hbA : ¬ (fun a : Nat => s.heap.size ≤ a) b := Nat.not_le.mpr hbl
  have hcm : 25 + k + 1 ≤ 1058 := by omega
  have hsm : 1025 + 6 * k + 6 ≤ 9271 := by omega
  have hc0 : 25 + k ≤ 1058 := by omega
  have hs0 : 1025 + 6 * k ≤ 9271 := by omega
  intro H locs hP hS ls hl
  unfold fL_law_J1487 at hf
  refine lv_aload_n hx hb dL_law_1487 rfl (lv_at hl 1 rfl) ?_
  refine lv_aload_n hx hb dL_law_1488 rfl (lv_at hl 0 rfl) ?_
  refine lv_iload hx hb dL_law_1489 (lv_at hl 5 rfl) ?_
  refine lv_iconst (v := (1 : Int32)) hx hb dL_law_1491 (by decide) ?_
  refine lv_iadd hx hb dL_law_1492 ?_
  obtain ⟨g_1, hf⟩ := gd_some hf
  refine va_sld hx hb hX hbl hbA hS (inb_in g_1) dL_law_1493 ?_
  refine lv_aload_n hx hb dL_law_1494 rfl (lv_at hl 0 rfl) ?_
  refine lv_iload hx hb dL_law_1495 (lv_at hl 5 rfl) ?_
  refine lv_iconst (v := (2 : Int32)) hx hb dL_law_1497 (by decide) ?_
  refine lv_iadd hx hb dL_law_1498 ?_
  obtain ⟨g_2, hf⟩ := gd_some hf
  refine va_sld hx hb hX hbl hbA hS (inb_in g_2) dL_law_1499 ?_
  refine lv_aload_n hx hb dL_law_1500 rfl (lv_at hl 3 rfl) ?_
  obtain ⟨⟨r1501, Oa1501⟩, hc, hf⟩ := bn_some hf
  try dsimp only at hf
  refine g_call (mc := 1) (ms := 6) (ws' := (w_0_1_2_3_4_5_6_7_8_9_10_11_12_13_14_15_16_17_18_19_20_21_22_23_24 q cI cJ cD Tn Ta Fn Fa Ba Rn Ra Rb Rd Ua Wg Wz Ww Wr Mh Mn Mm Mt Mk Ms Me Mp Mw Ml My Oa1501 Od)) (st1 := [.int r1501]) hq [0, 1, 2, 3, 4, 5, 6, 7, 8, 9, 10, 11, 12, 13, 14, 15, 16, 17, 18, 19, 20, 21, 22, 23, 24] [0, 1, 2, 23] [.inl 0, .inl 1, .inl 2, .inr 3, .inr 4, .inr 5, .inr 6, .inr 7, .inr 8, .inr 9, .inr 10, .inr 11, .inr 12, .inr 13, .inr 14, .inr 15, .inr 16, .inr 17, .inr 18, .inr 19, .inr 20, .inr 21, .inr 22, .inl 3, .inr 24] (vx_runSW (As := [.ref (q 0), .int (xs ((x5 + (1 : Int32))).toNatClampNeg), .int (xs ((x5 + (2 : Int32))).toNatClampNeg), .ref (q 23)]) (rest := []) ⟨hx, hb, hml, hown, hts⟩ (kL_greatestRotation l hlt D cI cJ cD sa q hq N Tn Ta Oa (xs ((x5 + (1 : Int32))).toNatClampNeg) (xs ((x5 + (2 : Int32))).toNatClampNeg) r1501 Oa1501 hc) (vx_cwSW 4 hts gL_law_L_greatestRotation rfl rfl rfl (by decide +kernel) ⟨(Nat.le_of_ble_eq_true rfl), (Nat.le_of_ble_eq_true rfl)⟩) ⟨gPx_blind, fun U hU hW => ⟨rfl, by rw [hU]; exact hP.sub (ws' := (w_0_1_2_23 q cI cJ cD Tn Ta Oa)) [0, 1, 2, 23] rfl, gEv.warm hW hE, gXe.go hW hS (gMonoL hqA rfl) hXe hU⟩⟩ rfl rfl hl.1 rfl (lv_room (Nat.le_of_ble_eq_true rfl)) dL_law_1501 ⟨hcm, hsm⟩) hP hS (gSubL hqA rfl) rfl rfl rfl rfl rfl (fun H locs hP hS => ?_)
  refine lv_istore (lv' := [(6, .int r1501), (0, .ref b), (1, .ref (q 0)), (2, .ref (q 14)), (3, .ref (q 23)), (4, .ref (q 24)), (5, .int x5)]) hx hb dL_law_1504 hl (by decide) rfl (fun ls hl => ?_)
  refine lv_aload_n hx hb dL_law_1506 rfl (lv_at hl 3 rfl) ?_
  refine lv_aload_n hx hb dL_law_1507 rfl (lv_at hl 1 rfl) ?_
  refine lv_iload hx hb dL_law_1508 (lv_at hl 6 rfl) ?_
  refine lv_iconst (v := (1 : Int32)) hx hb dL_law_1510 (by decide) ?_
  refine lv_iadd hx hb dL_law_1511 ?_
  obtain ⟨g_3, hf⟩ := gd_some hf
  refine va_sld hx hb hX hbl hbA hS (inb_in g_3) dL_law_1512 ?_
  refine lv_aload_n hx hb dL_law_1513 rfl (lv_at hl 1 rfl) ?_
  refine lv_iload hx hb dL_law_1514 (lv_at hl 6 rfl) ?_
  refine lv_iconst (v := (2 : Int32)) hx hb dL_law_1516 (by decide) ?_
  refine lv_iadd hx hb dL_law_1517 ?_
  obtain ⟨g_4, hf⟩ := gd_some hf
  refine va_sld hx hb hX hbl hbA hS (inb_in g_4) dL_law_1518 ?_
  obtain ⟨⟨r1519, Mh1519⟩, hc, hf⟩ := bn_some hf
  try dsimp only at hf
  refine g_call0 (ws' := (w_0_1_2_3_4_5_6_7_8_9_10_11_12_13_14_15_16_17_18_19_20_21_22_23_24 q cI cJ cD Tn Ta Fn Fa Ba Rn Ra Rb Rd Ua Wg Wz Ww Wr Mh1519 Mn Mm Mt Mk Ms Me Mp Mw Ml My Oa1501 Od)) (st1 := [.int r1519]) hq [0, 1, 2, 3, 4, 5, 6, 7, 8, 9, 10, 11, 12, 13, 14, 15, 16, 17, 18, 19, 20, 21, 22, 23, 24] [14, 15] [.inr 0, .inr 1, .inr 2, .inr 3, .inr 4, .inr 5, .inr 6, .inr 7, .inr 8, .inr 9, .inr 10, .inr 11, .inr 12, .inr 13, .inl 0, .inl 1, .inr 16, .inr 17, .inr 18, .inr 19, .inr 20, .inr 21, .inr 22, .inr 23, .inr 24] (va_runV (As := [.int (xs ((x5 + (1 : Int32))).toNatClampNeg), .int (xs ((x5 + (2 : Int32))).toNatClampNeg)]) (rest := []) ⟨hx, hb, hml, hown, hts⟩ (kX9_greatestRotation l D cI cJ cD q hq N Mh Mn Mm Mt (xs ((x5 + (1 : Int32))).toNatClampNeg) (xs ((x5 + (2 : Int32))).toNatClampNeg) r1519 Mh1519 hc) (cwV 2 hts gL_law_X9_greatestRotation rfl rfl rfl (by decide +kernel) ⟨(Nat.le_of_ble_eq_true rfl), (Nat.le_of_ble_eq_true rfl)⟩) ⟨gP_blind, va_recv hE.1 hP (ci := 7) (q0 := 14) rfl rfl, fun U hU hW => ⟨rfl, by rw [hU]; exact hP.sub (ws' := (w_14_15 q cI cJ cD Mh Mn Mm Mt)) [14, 15] rfl, gEv.warm hW hE⟩⟩ rfl rfl hl.1 rfl (lv_room (Nat.le_of_ble_eq_true rfl)) dL_law_1519 ⟨hcm, hsm⟩) hP hS (gSubL hqA rfl) rfl rfl rfl rfl rfl (fun H locs hP hS => ?_)
  refine lv_istore (lv' := [(7, .int r1519), (6, .int r1501), (0, .ref b), (1, .ref (q 0)), (2, .ref (q 14)), (3, .ref (q 23)), (4, .ref (q 24)), (5, .int x5)]) hx hb dL_law_1522 hl (by decide) rfl (fun ls hl => ?_)
  refine lv_aload_n hx hb dL_law_1524 rfl (lv_at hl 4 rfl) ?_
  obtain ⟨r1525, hc, hf⟩ := bn_some hf
  try dsimp only at hf
  refine g_call0 (ws' := (w_0_1_2_3_4_5_6_7_8_9_10_11_12_13_14_15_16_17_18_19_20_21_22_23_24 q cI cJ cD Tn Ta Fn Fa Ba Rn Ra Rb Rd Ua Wg Wz Ww Wr Mh1519 Mn Mm Mt Mk Ms Me Mp Mw Ml My Oa1501 Od)) (st1 := [.int r1525]) hq [0, 1, 2, 3, 4, 5, 6, 7, 8, 9, 10, 11, 12, 13, 14, 15, 16, 17, 18, 19, 20, 21, 22, 23, 24] [14] [.inr 0, .inr 1, .inr 2, .inr 3, .inr 4, .inr 5, .inr 6, .inr 7, .inr 8, .inr 9, .inr 10, .inr 11, .inr 12, .inr 13, .inl 0, .inr 15, .inr 16, .inr 17, .inr 18, .inr 19, .inr 20, .inr 21, .inr 22, .inr 23, .inr 24] (va_runV (As := []) (rest := []) ⟨hx, hb, hml, hown, hts⟩ (kX9_thrown l D cI cJ cD q hq N Mh1519 Mn Mm r1525 hc) (cwV 0 hts gL_law_X9_thrown rfl rfl rfl (by decide +kernel) ⟨(Nat.le_of_ble_eq_true rfl), (Nat.le_of_ble_eq_true rfl)⟩) ⟨gP_blind, va_recv hE.1 hP (ci := 7) (q0 := 14) rfl rfl, fun U hU hW => ⟨rfl, by rw [hU]; exact hP.sub (ws' := (w_14 q cI cJ cD Mh1519 Mn Mm)) [14] rfl, gEv.warm hW hE⟩⟩ rfl rfl hl.1 rfl (lv_room (Nat.le_of_ble_eq_true rfl)) dL_law_1525 ⟨hcm, hsm⟩) hP hS (gSubL hqA rfl) rfl rfl rfl rfl rfl (fun H locs hP hS => ?_)
  refine lv_iload hx hb dL_law_1528 (lv_at hl 1 rfl) ?_
  refine lv_icmp_eq (tgt := 1535) hx hb dL_law_1530 (by decide) (fun c_5 => ?_) (fun c_5 => ?_)
  · have hf := (if_pos c_5).symm.trans hf
    refine lv_iload hx hb dL_law_1535 (lv_at hl 1 rfl) ?_
    refine lv_if_ne (tgt := 1552) hx hb dL_law_1537 (by decide) (fun c_6 => ?_) (fun c_6 => ?_)
    · have hf := (if_neg c_6).symm.trans hf
      exact law_J1552 hL C0 hlt D cI cJ cD sa q hq hqA hE hXe N k h5 k28 ih Tn Ta Fn Fa Ba Rn Ra Rb Rd Ua Wg Wz Ww Wr Mh1519 Mn Mm Mt Mk Ms Me Mp Mw Ml My Oa1501 Od x5 hx5 hf _ _ hP hS _ (lv_sub hl [2, 3, 4, 5, 6, 7] rfl)
    · have hf := (if_pos c_6).symm.trans hf
      refine lv_aload_n hx hb dL_law_1540 rfl (lv_at hl 5 rfl) ?_
      refine lv_iconst (v := (0 : Int32)) hx hb dL_law_1541 (by decide) ?_
      obtain ⟨g_7, hf⟩ := gd_some hf
      refine va_lald hx hb hE.1 hP 23 1 rfl rfl (inb_in g_7) dL_law_1542 ?_
      refine lv_iload hx hb dL_law_1543 (lv_at hl 0 rfl) ?_
      refine lv_i2l (v := (r1519).toInt64) hx hb dL_law_1545 rfl ?_
      refine W.lcmp hx hb dL_law_1546 ?_
      refine lv_if_eq (tgt := 1552) hx hb dL_law_1547 (by decide) (fun c_8 => ?_) (fun c_8 => ?_)
      · have hf := (if_pos c_8).symm.trans hf
        exact law_J1552 hL C0 hlt D cI cJ cD sa q hq hqA hE hXe N k h5 k28 ih Tn Ta Fn Fa Ba Rn Ra Rb Rd Ua Wg Wz Ww Wr Mh1519 Mn Mm Mt Mk Ms Me Mp Mw Ml My Oa1501 Od x5 hx5 hf _ _ hP hS _ (lv_sub hl [2, 3, 4, 5, 6, 7] rfl)
      · have hf := (if_neg c_8).symm.trans hf
        exact law_J1550 hL C0 hlt D cI cJ cD sa q hq hqA hE hXe N k (by omega) Tn Ta Fn Fa Ba Rn Ra Rb Rd Ua Wg Wz Ww Wr Mh1519 Mn Mm Mt Mk Ms Me Mp Mw Ml My Oa1501 Od hf _ _ hP hS _ (lv_sub hl [] rfl)
  · have hf := (if_neg c_5).symm.trans hf
    exact law_J1533 hL C0 hlt D cI cJ cD sa q hq hqA hE hXe N k (by omega) Tn Ta Fn Fa Ba Rn Ra Rb Rd Ua Wg Wz Ww Wr Mh1519 Mn Mm Mt Mk Ms Me Mp Mw Ml My Oa1501 Od hf _ _ hP hS _ (lv_sub hl [] rfl)
set_option maxHeartbeats 4000000 in
set_option maxRecDepth 100000 in
theorem law_J1620 {p : Program} {l : Launch} {e : Env} {s : State} {m : MethodId} {below : List Frame} {meth : Method} {c : Code} {b L : Nat} {xs : Nat → Int32} (hL : L ≤ 2560) (C0 : lw_At p s m meth c b L xs) (hlt : l.stackTraces = false) (D : va_G) (cI cJ cD : ClassId) (sa : Nat → Nat) (q : Nat → Nat) (hq : gInj q) (hqA : ∀ k, k < 25 → s.heap.size ≤ q k) (hE : gEv D cI cJ cD s) (hXe : gXe sa (fun a => s.heap.size ≤ a) s s.heap) (N : Nat) (k : Nat) (h5 : 5 * k + 5 ≤ L) (k28 : Int32 → (Nat → Int32) → Int32 → (Nat → Int32) → (Nat → Int32) → Int32 → (Nat → Int32) → (Nat → Int32) → (Nat → Int32) → (Nat → Int32) → Int32 → Int32 → Int32 → Int32 → Int32 → Int32 → Int32 → (Nat → Int32) → (Nat → Int32) → (Nat → Int32) → (Nat → Int32) → (Nat → Int32) → (Nat → Int32) → (Nat → Int32) → (Nat → Int64) → (Nat → Int64) → (Nat → UInt64) → Int32 → Option Int32) (ih : lawIH p l e s m below meth c b D cI cJ cD q k k28) (Tn : Int32) (Ta : (Nat → Int32)) (Fn : Int32) (Fa : (Nat → Int32)) (Ba : (Nat → Int32)) (Rn : Int32) (Ra : (Nat → Int32)) (Rb : (Nat → Int32)) (Rd : (Nat → Int32)) (Ua : (Nat → Int32)) (Wg : Int32) (Wz : Int32) (Ww : Int32) (Wr : Int32) (Mh : Int32) (Mn : Int32) (Mm : Int32) (Mt : (Nat → Int32)) (Mk : (Nat → Int32)) (Ms : (Nat → Int32)) (Me : (Nat → Int32)) (Mp : (Nat → Int32)) (Mw : (Nat → Int32)) (Ml : (Nat → Int32)) (My : (Nat → Int64)) (Oa : (Nat → Int64)) (Od : (Nat → UInt64)) (x5 : Int32) (hx5 : x5 = nI (5 * k)) (hf : fL_law_J1620 N L xs k28 Tn Ta Fn Fa Ba Rn Ra Rb Rd Ua Wg Wz Ww Wr Mh Mn Mm Mt Mk Ms Me Mp Mw Ml My Oa Od x5 = some 1) : ∀ (H : Heap) (locs : List Loc), va_P D vwCl (w_0_1_2_3_4_5_6_7_8_9_10_11_12_13_14_15_16_17_18_19_20_21_22_23_24 q cI cJ cD Tn Ta Fn Fa Ba Rn Ra Rb Rd Ua Wg Wz Ww Wr Mh Mn Mm Mt Mk Ms Me Mp Mw Ml My Oa Od) H → va_S (fun a : Nat => s.heap.size ≤ a) s.heap H locs → ∀ ls : Array Slot, lv_has ls 10 [(0, .ref b), (1, .ref (q 0)), (2, .ref (q 14)), (3, .ref (q 23)), (4, .ref (q 24)), (5, .int x5)] → W p l e room_1 s m #[Value.ref b] below meth c H locs (25 + k + 1) (1025 + 6 * k + 6) (lw_Z below #[Value.ref b] s) (F0 m 1620 ls []) := by
  obtain ⟨hx, hb, hr, hml, hown, hts0, hX, hbl, hlocks, hgv⟩ := id C0
  have hown : s.vm.findClass RL = some m.cls := hown
  have hts : ∀ w ∈ wsL_law, w.before #[Value.ref b] s = true := fun w h => hts0 w (wsL_law_in w h)
  have hbA : ¬ (fun a : Nat => s.heap.size ≤ a) b := Nat.not_le.mpr hbl
  have hcm : 25 + k + 1 ≤ 1058 := by omega
  have hsm : 1025 + 6 * k + 6 ≤ 9271 := by omega
  have hc0 : 25 + k ≤ 1058 := by omega
  have hs0 : 1025 + 6 * k ≤ 9271 := by omega
  intro H locs hP hS ls hl
  unfold fL_law_J1620 at hf
  refine lv_goto (tgt := 2831) hx hb dL_law_1620 (by decide) ?_
  exact law_J2831 hL C0 hlt D cI cJ cD sa q hq hqA hE hXe N k h5 k28 ih Tn Ta Fn Fa Ba Rn Ra Rb Rd Ua Wg Wz Ww Wr Mh Mn Mm Mt Mk Ms Me Mp Mw Ml My Oa Od x5 hx5 hf _ _ hP hS _ (lv_sub hl [0, 1, 2, 3, 4, 5] rfl)
set_option maxHeartbeats 4000000 in
set_option maxRecDepth 100000 in
theorem law_J1555 {p : Program} {l : Launch} {e : Env} {s : State} {m : MethodId} {below : List Frame} {meth : Method} {c : Code} {b L : Nat} {xs : Nat → Int32} (hL : L ≤ 2560) (C0 : lw_At p s m meth c b L xs) (hlt : l.stackTraces = false) (D : va_G) (cI cJ cD : ClassId) (sa : Nat → Nat) (q : Nat → Nat) (hq : gInj q) (hqA : ∀ k, k < 25 → s.heap.size ≤ q k) (hE : gEv D cI cJ cD s) (hXe : gXe sa (fun a => s.heap.size ≤ a) s s.heap) (N : Nat) (k : Nat) (h5 : 5 * k + 5 ≤ L) (k28 : Int32 → (Nat → Int32) → Int32 → (Nat → Int32) → (Nat → Int32) → Int32 → (Nat → Int32) → (Nat → Int32) → (Nat → Int32) → (Nat → Int32) → Int32 → Int32 → Int32 → Int32 → Int32 → Int32 → Int32 → (Nat → Int32) → (Nat → Int32) → (Nat → Int32) → (Nat → Int32) → (Nat → Int32) → (Nat → Int32) → (Nat → Int32) → (Nat → Int64) → (Nat → Int64) → (Nat → UInt64) → Int32 → Option Int32) (ih : lawIH p l e s m below meth c b D cI cJ cD q k k28) (Tn : Int32) (Ta : (Nat → Int32)) (Fn : Int32) (Fa : (Nat → Int32)) (Ba : (Nat → Int32)) (Rn : Int32) (Ra : (Nat → Int32)) (Rb : (Nat → Int32)) (Rd : (Nat → Int32)) (Ua : (Nat → Int32)) (Wg : Int32) (Wz : Int32) (Ww : Int32) (Wr : Int32) (Mh : Int32) (Mn : Int32) (Mm : Int32) (Mt : (Nat → Int32)) (Mk : (Nat → Int32)) (Ms : (Nat → Int32)) (Me : (Nat → Int32)) (Mp : (Nat → Int32)) (Mw : (Nat → Int32)) (Ml : (Nat → Int32)) (My : (Nat → Int64)) (Oa : (Nat → Int64)) (Od : (Nat → UInt64)) (x5 : Int32) (hx5 : x5 = nI (5 * k)) (hf : fL_law_J1555 N L xs k28 Tn Ta Fn Fa Ba Rn Ra Rb Rd Ua Wg Wz Ww Wr Mh Mn Mm Mt Mk Ms Me Mp Mw Ml My Oa Od x5 = some 1) : ∀ (H : Heap) (locs : List Loc), va_P D vwCl (w_0_1_2_3_4_5_6_7_8_9_10_11_12_13_14_15_16_17_18_19_20_21_22_23_24 q cI cJ cD Tn Ta Fn Fa Ba Rn Ra Rb Rd Ua Wg Wz Ww Wr Mh Mn Mm Mt Mk Ms Me Mp Mw Ml My Oa Od) H → va_S (fun a : Nat => s.heap.size ≤ a) s.heap H locs → ∀ ls : Array Slot, lv_has ls 10 [(0, .ref b), (1, .ref (q 0)), (2, .ref (q 14)), (3, .ref (q 23)), (4, .ref (q 24)), (5, .int x5)] → W p l e room_1 s m #[Value.ref b] below meth c H locs (25 + k) (1025 + 6 * k) (lw_Z below #[Value.ref b] s) (F0 m 1555 ls []) := by
  obtain ⟨hx, hb, hr, hml, hown, hts0, hX, hbl, hlocks, hgv⟩ := id C0
  have hown : s.vm.findClass RL = some m.cls := hown
  have hts : ∀ w ∈ wsL_law, w.before #[Value.ref b] s = true := fun w h => hts0 w (wsL_law_in w h)
  have hbA : ¬ (fun a : Nat => s.heap.size ≤ a) b := Nat.not_le.mpr hbl
  have hcm : 25 + k + 1 ≤ 1058 := by omega
  have hsm : 1025 + 6 * k + 6 ≤ 9271 := by omega
  have hc0 : 25 + k ≤ 1058 := by omega
  have hs0 : 1025 + 6 * k ≤ 9271 := by omega
  intro H locs hP hS ls hl
  unfold fL_law_J1555 at hf
  refine lv_aload_n hx hb dL_law_1555 rfl (lv_at hl 1 rfl) ?_
  refine lv_aload_n hx hb dL_law_1556 rfl (lv_at hl 0 rfl) ?_
  refine lv_iload hx hb dL_law_1557 (lv_at hl 5 rfl) ?_
  refine lv_iconst (v := (1 : Int32)) hx hb dL_law_1559 (by decide) ?_
  refine lv_iadd hx hb dL_law_1560 ?_
  obtain ⟨g_1, hf⟩ := gd_some hf
  refine va_sld hx hb hX hbl hbA hS (inb_in g_1) dL_law_1561 ?_
  refine lv_aload_n hx hb dL_law_1562 rfl (lv_at hl 0 rfl) ?_
  refine lv_iload hx hb dL_law_1563 (lv_at hl 5 rfl) ?_
  refine lv_iconst (v := (2 : Int32)) hx hb dL_law_1565 (by decide) ?_
  refine lv_iadd hx hb dL_law_1566 ?_
  obtain ⟨g_2, hf⟩ := gd_some hf
  refine va_sld hx hb hX hbl hbA hS (inb_in g_2) dL_law_1567 ?_
  refine lv_aload_n hx hb dL_law_1568 rfl (lv_at hl 3 rfl) ?_
  obtain ⟨⟨r1569, Ba1569, Oa1569⟩, hc, hf⟩ := bn_some hf
  try dsimp only at hf
  refine g_call (mc := 1) (ms := 6) (ws' := (w_0_1_2_3_4_5_6_7_8_9_10_11_12_13_14_15_16_17_18_19_20_21_22_23_24 q cI cJ cD Tn Ta Fn Fa Ba1569 Rn Ra Rb Rd Ua Wg Wz Ww Wr Mh Mn Mm Mt Mk Ms Me Mp Mw Ml My Oa1569 Od)) (st1 := [.int r1569]) hq [0, 1, 2, 3, 4, 5, 6, 7, 8, 9, 10, 11, 12, 13, 14, 15, 16, 17, 18, 19, 20, 21, 22, 23, 24] [0, 1, 2, 5, 6, 23] [.inl 0, .inl 1, .inl 2, .inr 3, .inr 4, .inl 3, .inl 4, .inr 7, .inr 8, .inr 9, .inr 10, .inr 11, .inr 12, .inr 13, .inr 14, .inr 15, .inr 16, .inr 17, .inr 18, .inr 19, .inr 20, .inr 21, .inr 22, .inl 5, .inr 24] (vx_runSW (As := [.ref (q 0), .int (xs ((x5 + (1 : Int32))).toNatClampNeg), .int (xs ((x5 + (2 : Int32))).toNatClampNeg), .ref (q 23)]) (rest := []) ⟨hx, hb, hml, hown, hts⟩ (kL_rotations l hlt D cI cJ cD sa q hq N Tn Ta Ba Oa (xs ((x5 + (1 : Int32))).toNatClampNeg) (xs ((x5 + (2 : Int32))).toNatClampNeg) r1569 Ba1569 Oa1569 hc) (vx_cwSW 4 hts gL_law_L_rotations rfl rfl rfl (by decide +kernel) ⟨(Nat.le_of_ble_eq_true rfl), (Nat.le_of_ble_eq_true rfl)⟩) ⟨gPx_blind, fun U hU hW => ⟨rfl, by rw [hU]; exact hP.sub (ws' := (w_0_1_2_5_6_23 q cI cJ cD Tn Ta Ba Oa)) [0, 1, 2, 5, 6, 23] rfl, gEv.warm hW hE, gXe.go hW hS (gMonoL hqA rfl) hXe hU⟩⟩ rfl rfl hl.1 rfl (lv_room (Nat.le_of_ble_eq_true rfl)) dL_law_1569 ⟨hcm, hsm⟩) hP hS (gSubL hqA rfl) rfl rfl rfl rfl rfl (fun H locs hP hS => ?_)
  refine lv_istore (lv' := [(6, .int r1569), (0, .ref b), (1, .ref (q 0)), (2, .ref (q 14)), (3, .ref (q 23)), (4, .ref (q 24)), (5, .int x5)]) hx hb dL_law_1572 hl (by decide) rfl (fun ls hl => ?_)
  refine lv_aload_n hx hb dL_law_1574 rfl (lv_at hl 3 rfl) ?_
  refine lv_aload_n hx hb dL_law_1575 rfl (lv_at hl 1 rfl) ?_
  refine lv_iload hx hb dL_law_1576 (lv_at hl 6 rfl) ?_
  refine lv_iconst (v := (1 : Int32)) hx hb dL_law_1578 (by decide) ?_
  refine lv_iadd hx hb dL_law_1579 ?_
  obtain ⟨g_3, hf⟩ := gd_some hf
  refine va_sld hx hb hX hbl hbA hS (inb_in g_3) dL_law_1580 ?_
  refine lv_aload_n hx hb dL_law_1581 rfl (lv_at hl 1 rfl) ?_
  refine lv_iload hx hb dL_law_1582 (lv_at hl 6 rfl) ?_
  refine lv_iconst (v := (2 : Int32)) hx hb dL_law_1584 (by decide) ?_
  refine lv_iadd hx hb dL_law_1585 ?_
  obtain ⟨g_4, hf⟩ := gd_some hf
  refine va_sld hx hb hX hbl hbA hS (inb_in g_4) dL_law_1586 ?_
  obtain ⟨⟨r1587, Mh1587⟩, hc, hf⟩ := bn_some hf
  try dsimp only at hf
  refine g_call0 (ws' := (w_0_1_2_3_4_5_6_7_8_9_10_11_12_13_14_15_16_17_18_19_20_21_22_23_24 q cI cJ cD Tn Ta Fn Fa Ba1569 Rn Ra Rb Rd Ua Wg Wz Ww Wr Mh1587 Mn Mm Mt Mk Ms Me Mp Mw Ml My Oa1569 Od)) (st1 := [.int r1587]) hq [0, 1, 2, 3, 4, 5, 6, 7, 8, 9, 10, 11, 12, 13, 14, 15, 16, 17, 18, 19, 20, 21, 22, 23, 24] [14, 15] [.inr 0, .inr 1, .inr 2, .inr 3, .inr 4, .inr 5, .inr 6, .inr 7, .inr 8, .inr 9, .inr 10, .inr 11, .inr 12, .inr 13, .inl 0, .inl 1, .inr 16, .inr 17, .inr 18, .inr 19, .inr 20, .inr 21, .inr 22, .inr 23, .inr 24] (va_runV (As := [.int (xs ((x5 + (1 : Int32))).toNatClampNeg), .int (xs ((x5 + (2 : Int32))).toNatClampNeg)]) (rest := []) ⟨hx, hb, hml, hown, hts⟩ (kX9_rotations l D cI cJ cD q hq N Mh Mn Mm Mt (xs ((x5 + (1 : Int32))).toNatClampNeg) (xs ((x5 + (2 : Int32))).toNatClampNeg) r1587 Mh1587 hc) (cwV 2 hts gL_law_X9_rotations rfl rfl rfl (by decide +kernel) ⟨(Nat.le_of_ble_eq_true rfl), (Nat.le_of_ble_eq_true rfl)⟩) ⟨gP_blind, va_recv hE.1 hP (ci := 7) (q0 := 14) rfl rfl, fun U hU hW => ⟨rfl, by rw [hU]; exact hP.sub (ws' := (w_14_15 q cI cJ cD Mh Mn Mm Mt)) [14, 15] rfl, gEv.warm hW hE⟩⟩ rfl rfl hl.1 rfl (lv_room (Nat.le_of_ble_eq_true rfl)) dL_law_1587 ⟨hcm, hsm⟩) hP hS (gSubL hqA rfl) rfl rfl rfl rfl rfl (fun H locs hP hS => ?_)
  refine lv_istore (lv' := [(7, .int r1587), (6, .int r1569), (0, .ref b), (1, .ref (q 0)), (2, .ref (q 14)), (3, .ref (q 23)), (4, .ref (q 24)), (5, .int x5)]) hx hb dL_law_1590 hl (by decide) rfl (fun ls hl => ?_)
  refine lv_aload_n hx hb dL_law_1592 rfl (lv_at hl 4 rfl) ?_
  obtain ⟨r1593, hc, hf⟩ := bn_some hf
  try dsimp only at hf
  refine g_call0 (ws' := (w_0_1_2_3_4_5_6_7_8_9_10_11_12_13_14_15_16_17_18_19_20_21_22_23_24 q cI cJ cD Tn Ta Fn Fa Ba1569 Rn Ra Rb Rd Ua Wg Wz Ww Wr Mh1587 Mn Mm Mt Mk Ms Me Mp Mw Ml My Oa1569 Od)) (st1 := [.int r1593]) hq [0, 1, 2, 3, 4, 5, 6, 7, 8, 9, 10, 11, 12, 13, 14, 15, 16, 17, 18, 19, 20, 21, 22, 23, 24] [14] [.inr 0, .inr 1, .inr 2, .inr 3, .inr 4, .inr 5, .inr 6, .inr 7, .inr 8, .inr 9, .inr 10, .inr 11, .inr 12, .inr 13, .inl 0, .inr 15, .inr 16, .inr 17, .inr 18, .inr 19, .inr 20, .inr 21, .inr 22, .inr 23, .inr 24] (va_runV (As := []) (rest := []) ⟨hx, hb, hml, hown, hts⟩ (kX9_thrown l D cI cJ cD q hq N Mh1587 Mn Mm r1593 hc) (cwV 0 hts gL_law_X9_thrown rfl rfl rfl (by decide +kernel) ⟨(Nat.le_of_ble_eq_true rfl), (Nat.le_of_ble_eq_true rfl)⟩) ⟨gP_blind, va_recv hE.1 hP (ci := 7) (q0 := 14) rfl rfl, fun U hU hW => ⟨rfl, by rw [hU]; exact hP.sub (ws' := (w_14 q cI cJ cD Mh1587 Mn Mm)) [14] rfl, gEv.warm hW hE⟩⟩ rfl rfl hl.1 rfl (lv_room (Nat.le_of_ble_eq_true rfl)) dL_law_1593 ⟨hcm, hsm⟩) hP hS (gSubL hqA rfl) rfl rfl rfl rfl rfl (fun H locs hP hS => ?_)
  refine lv_iload hx hb dL_law_1596 (lv_at hl 1 rfl) ?_
  refine lv_icmp_eq (tgt := 1603) hx hb dL_law_1598 (by decide) (fun c_5 => ?_) (fun c_5 => ?_)
  · have hf := (if_pos c_5).symm.trans hf
    refine lv_iload hx hb dL_law_1603 (lv_at hl 1 rfl) ?_
    refine lv_if_ne (tgt := 1620) hx hb dL_law_1605 (by decide) (fun c_6 => ?_) (fun c_6 => ?_)
    · have hf := (if_neg c_6).symm.trans hf
      exact law_J1620 hL C0 hlt D cI cJ cD sa q hq hqA hE hXe N k h5 k28 ih Tn Ta Fn Fa Ba1569 Rn Ra Rb Rd Ua Wg Wz Ww Wr Mh1587 Mn Mm Mt Mk Ms Me Mp Mw Ml My Oa1569 Od x5 hx5 hf _ _ hP hS _ (lv_sub hl [2, 3, 4, 5, 6, 7] rfl)
    · have hf := (if_pos c_6).symm.trans hf
      refine lv_aload_n hx hb dL_law_1608 rfl (lv_at hl 5 rfl) ?_
      refine lv_iconst (v := (0 : Int32)) hx hb dL_law_1609 (by decide) ?_
      obtain ⟨g_7, hf⟩ := gd_some hf
      refine va_lald hx hb hE.1 hP 23 1 rfl rfl (inb_in g_7) dL_law_1610 ?_
      refine lv_iload hx hb dL_law_1611 (lv_at hl 0 rfl) ?_
      refine lv_i2l (v := (r1587).toInt64) hx hb dL_law_1613 rfl ?_
      refine W.lcmp hx hb dL_law_1614 ?_
      refine lv_if_eq (tgt := 1620) hx hb dL_law_1615 (by decide) (fun c_8 => ?_) (fun c_8 => ?_)
      · have hf := (if_pos c_8).symm.trans hf
        exact law_J1620 hL C0 hlt D cI cJ cD sa q hq hqA hE hXe N k h5 k28 ih Tn Ta Fn Fa Ba1569 Rn Ra Rb Rd Ua Wg Wz Ww Wr Mh1587 Mn Mm Mt Mk Ms Me Mp Mw Ml My Oa1569 Od x5 hx5 hf _ _ hP hS _ (lv_sub hl [2, 3, 4, 5, 6, 7] rfl)
      · have hf := (if_neg c_8).symm.trans hf
        exact law_J1618 hL C0 hlt D cI cJ cD sa q hq hqA hE hXe N k (by omega) Tn Ta Fn Fa Ba1569 Rn Ra Rb Rd Ua Wg Wz Ww Wr Mh1587 Mn Mm Mt Mk Ms Me Mp Mw Ml My Oa1569 Od hf _ _ hP hS _ (lv_sub hl [] rfl)
  · have hf := (if_neg c_5).symm.trans hf
    exact law_J1601 hL C0 hlt D cI cJ cD sa q hq hqA hE hXe N k (by omega) Tn Ta Fn Fa Ba1569 Rn Ra Rb Rd Ua Wg Wz Ww Wr Mh1587 Mn Mm Mt Mk Ms Me Mp Mw Ml My Oa1569 Od hf _ _ hP hS _ (lv_sub hl [] rfl)
set_option maxHeartbeats 4000000 in
set_option maxRecDepth 100000 in
theorem law_J1695 {p : Program} {l : Launch} {e : Env} {s : State} {m : MethodId} {below : List Frame} {meth : Method} {c : Code} {b L : Nat} {xs : Nat → Int32} (hL : L ≤ 2560) (C0 : lw_At p s m meth c b L xs) (hlt : l.stackTraces = false) (D : va_G) (cI cJ cD : ClassId) (sa : Nat → Nat) (q : Nat → Nat) (hq : gInj q) (hqA : ∀ k, k < 25 → s.heap.size ≤ q k) (hE : gEv D cI cJ cD s) (hXe : gXe sa (fun a => s.heap.size ≤ a) s s.heap) (N : Nat) (k : Nat) (h5 : 5 * k + 5 ≤ L) (k28 : Int32 → (Nat → Int32) → Int32 → (Nat → Int32) → (Nat → Int32) → Int32 → (Nat → Int32) → (Nat → Int32) → (Nat → Int32) → (Nat → Int32) → Int32 → Int32 → Int32 → Int32 → Int32 → Int32 → Int32 → (Nat → Int32) → (Nat → Int32) → (Nat → Int32) → (Nat → Int32) → (Nat → Int32) → (Nat → Int32) → (Nat → Int32) → (Nat → Int64) → (Nat → Int64) → (Nat → UInt64) → Int32 → Option Int32) (ih : lawIH p l e s m below meth c b D cI cJ cD q k k28) (Tn : Int32) (Ta : (Nat → Int32)) (Fn : Int32) (Fa : (Nat → Int32)) (Ba : (Nat → Int32)) (Rn : Int32) (Ra : (Nat → Int32)) (Rb : (Nat → Int32)) (Rd : (Nat → Int32)) (Ua : (Nat → Int32)) (Wg : Int32) (Wz : Int32) (Ww : Int32) (Wr : Int32) (Mh : Int32) (Mn : Int32) (Mm : Int32) (Mt : (Nat → Int32)) (Mk : (Nat → Int32)) (Ms : (Nat → Int32)) (Me : (Nat → Int32)) (Mp : (Nat → Int32)) (Mw : (Nat → Int32)) (Ml : (Nat → Int32)) (My : (Nat → Int64)) (Oa : (Nat → Int64)) (Od : (Nat → UInt64)) (x5 : Int32) (hx5 : x5 = nI (5 * k)) (hf : fL_law_J1695 N L xs k28 Tn Ta Fn Fa Ba Rn Ra Rb Rd Ua Wg Wz Ww Wr Mh Mn Mm Mt Mk Ms Me Mp Mw Ml My Oa Od x5 = some 1) : ∀ (H : Heap) (locs : List Loc), va_P D vwCl (w_0_1_2_3_4_5_6_7_8_9_10_11_12_13_14_15_16_17_18_19_20_21_22_23_24 q cI cJ cD Tn Ta Fn Fa Ba Rn Ra Rb Rd Ua Wg Wz Ww Wr Mh Mn Mm Mt Mk Ms Me Mp Mw Ml My Oa Od) H → va_S (fun a : Nat => s.heap.size ≤ a) s.heap H locs → ∀ ls : Array Slot, lv_has ls 10 [(0, .ref b), (1, .ref (q 0)), (2, .ref (q 14)), (3, .ref (q 23)), (4, .ref (q 24)), (5, .int x5)] → W p l e room_1 s m #[Value.ref b] below meth c H locs (25 + k + 1) (1025 + 6 * k + 6) (lw_Z below #[Value.ref b] s) (F0 m 1695 ls []) := by
  obtain ⟨hx, hb, hr, hml, hown, hts0, hX, hbl, hlocks, hgv⟩ := id C0
  have hown : s.vm.findClass RL = some m.cls := hown
  have hts : ∀ w ∈ wsL_law, w.before #[Value.ref b] s = true := fun w h => hts0 w (wsL_law_in w h)
  have hbA : ¬ (fun a : Nat => s.heap.size ≤ a) b := Nat.not_le.mpr hbl
  have hcm : 25 + k + 1 ≤ 1058 := by omega
  have hsm : 1025 + 6 * k + 6 ≤ 9271 := by omega
  have hc0 : 25 + k ≤ 1058 := by omega
  have hs0 : 1025 + 6 * k ≤ 9271 := by omega
  intro H locs hP hS ls hl
  unfold fL_law_J1695 at hf
  refine lv_goto (tgt := 2831) hx hb dL_law_1695 (by decide) ?_
  exact law_J2831 hL C0 hlt D cI cJ cD sa q hq hqA hE hXe N k h5 k28 ih Tn Ta Fn Fa Ba Rn Ra Rb Rd Ua Wg Wz Ww Wr Mh Mn Mm Mt Mk Ms Me Mp Mw Ml My Oa Od x5 hx5 hf _ _ hP hS _ (lv_sub hl [0, 1, 2, 3, 4, 5] rfl)
set_option maxHeartbeats 4000000 in
set_option maxRecDepth 100000 in
theorem law_J1689 {p : Program} {l : Launch} {e : Env} {s : State} {m : MethodId} {below : List Frame} {meth : Method} {c : Code} {b L : Nat} {xs : Nat → Int32} (hL : L ≤ 2560) (C0 : lw_At p s m meth c b L xs) (hlt : l.stackTraces = false) (D : va_G) (cI cJ cD : ClassId) (sa : Nat → Nat) (q : Nat → Nat) (hq : gInj q) (hqA : ∀ k, k < 25 → s.heap.size ≤ q k) (hE : gEv D cI cJ cD s) (hXe : gXe sa (fun a => s.heap.size ≤ a) s s.heap) (N : Nat) (k : Nat) (h5 : 5 * k + 5 ≤ L) (k28 : Int32 → (Nat → Int32) → Int32 → (Nat → Int32) → (Nat → Int32) → Int32 → (Nat → Int32) → (Nat → Int32) → (Nat → Int32) → (Nat → Int32) → Int32 → Int32 → Int32 → Int32 → Int32 → Int32 → Int32 → (Nat → Int32) → (Nat → Int32) → (Nat → Int32) → (Nat → Int32) → (Nat → Int32) → (Nat → Int32) → (Nat → Int32) → (Nat → Int64) → (Nat → Int64) → (Nat → UInt64) → Int32 → Option Int32) (ih : lawIH p l e s m below meth c b D cI cJ cD q k k28) (Tn : Int32) (Ta : (Nat → Int32)) (Fn : Int32) (Fa : (Nat → Int32)) (Ba : (Nat → Int32)) (Rn : Int32) (Ra : (Nat → Int32)) (Rb : (Nat → Int32)) (Rd : (Nat → Int32)) (Ua : (Nat → Int32)) (Wg : Int32) (Wz : Int32) (Ww : Int32) (Wr : Int32) (Mh : Int32) (Mn : Int32) (Mm : Int32) (Mt : (Nat → Int32)) (Mk : (Nat → Int32)) (Ms : (Nat → Int32)) (Me : (Nat → Int32)) (Mp : (Nat → Int32)) (Mw : (Nat → Int32)) (Ml : (Nat → Int32)) (My : (Nat → Int64)) (Oa : (Nat → Int64)) (Od : (Nat → UInt64)) (x5 : Int32) (y0 : Int64) (y1 : Int64) (hx5 : x5 = nI (5 * k)) (hf : fL_law_J1689 N L xs k28 Tn Ta Fn Fa Ba Rn Ra Rb Rd Ua Wg Wz Ww Wr Mh Mn Mm Mt Mk Ms Me Mp Mw Ml My Oa Od x5 y0 y1 = some 1) : ∀ (H : Heap) (locs : List Loc), va_P D vwCl (w_0_1_2_3_4_5_6_7_8_9_10_11_12_13_14_15_16_17_18_19_20_21_22_23_24 q cI cJ cD Tn Ta Fn Fa Ba Rn Ra Rb Rd Ua Wg Wz Ww Wr Mh Mn Mm Mt Mk Ms Me Mp Mw Ml My Oa Od) H → va_S (fun a : Nat => s.heap.size ≤ a) s.heap H locs → ∀ ls : Array Slot, lv_has ls 10 [(0, .ref b), (1, .ref (q 0)), (2, .ref (q 14)), (3, .ref (q 23)), (4, .ref (q 24)), (5, .int x5)] → W p l e room_1 s m #[Value.ref b] below meth c H locs (25 + k + 1) (1025 + 6 * k + 6) (lw_Z below #[Value.ref b] s) (F0 m 1689 ls [.long y1, .long y0]) := by
  obtain ⟨hx, hb, hr, hml, hown, hts0, hX, hbl, hlocks, hgv⟩ := id C0
  have hown : s.vm.findClass RL = some m.cls := hown
  have hts : ∀ w ∈ wsL_law, w.before #[Value.ref b] s = true := fun w h => hts0 w (wsL_law_in w h)
  have hbA : ¬ (fun a : Nat => s.heap.size ≤ a) b := Nat.not_le.mpr hbl
  have hcm : 25 + k + 1 ≤ 1058 := by omega
  have hsm : 1025 + 6 * k + 6 ≤ 9271 := by omega
  have hc0 : 25 + k ≤ 1058 := by omega
  have hs0 : 1025 + 6 * k ≤ 9271 := by omega
  intro H locs hP hS ls hl
  unfold fL_law_J1689 at hf
  refine W.lcmp hx hb dL_law_1689 ?_
  refine lv_if_eq (tgt := 1695) hx hb dL_law_1690 (by decide) (fun c_1 => ?_) (fun c_1 => ?_)
  · have hf := (if_pos c_1).symm.trans hf
    exact law_J1695 hL C0 hlt D cI cJ cD sa q hq hqA hE hXe N k h5 k28 ih Tn Ta Fn Fa Ba Rn Ra Rb Rd Ua Wg Wz Ww Wr Mh Mn Mm Mt Mk Ms Me Mp Mw Ml My Oa Od x5 hx5 hf _ _ hP hS _ (lv_sub hl [0, 1, 2, 3, 4, 5] rfl)
  · have hf := (if_neg c_1).symm.trans hf
    exact law_J1693 hL C0 hlt D cI cJ cD sa q hq hqA hE hXe N k (by omega) Tn Ta Fn Fa Ba Rn Ra Rb Rd Ua Wg Wz Ww Wr Mh Mn Mm Mt Mk Ms Me Mp Mw Ml My Oa Od hf _ _ hP hS _ (lv_sub hl [] rfl)
set_option maxHeartbeats 4000000 in
set_option maxRecDepth 100000 in
theorem law_J1623 {p : Program} {l : Launch} {e : Env} {s : State} {m : MethodId} {below : List Frame} {meth : Method} {c : Code} {b L : Nat} {xs : Nat → Int32} (hL : L ≤ 2560) (C0 : lw_At p s m meth c b L xs) (hlt : l.stackTraces = false) (D : va_G) (cI cJ cD : ClassId) (sa : Nat → Nat) (q : Nat → Nat) (hq : gInj q) (hqA : ∀ k, k < 25 → s.heap.size ≤ q k) (hE : gEv D cI cJ cD s) (hXe : gXe sa (fun a => s.heap.size ≤ a) s s.heap) (N : Nat) (k : Nat) (h5 : 5 * k + 5 ≤ L) (k28 : Int32 → (Nat → Int32) → Int32 → (Nat → Int32) → (Nat → Int32) → Int32 → (Nat → Int32) → (Nat → Int32) → (Nat → Int32) → (Nat → Int32) → Int32 → Int32 → Int32 → Int32 → Int32 → Int32 → Int32 → (Nat → Int32) → (Nat → Int32) → (Nat → Int32) → (Nat → Int32) → (Nat → Int32) → (Nat → Int32) → (Nat → Int32) → (Nat → Int64) → (Nat → Int64) → (Nat → UInt64) → Int32 → Option Int32) (ih : lawIH p l e s m below meth c b D cI cJ cD q k k28) (Tn : Int32) (Ta : (Nat → Int32)) (Fn : Int32) (Fa : (Nat → Int32)) (Ba : (Nat → Int32)) (Rn : Int32) (Ra : (Nat → Int32)) (Rb : (Nat → Int32)) (Rd : (Nat → Int32)) (Ua : (Nat → Int32)) (Wg : Int32) (Wz : Int32) (Ww : Int32) (Wr : Int32) (Mh : Int32) (Mn : Int32) (Mm : Int32) (Mt : (Nat → Int32)) (Mk : (Nat → Int32)) (Ms : (Nat → Int32)) (Me : (Nat → Int32)) (Mp : (Nat → Int32)) (Mw : (Nat → Int32)) (Ml : (Nat → Int32)) (My : (Nat → Int64)) (Oa : (Nat → Int64)) (Od : (Nat → UInt64)) (x5 : Int32) (hx5 : x5 = nI (5 * k)) (hf : fL_law_J1623 N L xs k28 Tn Ta Fn Fa Ba Rn Ra Rb Rd Ua Wg Wz Ww Wr Mh Mn Mm Mt Mk Ms Me Mp Mw Ml My Oa Od x5 = some 1) : ∀ (H : Heap) (locs : List Loc), va_P D vwCl (w_0_1_2_3_4_5_6_7_8_9_10_11_12_13_14_15_16_17_18_19_20_21_22_23_24 q cI cJ cD Tn Ta Fn Fa Ba Rn Ra Rb Rd Ua Wg Wz Ww Wr Mh Mn Mm Mt Mk Ms Me Mp Mw Ml My Oa Od) H → va_S (fun a : Nat => s.heap.size ≤ a) s.heap H locs → ∀ ls : Array Slot, lv_has ls 10 [(0, .ref b), (1, .ref (q 0)), (2, .ref (q 14)), (3, .ref (q 23)), (4, .ref (q 24)), (5, .int x5)] → W p l e room_1 s m #[Value.ref b] below meth c H locs (25 + k) (1025 + 6 * k) (lw_Z below #[Value.ref b] s) (F0 m 1623 ls []) := by
  obtain ⟨hx, hb, hr, hml, hown, hts0, hX, hbl, hlocks, hgv⟩ := id C0
  have hown : s.vm.findClass RL = some m.cls := hown
  have hts : ∀ w ∈ wsL_law, w.before #[Value.ref b] s = true := fun w h => hts0 w (wsL_law_in w h)
  have hbA : ¬ (fun a : Nat => s.heap.size ≤ a) b := Nat.not_le.mpr hbl
  have hcm : 25 + k + 1 ≤ 1058 := by omega
  have hsm : 1025 + 6 * k + 6 ≤ 9271 := by omega
  have hc0 : 25 + k ≤ 1058 := by omega
  have hs0 : 1025 + 6 * k ≤ 9271 := by omega
  intro H locs hP hS ls hl
  unfold fL_law_J1623 at hf
  refine lv_aload_n hx hb dL_law_1623 rfl (lv_at hl 1 rfl) ?_
  refine lv_aload_n hx hb dL_law_1624 rfl (lv_at hl 0 rfl) ?_
  refine lv_iload hx hb dL_law_1625 (lv_at hl 5 rfl) ?_
  refine lv_iconst (v := (1 : Int32)) hx hb dL_law_1627 (by decide) ?_
  refine lv_iadd hx hb dL_law_1628 ?_
  obtain ⟨g_1, hf⟩ := gd_some hf
  refine va_sld hx hb hX hbl hbA hS (inb_in g_1) dL_law_1629 ?_
  refine lv_aload_n hx hb dL_law_1630 rfl (lv_at hl 0 rfl) ?_
  refine lv_iload hx hb dL_law_1631 (lv_at hl 5 rfl) ?_
  refine lv_iconst (v := (2 : Int32)) hx hb dL_law_1633 (by decide) ?_
  refine lv_iadd hx hb dL_law_1634 ?_
  obtain ⟨g_2, hf⟩ := gd_some hf
  refine va_sld hx hb hX hbl hbA hS (inb_in g_2) dL_law_1635 ?_
  refine lv_aload_n hx hb dL_law_1636 rfl (lv_at hl 3 rfl) ?_
  obtain ⟨⟨r1637, Oa1637⟩, hc, hf⟩ := bn_some hf
  try dsimp only at hf
  refine g_call (mc := 1) (ms := 6) (ws' := (w_0_1_2_3_4_5_6_7_8_9_10_11_12_13_14_15_16_17_18_19_20_21_22_23_24 q cI cJ cD Tn Ta Fn Fa Ba Rn Ra Rb Rd Ua Wg Wz Ww Wr Mh Mn Mm Mt Mk Ms Me Mp Mw Ml My Oa1637 Od)) (st1 := [.int r1637]) hq [0, 1, 2, 3, 4, 5, 6, 7, 8, 9, 10, 11, 12, 13, 14, 15, 16, 17, 18, 19, 20, 21, 22, 23, 24] [0, 1, 2, 23] [.inl 0, .inl 1, .inl 2, .inr 3, .inr 4, .inr 5, .inr 6, .inr 7, .inr 8, .inr 9, .inr 10, .inr 11, .inr 12, .inr 13, .inr 14, .inr 15, .inr 16, .inr 17, .inr 18, .inr 19, .inr 20, .inr 21, .inr 22, .inl 3, .inr 24] (vx_runSW (As := [.ref (q 0), .int (xs ((x5 + (1 : Int32))).toNatClampNeg), .int (xs ((x5 + (2 : Int32))).toNatClampNeg), .ref (q 23)]) (rest := []) ⟨hx, hb, hml, hown, hts⟩ (kL_isNecklace l hlt D cI cJ cD sa q hq N Tn Ta Oa (xs ((x5 + (1 : Int32))).toNatClampNeg) (xs ((x5 + (2 : Int32))).toNatClampNeg) r1637 Oa1637 hc) (vx_cwSW 4 hts gL_law_L_isNecklace rfl rfl rfl (by decide +kernel) ⟨(Nat.le_of_ble_eq_true rfl), (Nat.le_of_ble_eq_true rfl)⟩) ⟨gPx_blind, fun U hU hW => ⟨rfl, by rw [hU]; exact hP.sub (ws' := (w_0_1_2_23 q cI cJ cD Tn Ta Oa)) [0, 1, 2, 23] rfl, gEv.warm hW hE, gXe.go hW hS (gMonoL hqA rfl) hXe hU⟩⟩ rfl rfl hl.1 rfl (lv_room (Nat.le_of_ble_eq_true rfl)) dL_law_1637 ⟨hcm, hsm⟩) hP hS (gSubL hqA rfl) rfl rfl rfl rfl rfl (fun H locs hP hS => ?_)
  refine lv_istore (lv' := [(6, .int r1637), (0, .ref b), (1, .ref (q 0)), (2, .ref (q 14)), (3, .ref (q 23)), (4, .ref (q 24)), (5, .int x5)]) hx hb dL_law_1640 hl (by decide) rfl (fun ls hl => ?_)
  refine lv_aload_n hx hb dL_law_1642 rfl (lv_at hl 3 rfl) ?_
  refine lv_aload_n hx hb dL_law_1643 rfl (lv_at hl 1 rfl) ?_
  refine lv_iload hx hb dL_law_1644 (lv_at hl 6 rfl) ?_
  refine lv_iconst (v := (1 : Int32)) hx hb dL_law_1646 (by decide) ?_
  refine lv_iadd hx hb dL_law_1647 ?_
  obtain ⟨g_3, hf⟩ := gd_some hf
  refine va_sld hx hb hX hbl hbA hS (inb_in g_3) dL_law_1648 ?_
  refine lv_aload_n hx hb dL_law_1649 rfl (lv_at hl 1 rfl) ?_
  refine lv_iload hx hb dL_law_1650 (lv_at hl 6 rfl) ?_
  refine lv_iconst (v := (2 : Int32)) hx hb dL_law_1652 (by decide) ?_
  refine lv_iadd hx hb dL_law_1653 ?_
  obtain ⟨g_4, hf⟩ := gd_some hf
  refine va_sld hx hb hX hbl hbA hS (inb_in g_4) dL_law_1654 ?_
  obtain ⟨⟨r1655, Mh1655⟩, hc, hf⟩ := bn_some hf
  try dsimp only at hf
  refine g_call0 (ws' := (w_0_1_2_3_4_5_6_7_8_9_10_11_12_13_14_15_16_17_18_19_20_21_22_23_24 q cI cJ cD Tn Ta Fn Fa Ba Rn Ra Rb Rd Ua Wg Wz Ww Wr Mh1655 Mn Mm Mt Mk Ms Me Mp Mw Ml My Oa1637 Od)) (st1 := [.int r1655]) hq [0, 1, 2, 3, 4, 5, 6, 7, 8, 9, 10, 11, 12, 13, 14, 15, 16, 17, 18, 19, 20, 21, 22, 23, 24] [14, 15] [.inr 0, .inr 1, .inr 2, .inr 3, .inr 4, .inr 5, .inr 6, .inr 7, .inr 8, .inr 9, .inr 10, .inr 11, .inr 12, .inr 13, .inl 0, .inl 1, .inr 16, .inr 17, .inr 18, .inr 19, .inr 20, .inr 21, .inr 22, .inr 23, .inr 24] (va_runV (As := [.int (xs ((x5 + (1 : Int32))).toNatClampNeg), .int (xs ((x5 + (2 : Int32))).toNatClampNeg)]) (rest := []) ⟨hx, hb, hml, hown, hts⟩ (kX9_isNecklace l D cI cJ cD q hq N Mh Mn Mm Mt (xs ((x5 + (1 : Int32))).toNatClampNeg) (xs ((x5 + (2 : Int32))).toNatClampNeg) r1655 Mh1655 hc) (cwV 2 hts gL_law_X9_isNecklace rfl rfl rfl (by decide +kernel) ⟨(Nat.le_of_ble_eq_true rfl), (Nat.le_of_ble_eq_true rfl)⟩) ⟨gP_blind, va_recv hE.1 hP (ci := 7) (q0 := 14) rfl rfl, fun U hU hW => ⟨rfl, by rw [hU]; exact hP.sub (ws' := (w_14_15 q cI cJ cD Mh Mn Mm Mt)) [14, 15] rfl, gEv.warm hW hE⟩⟩ rfl rfl hl.1 rfl (lv_room (Nat.le_of_ble_eq_true rfl)) dL_law_1655 ⟨hcm, hsm⟩) hP hS (gSubL hqA rfl) rfl rfl rfl rfl rfl (fun H locs hP hS => ?_)
  refine lv_istore (lv' := [(7, .int r1655), (6, .int r1637), (0, .ref b), (1, .ref (q 0)), (2, .ref (q 14)), (3, .ref (q 23)), (4, .ref (q 24)), (5, .int x5)]) hx hb dL_law_1658 hl (by decide) rfl (fun ls hl => ?_)
  refine lv_aload_n hx hb dL_law_1660 rfl (lv_at hl 4 rfl) ?_
  obtain ⟨r1661, hc, hf⟩ := bn_some hf
  try dsimp only at hf
  refine g_call0 (ws' := (w_0_1_2_3_4_5_6_7_8_9_10_11_12_13_14_15_16_17_18_19_20_21_22_23_24 q cI cJ cD Tn Ta Fn Fa Ba Rn Ra Rb Rd Ua Wg Wz Ww Wr Mh1655 Mn Mm Mt Mk Ms Me Mp Mw Ml My Oa1637 Od)) (st1 := [.int r1661]) hq [0, 1, 2, 3, 4, 5, 6, 7, 8, 9, 10, 11, 12, 13, 14, 15, 16, 17, 18, 19, 20, 21, 22, 23, 24] [14] [.inr 0, .inr 1, .inr 2, .inr 3, .inr 4, .inr 5, .inr 6, .inr 7, .inr 8, .inr 9, .inr 10, .inr 11, .inr 12, .inr 13, .inl 0, .inr 15, .inr 16, .inr 17, .inr 18, .inr 19, .inr 20, .inr 21, .inr 22, .inr 23, .inr 24] (va_runV (As := []) (rest := []) ⟨hx, hb, hml, hown, hts⟩ (kX9_thrown l D cI cJ cD q hq N Mh1655 Mn Mm r1661 hc) (cwV 0 hts gL_law_X9_thrown rfl rfl rfl (by decide +kernel) ⟨(Nat.le_of_ble_eq_true rfl), (Nat.le_of_ble_eq_true rfl)⟩) ⟨gP_blind, va_recv hE.1 hP (ci := 7) (q0 := 14) rfl rfl, fun U hU hW => ⟨rfl, by rw [hU]; exact hP.sub (ws' := (w_14 q cI cJ cD Mh1655 Mn Mm)) [14] rfl, gEv.warm hW hE⟩⟩ rfl rfl hl.1 rfl (lv_room (Nat.le_of_ble_eq_true rfl)) dL_law_1661 ⟨hcm, hsm⟩) hP hS (gSubL hqA rfl) rfl rfl rfl rfl rfl (fun H locs hP hS => ?_)
  refine lv_iload hx hb dL_law_1664 (lv_at hl 1 rfl) ?_
  refine lv_icmp_eq (tgt := 1671) hx hb dL_law_1666 (by decide) (fun c_5 => ?_) (fun c_5 => ?_)
  · have hf := (if_pos c_5).symm.trans hf
    refine lv_iload hx hb dL_law_1671 (lv_at hl 1 rfl) ?_
    refine lv_if_ne (tgt := 1695) hx hb dL_law_1673 (by decide) (fun c_6 => ?_) (fun c_6 => ?_)
    · have hf := (if_neg c_6).symm.trans hf
      exact law_J1695 hL C0 hlt D cI cJ cD sa q hq hqA hE hXe N k h5 k28 ih Tn Ta Fn Fa Ba Rn Ra Rb Rd Ua Wg Wz Ww Wr Mh1655 Mn Mm Mt Mk Ms Me Mp Mw Ml My Oa1637 Od x5 hx5 hf _ _ hP hS _ (lv_sub hl [2, 3, 4, 5, 6, 7] rfl)
    · have hf := (if_pos c_6).symm.trans hf
      refine lv_aload_n hx hb dL_law_1676 rfl (lv_at hl 5 rfl) ?_
      refine lv_iconst (v := (0 : Int32)) hx hb dL_law_1677 (by decide) ?_
      obtain ⟨g_7, hf⟩ := gd_some hf
      refine va_lald hx hb hE.1 hP 23 1 rfl rfl (inb_in g_7) dL_law_1678 ?_
      refine lv_iload hx hb dL_law_1679 (lv_at hl 0 rfl) ?_
      refine lv_if_eq (tgt := 1688) hx hb dL_law_1681 (by decide) (fun c_8 => ?_) (fun c_8 => ?_)
      · have hf := (if_pos c_8).symm.trans hf
        refine lv_lconst (v := (0 : Int64)) hx hb dL_law_1688 (by decide) ?_
        exact law_J1689 hL C0 hlt D cI cJ cD sa q hq hqA hE hXe N k h5 k28 ih Tn Ta Fn Fa Ba Rn Ra Rb Rd Ua Wg Wz Ww Wr Mh1655 Mn Mm Mt Mk Ms Me Mp Mw Ml My Oa1637 Od x5 (Oa1637 ((0 : Int32)).toNatClampNeg) (0 : Int64) hx5 hf _ _ hP hS _ (lv_sub hl [2, 3, 4, 5, 6, 7] rfl)
      · have hf := (if_neg c_8).symm.trans hf
        refine lv_lconst (v := (1 : Int64)) hx hb dL_law_1684 (by decide) ?_
        refine lv_goto (tgt := 1689) hx hb dL_law_1685 (by decide) ?_
        exact law_J1689 hL C0 hlt D cI cJ cD sa q hq hqA hE hXe N k h5 k28 ih Tn Ta Fn Fa Ba Rn Ra Rb Rd Ua Wg Wz Ww Wr Mh1655 Mn Mm Mt Mk Ms Me Mp Mw Ml My Oa1637 Od x5 (Oa1637 ((0 : Int32)).toNatClampNeg) (1 : Int64) hx5 hf _ _ hP hS _ (lv_sub hl [2, 3, 4, 5, 6, 7] rfl)
  · have hf := (if_neg c_5).symm.trans hf
    exact law_J1669 hL C0 hlt D cI cJ cD sa q hq hqA hE hXe N k (by omega) Tn Ta Fn Fa Ba Rn Ra Rb Rd Ua Wg Wz Ww Wr Mh1655 Mn Mm Mt Mk Ms Me Mp Mw Ml My Oa1637 Od hf _ _ hP hS _ (lv_sub hl [] rfl)
set_option maxHeartbeats 4000000 in
set_option maxRecDepth 100000 in
theorem law_J1763 {p : Program} {l : Launch} {e : Env} {s : State} {m : MethodId} {below : List Frame} {meth : Method} {c : Code} {b L : Nat} {xs : Nat → Int32} (hL : L ≤ 2560) (C0 : lw_At p s m meth c b L xs) (hlt : l.stackTraces = false) (D : va_G) (cI cJ cD : ClassId) (sa : Nat → Nat) (q : Nat → Nat) (hq : gInj q) (hqA : ∀ k, k < 25 → s.heap.size ≤ q k) (hE : gEv D cI cJ cD s) (hXe : gXe sa (fun a => s.heap.size ≤ a) s s.heap) (N : Nat) (k : Nat) (h5 : 5 * k + 5 ≤ L) (k28 : Int32 → (Nat → Int32) → Int32 → (Nat → Int32) → (Nat → Int32) → Int32 → (Nat → Int32) → (Nat → Int32) → (Nat → Int32) → (Nat → Int32) → Int32 → Int32 → Int32 → Int32 → Int32 → Int32 → Int32 → (Nat → Int32) → (Nat → Int32) → (Nat → Int32) → (Nat → Int32) → (Nat → Int32) → (Nat → Int32) → (Nat → Int32) → (Nat → Int64) → (Nat → Int64) → (Nat → UInt64) → Int32 → Option Int32) (ih : lawIH p l e s m below meth c b D cI cJ cD q k k28) (Tn : Int32) (Ta : (Nat → Int32)) (Fn : Int32) (Fa : (Nat → Int32)) (Ba : (Nat → Int32)) (Rn : Int32) (Ra : (Nat → Int32)) (Rb : (Nat → Int32)) (Rd : (Nat → Int32)) (Ua : (Nat → Int32)) (Wg : Int32) (Wz : Int32) (Ww : Int32) (Wr : Int32) (Mh : Int32) (Mn : Int32) (Mm : Int32) (Mt : (Nat → Int32)) (Mk : (Nat → Int32)) (Ms : (Nat → Int32)) (Me : (Nat → Int32)) (Mp : (Nat → Int32)) (Mw : (Nat → Int32)) (Ml : (Nat → Int32)) (My : (Nat → Int64)) (Oa : (Nat → Int64)) (Od : (Nat → UInt64)) (x5 : Int32) (hx5 : x5 = nI (5 * k)) (hf : fL_law_J1763 N L xs k28 Tn Ta Fn Fa Ba Rn Ra Rb Rd Ua Wg Wz Ww Wr Mh Mn Mm Mt Mk Ms Me Mp Mw Ml My Oa Od x5 = some 1) : ∀ (H : Heap) (locs : List Loc), va_P D vwCl (w_0_1_2_3_4_5_6_7_8_9_10_11_12_13_14_15_16_17_18_19_20_21_22_23_24 q cI cJ cD Tn Ta Fn Fa Ba Rn Ra Rb Rd Ua Wg Wz Ww Wr Mh Mn Mm Mt Mk Ms Me Mp Mw Ml My Oa Od) H → va_S (fun a : Nat => s.heap.size ≤ a) s.heap H locs → ∀ ls : Array Slot, lv_has ls 10 [(0, .ref b), (1, .ref (q 0)), (2, .ref (q 14)), (3, .ref (q 23)), (4, .ref (q 24)), (5, .int x5)] → W p l e room_1 s m #[Value.ref b] below meth c H locs (25 + k + 1) (1025 + 6 * k + 6) (lw_Z below #[Value.ref b] s) (F0 m 1763 ls []) := by
  obtain ⟨hx, hb, hr, hml, hown, hts0, hX, hbl, hlocks, hgv⟩ := id C0
  have hown : s.vm.findClass RL = some m.cls := hown
  have hts : ∀ w ∈ wsL_law, w.before #[Value.ref b] s = true := fun w h => hts0 w (wsL_law_in w h)
  have hbA : ¬ (fun a : Nat => s.heap.size ≤ a) b := Nat.not_le.mpr hbl
  have hcm : 25 + k + 1 ≤ 1058 := by omega
  have hsm : 1025 + 6 * k + 6 ≤ 9271 := by omega
  have hc0 : 25 + k ≤ 1058 := by omega
  have hs0 : 1025 + 6 * k ≤ 9271 := by omega
  intro H locs hP hS ls hl
  unfold fL_law_J1763 at hf
  refine lv_goto (tgt := 2831) hx hb dL_law_1763 (by decide) ?_
  exact law_J2831 hL C0 hlt D cI cJ cD sa q hq hqA hE hXe N k h5 k28 ih Tn Ta Fn Fa Ba Rn Ra Rb Rd Ua Wg Wz Ww Wr Mh Mn Mm Mt Mk Ms Me Mp Mw Ml My Oa Od x5 hx5 hf _ _ hP hS _ (lv_sub hl [0, 1, 2, 3, 4, 5] rfl)
set_option maxHeartbeats 4000000 in
set_option maxRecDepth 100000 in
theorem law_J1698 {p : Program} {l : Launch} {e : Env} {s : State} {m : MethodId} {below : List Frame} {meth : Method} {c : Code} {b L : Nat} {xs : Nat → Int32} (hL : L ≤ 2560) (C0 : lw_At p s m meth c b L xs) (hlt : l.stackTraces = false) (D : va_G) (cI cJ cD : ClassId) (sa : Nat → Nat) (q : Nat → Nat) (hq : gInj q) (hqA : ∀ k, k < 25 → s.heap.size ≤ q k) (hE : gEv D cI cJ cD s) (hXe : gXe sa (fun a => s.heap.size ≤ a) s s.heap) (N : Nat) (k : Nat) (h5 : 5 * k + 5 ≤ L) (k28 : Int32 → (Nat → Int32) → Int32 → (Nat → Int32) → (Nat → Int32) → Int32 → (Nat → Int32) → (Nat → Int32) → (Nat → Int32) → (Nat → Int32) → Int32 → Int32 → Int32 → Int32 → Int32 → Int32 → Int32 → (Nat → Int32) → (Nat → Int32) → (Nat → Int32) → (Nat → Int32) → (Nat → Int32) → (Nat → Int32) → (Nat → Int32) → (Nat → Int64) → (Nat → Int64) → (Nat → UInt64) → Int32 → Option Int32) (ih : lawIH p l e s m below meth c b D cI cJ cD q k k28) (Tn : Int32) (Ta : (Nat → Int32)) (Fn : Int32) (Fa : (Nat → Int32)) (Ba : (Nat → Int32)) (Rn : Int32) (Ra : (Nat → Int32)) (Rb : (Nat → Int32)) (Rd : (Nat → Int32)) (Ua : (Nat → Int32)) (Wg : Int32) (Wz : Int32) (Ww : Int32) (Wr : Int32) (Mh : Int32) (Mn : Int32) (Mm : Int32) (Mt : (Nat → Int32)) (Mk : (Nat → Int32)) (Ms : (Nat → Int32)) (Me : (Nat → Int32)) (Mp : (Nat → Int32)) (Mw : (Nat → Int32)) (Ml : (Nat → Int32)) (My : (Nat → Int64)) (Oa : (Nat → Int64)) (Od : (Nat → UInt64)) (x5 : Int32) (hx5 : x5 = nI (5 * k)) (hf : fL_law_J1698 N L xs k28 Tn Ta Fn Fa Ba Rn Ra Rb Rd Ua Wg Wz Ww Wr Mh Mn Mm Mt Mk Ms Me Mp Mw Ml My Oa Od x5 = some 1) : ∀ (H : Heap) (locs : List Loc), va_P D vwCl (w_0_1_2_3_4_5_6_7_8_9_10_11_12_13_14_15_16_17_18_19_20_21_22_23_24 q cI cJ cD Tn Ta Fn Fa Ba Rn Ra Rb Rd Ua Wg Wz Ww Wr Mh Mn Mm Mt Mk Ms Me Mp Mw Ml My Oa Od) H → va_S (fun a : Nat => s.heap.size ≤ a) s.heap H locs → ∀ ls : Array Slot, lv_has ls 10 [(0, .ref b), (1, .ref (q 0)), (2, .ref (q 14)), (3, .ref (q 23)), (4, .ref (q 24)), (5, .int x5)] → W p l e room_1 s m #[Value.ref b] below meth c H locs (25 + k) (1025 + 6 * k) (lw_Z below #[Value.ref b] s) (F0 m 1698 ls []) := by
  obtain ⟨hx, hb, hr, hml, hown, hts0, hX, hbl, hlocks, hgv⟩ := id C0
  have hown : s.vm.findClass RL = some m.cls := hown
  have hts : ∀ w ∈ wsL_law, w.before #[Value.ref b] s = true := fun w h => hts0 w (wsL_law_in w h)
  have hbA : ¬ (fun a : Nat => s.heap.size ≤ a) b := Nat.not_le.mpr hbl
  have hcm : 25 + k + 1 ≤ 1058 := by omega
  have hsm : 1025 + 6 * k + 6 ≤ 9271 := by omega
  have hc0 : 25 + k ≤ 1058 := by omega
  have hs0 : 1025 + 6 * k ≤ 9271 := by omega
  intro H locs hP hS ls hl
  unfold fL_law_J1698 at hf
  refine lv_aload_n hx hb dL_law_1698 rfl (lv_at hl 1 rfl) ?_
  refine lv_aload_n hx hb dL_law_1699 rfl (lv_at hl 0 rfl) ?_
  refine lv_iload hx hb dL_law_1700 (lv_at hl 5 rfl) ?_
  refine lv_iconst (v := (1 : Int32)) hx hb dL_law_1702 (by decide) ?_
  refine lv_iadd hx hb dL_law_1703 ?_
  obtain ⟨g_1, hf⟩ := gd_some hf
  refine va_sld hx hb hX hbl hbA hS (inb_in g_1) dL_law_1704 ?_
  refine lv_aload_n hx hb dL_law_1705 rfl (lv_at hl 0 rfl) ?_
  refine lv_iload hx hb dL_law_1706 (lv_at hl 5 rfl) ?_
  refine lv_iconst (v := (2 : Int32)) hx hb dL_law_1708 (by decide) ?_
  refine lv_iadd hx hb dL_law_1709 ?_
  obtain ⟨g_2, hf⟩ := gd_some hf
  refine va_sld hx hb hX hbl hbA hS (inb_in g_2) dL_law_1710 ?_
  refine lv_aload_n hx hb dL_law_1711 rfl (lv_at hl 3 rfl) ?_
  obtain ⟨⟨r1712, Ba1712, Oa1712⟩, hc, hf⟩ := bn_some hf
  try dsimp only at hf
  refine g_call (mc := 1) (ms := 6) (ws' := (w_0_1_2_3_4_5_6_7_8_9_10_11_12_13_14_15_16_17_18_19_20_21_22_23_24 q cI cJ cD Tn Ta Fn Fa Ba1712 Rn Ra Rb Rd Ua Wg Wz Ww Wr Mh Mn Mm Mt Mk Ms Me Mp Mw Ml My Oa1712 Od)) (st1 := [.int r1712]) hq [0, 1, 2, 3, 4, 5, 6, 7, 8, 9, 10, 11, 12, 13, 14, 15, 16, 17, 18, 19, 20, 21, 22, 23, 24] [0, 1, 2, 5, 6, 23] [.inl 0, .inl 1, .inl 2, .inr 3, .inr 4, .inl 3, .inl 4, .inr 7, .inr 8, .inr 9, .inr 10, .inr 11, .inr 12, .inr 13, .inr 14, .inr 15, .inr 16, .inr 17, .inr 18, .inr 19, .inr 20, .inr 21, .inr 22, .inl 5, .inr 24] (vx_runSW (As := [.ref (q 0), .int (xs ((x5 + (1 : Int32))).toNatClampNeg), .int (xs ((x5 + (2 : Int32))).toNatClampNeg), .ref (q 23)]) (rest := []) ⟨hx, hb, hml, hown, hts⟩ (kL_period l hlt D cI cJ cD sa q hq N Tn Ta Ba Oa (xs ((x5 + (1 : Int32))).toNatClampNeg) (xs ((x5 + (2 : Int32))).toNatClampNeg) r1712 Ba1712 Oa1712 hc) (vx_cwSW 4 hts gL_law_L_period rfl rfl rfl (by decide +kernel) ⟨(Nat.le_of_ble_eq_true rfl), (Nat.le_of_ble_eq_true rfl)⟩) ⟨gPx_blind, fun U hU hW => ⟨rfl, by rw [hU]; exact hP.sub (ws' := (w_0_1_2_5_6_23 q cI cJ cD Tn Ta Ba Oa)) [0, 1, 2, 5, 6, 23] rfl, gEv.warm hW hE, gXe.go hW hS (gMonoL hqA rfl) hXe hU⟩⟩ rfl rfl hl.1 rfl (lv_room (Nat.le_of_ble_eq_true rfl)) dL_law_1712 ⟨hcm, hsm⟩) hP hS (gSubL hqA rfl) rfl rfl rfl rfl rfl (fun H locs hP hS => ?_)
  refine lv_istore (lv' := [(6, .int r1712), (0, .ref b), (1, .ref (q 0)), (2, .ref (q 14)), (3, .ref (q 23)), (4, .ref (q 24)), (5, .int x5)]) hx hb dL_law_1715 hl (by decide) rfl (fun ls hl => ?_)
  refine lv_aload_n hx hb dL_law_1717 rfl (lv_at hl 3 rfl) ?_
  refine lv_aload_n hx hb dL_law_1718 rfl (lv_at hl 1 rfl) ?_
  refine lv_iload hx hb dL_law_1719 (lv_at hl 6 rfl) ?_
  refine lv_iconst (v := (1 : Int32)) hx hb dL_law_1721 (by decide) ?_
  refine lv_iadd hx hb dL_law_1722 ?_
  obtain ⟨g_3, hf⟩ := gd_some hf
  refine va_sld hx hb hX hbl hbA hS (inb_in g_3) dL_law_1723 ?_
  refine lv_aload_n hx hb dL_law_1724 rfl (lv_at hl 1 rfl) ?_
  refine lv_iload hx hb dL_law_1725 (lv_at hl 6 rfl) ?_
  refine lv_iconst (v := (2 : Int32)) hx hb dL_law_1727 (by decide) ?_
  refine lv_iadd hx hb dL_law_1728 ?_
  obtain ⟨g_4, hf⟩ := gd_some hf
  refine va_sld hx hb hX hbl hbA hS (inb_in g_4) dL_law_1729 ?_
  obtain ⟨⟨r1730, Mh1730⟩, hc, hf⟩ := bn_some hf
  try dsimp only at hf
  refine g_call0 (ws' := (w_0_1_2_3_4_5_6_7_8_9_10_11_12_13_14_15_16_17_18_19_20_21_22_23_24 q cI cJ cD Tn Ta Fn Fa Ba1712 Rn Ra Rb Rd Ua Wg Wz Ww Wr Mh1730 Mn Mm Mt Mk Ms Me Mp Mw Ml My Oa1712 Od)) (st1 := [.int r1730]) hq [0, 1, 2, 3, 4, 5, 6, 7, 8, 9, 10, 11, 12, 13, 14, 15, 16, 17, 18, 19, 20, 21, 22, 23, 24] [14, 15] [.inr 0, .inr 1, .inr 2, .inr 3, .inr 4, .inr 5, .inr 6, .inr 7, .inr 8, .inr 9, .inr 10, .inr 11, .inr 12, .inr 13, .inl 0, .inl 1, .inr 16, .inr 17, .inr 18, .inr 19, .inr 20, .inr 21, .inr 22, .inr 23, .inr 24] (va_runV (As := [.int (xs ((x5 + (1 : Int32))).toNatClampNeg), .int (xs ((x5 + (2 : Int32))).toNatClampNeg)]) (rest := []) ⟨hx, hb, hml, hown, hts⟩ (kX9_period l D cI cJ cD q hq N Mh Mn Mm Mt (xs ((x5 + (1 : Int32))).toNatClampNeg) (xs ((x5 + (2 : Int32))).toNatClampNeg) r1730 Mh1730 hc) (cwV 2 hts gL_law_X9_period rfl rfl rfl (by decide +kernel) ⟨(Nat.le_of_ble_eq_true rfl), (Nat.le_of_ble_eq_true rfl)⟩) ⟨gP_blind, va_recv hE.1 hP (ci := 7) (q0 := 14) rfl rfl, fun U hU hW => ⟨rfl, by rw [hU]; exact hP.sub (ws' := (w_14_15 q cI cJ cD Mh Mn Mm Mt)) [14, 15] rfl, gEv.warm hW hE⟩⟩ rfl rfl hl.1 rfl (lv_room (Nat.le_of_ble_eq_true rfl)) dL_law_1730 ⟨hcm, hsm⟩) hP hS (gSubL hqA rfl) rfl rfl rfl rfl rfl (fun H locs hP hS => ?_)
  refine lv_istore (lv' := [(7, .int r1730), (6, .int r1712), (0, .ref b), (1, .ref (q 0)), (2, .ref (q 14)), (3, .ref (q 23)), (4, .ref (q 24)), (5, .int x5)]) hx hb dL_law_1733 hl (by decide) rfl (fun ls hl => ?_)
  refine lv_aload_n hx hb dL_law_1735 rfl (lv_at hl 4 rfl) ?_
  obtain ⟨r1736, hc, hf⟩ := bn_some hf
  try dsimp only at hf
  refine g_call0 (ws' := (w_0_1_2_3_4_5_6_7_8_9_10_11_12_13_14_15_16_17_18_19_20_21_22_23_24 q cI cJ cD Tn Ta Fn Fa Ba1712 Rn Ra Rb Rd Ua Wg Wz Ww Wr Mh1730 Mn Mm Mt Mk Ms Me Mp Mw Ml My Oa1712 Od)) (st1 := [.int r1736]) hq [0, 1, 2, 3, 4, 5, 6, 7, 8, 9, 10, 11, 12, 13, 14, 15, 16, 17, 18, 19, 20, 21, 22, 23, 24] [14] [.inr 0, .inr 1, .inr 2, .inr 3, .inr 4, .inr 5, .inr 6, .inr 7, .inr 8, .inr 9, .inr 10, .inr 11, .inr 12, .inr 13, .inl 0, .inr 15, .inr 16, .inr 17, .inr 18, .inr 19, .inr 20, .inr 21, .inr 22, .inr 23, .inr 24] (va_runV (As := []) (rest := []) ⟨hx, hb, hml, hown, hts⟩ (kX9_thrown l D cI cJ cD q hq N Mh1730 Mn Mm r1736 hc) (cwV 0 hts gL_law_X9_thrown rfl rfl rfl (by decide +kernel) ⟨(Nat.le_of_ble_eq_true rfl), (Nat.le_of_ble_eq_true rfl)⟩) ⟨gP_blind, va_recv hE.1 hP (ci := 7) (q0 := 14) rfl rfl, fun U hU hW => ⟨rfl, by rw [hU]; exact hP.sub (ws' := (w_14 q cI cJ cD Mh1730 Mn Mm)) [14] rfl, gEv.warm hW hE⟩⟩ rfl rfl hl.1 rfl (lv_room (Nat.le_of_ble_eq_true rfl)) dL_law_1736 ⟨hcm, hsm⟩) hP hS (gSubL hqA rfl) rfl rfl rfl rfl rfl (fun H locs hP hS => ?_)
  refine lv_iload hx hb dL_law_1739 (lv_at hl 1 rfl) ?_
  refine lv_icmp_eq (tgt := 1746) hx hb dL_law_1741 (by decide) (fun c_5 => ?_) (fun c_5 => ?_)
  · have hf := (if_pos c_5).symm.trans hf
    refine lv_iload hx hb dL_law_1746 (lv_at hl 1 rfl) ?_
    refine lv_if_ne (tgt := 1763) hx hb dL_law_1748 (by decide) (fun c_6 => ?_) (fun c_6 => ?_)
    · have hf := (if_neg c_6).symm.trans hf
      exact law_J1763 hL C0 hlt D cI cJ cD sa q hq hqA hE hXe N k h5 k28 ih Tn Ta Fn Fa Ba1712 Rn Ra Rb Rd Ua Wg Wz Ww Wr Mh1730 Mn Mm Mt Mk Ms Me Mp Mw Ml My Oa1712 Od x5 hx5 hf _ _ hP hS _ (lv_sub hl [2, 3, 4, 5, 6, 7] rfl)
    · have hf := (if_pos c_6).symm.trans hf
      refine lv_aload_n hx hb dL_law_1751 rfl (lv_at hl 5 rfl) ?_
      refine lv_iconst (v := (0 : Int32)) hx hb dL_law_1752 (by decide) ?_
      obtain ⟨g_7, hf⟩ := gd_some hf
      refine va_lald hx hb hE.1 hP 23 1 rfl rfl (inb_in g_7) dL_law_1753 ?_
      refine lv_iload hx hb dL_law_1754 (lv_at hl 0 rfl) ?_
      refine lv_i2l (v := (r1730).toInt64) hx hb dL_law_1756 rfl ?_
      refine W.lcmp hx hb dL_law_1757 ?_
      refine lv_if_eq (tgt := 1763) hx hb dL_law_1758 (by decide) (fun c_8 => ?_) (fun c_8 => ?_)
      · have hf := (if_pos c_8).symm.trans hf
        exact law_J1763 hL C0 hlt D cI cJ cD sa q hq hqA hE hXe N k h5 k28 ih Tn Ta Fn Fa Ba1712 Rn Ra Rb Rd Ua Wg Wz Ww Wr Mh1730 Mn Mm Mt Mk Ms Me Mp Mw Ml My Oa1712 Od x5 hx5 hf _ _ hP hS _ (lv_sub hl [2, 3, 4, 5, 6, 7] rfl)
      · have hf := (if_neg c_8).symm.trans hf
        exact law_J1761 hL C0 hlt D cI cJ cD sa q hq hqA hE hXe N k (by omega) Tn Ta Fn Fa Ba1712 Rn Ra Rb Rd Ua Wg Wz Ww Wr Mh1730 Mn Mm Mt Mk Ms Me Mp Mw Ml My Oa1712 Od hf _ _ hP hS _ (lv_sub hl [] rfl)
  · have hf := (if_neg c_5).symm.trans hf
    exact law_J1744 hL C0 hlt D cI cJ cD sa q hq hqA hE hXe N k (by omega) Tn Ta Fn Fa Ba1712 Rn Ra Rb Rd Ua Wg Wz Ww Wr Mh1730 Mn Mm Mt Mk Ms Me Mp Mw Ml My Oa1712 Od hf _ _ hP hS _ (lv_sub hl [] rfl)
set_option maxHeartbeats 4000000 in
set_option maxRecDepth 100000 in
theorem law_J1831 {p : Program} {l : Launch} {e : Env} {s : State} {m : MethodId} {below : List Frame} {meth : Method} {c : Code} {b L : Nat} {xs : Nat → Int32} (hL : L ≤ 2560) (C0 : lw_At p s m meth c b L xs) (hlt : l.stackTraces = false) (D : va_G) (cI cJ cD : ClassId) (sa : Nat → Nat) (q : Nat → Nat) (hq : gInj q) (hqA : ∀ k, k < 25 → s.heap.size ≤ q k) (hE : gEv D cI cJ cD s) (hXe : gXe sa (fun a => s.heap.size ≤ a) s s.heap) (N : Nat) (k : Nat) (h5 : 5 * k + 5 ≤ L) (k28 : Int32 → (Nat → Int32) → Int32 → (Nat → Int32) → (Nat → Int32) → Int32 → (Nat → Int32) → (Nat → Int32) → (Nat → Int32) → (Nat → Int32) → Int32 → Int32 → Int32 → Int32 → Int32 → Int32 → Int32 → (Nat → Int32) → (Nat → Int32) → (Nat → Int32) → (Nat → Int32) → (Nat → Int32) → (Nat → Int32) → (Nat → Int32) → (Nat → Int64) → (Nat → Int64) → (Nat → UInt64) → Int32 → Option Int32) (ih : lawIH p l e s m below meth c b D cI cJ cD q k k28) (Tn : Int32) (Ta : (Nat → Int32)) (Fn : Int32) (Fa : (Nat → Int32)) (Ba : (Nat → Int32)) (Rn : Int32) (Ra : (Nat → Int32)) (Rb : (Nat → Int32)) (Rd : (Nat → Int32)) (Ua : (Nat → Int32)) (Wg : Int32) (Wz : Int32) (Ww : Int32) (Wr : Int32) (Mh : Int32) (Mn : Int32) (Mm : Int32) (Mt : (Nat → Int32)) (Mk : (Nat → Int32)) (Ms : (Nat → Int32)) (Me : (Nat → Int32)) (Mp : (Nat → Int32)) (Mw : (Nat → Int32)) (Ml : (Nat → Int32)) (My : (Nat → Int64)) (Oa : (Nat → Int64)) (Od : (Nat → UInt64)) (x5 : Int32) (hx5 : x5 = nI (5 * k)) (hf : fL_law_J1831 N L xs k28 Tn Ta Fn Fa Ba Rn Ra Rb Rd Ua Wg Wz Ww Wr Mh Mn Mm Mt Mk Ms Me Mp Mw Ml My Oa Od x5 = some 1) : ∀ (H : Heap) (locs : List Loc), va_P D vwCl (w_0_1_2_3_4_5_6_7_8_9_10_11_12_13_14_15_16_17_18_19_20_21_22_23_24 q cI cJ cD Tn Ta Fn Fa Ba Rn Ra Rb Rd Ua Wg Wz Ww Wr Mh Mn Mm Mt Mk Ms Me Mp Mw Ml My Oa Od) H → va_S (fun a : Nat => s.heap.size ≤ a) s.heap H locs → ∀ ls : Array Slot, lv_has ls 10 [(0, .ref b), (1, .ref (q 0)), (2, .ref (q 14)), (3, .ref (q 23)), (4, .ref (q 24)), (5, .int x5)] → W p l e room_1 s m #[Value.ref b] below meth c H locs (25 + k + 1) (1025 + 6 * k + 6) (lw_Z below #[Value.ref b] s) (F0 m 1831 ls []) := by
  obtain ⟨hx, hb, hr, hml, hown, hts0, hX, hbl, hlocks, hgv⟩ := id C0
  have hown : s.vm.findClass RL = some m.cls := hown
  have hts : ∀ w ∈ wsL_law, w.before #[Value.ref b] s = true := fun w h => hts0 w (wsL_law_in w h)
  have hbA : ¬ (fun a : Nat => s.heap.size ≤ a) b := Nat.not_le.mpr hbl
  have hcm : 25 + k + 1 ≤ 1058 := by omega
  have hsm : 1025 + 6 * k + 6 ≤ 9271 := by omega
  have hc0 : 25 + k ≤ 1058 := by omega
  have hs0 : 1025 + 6 * k ≤ 9271 := by omega
  intro H locs hP hS ls hl
  unfold fL_law_J1831 at hf
  refine lv_goto (tgt := 2831) hx hb dL_law_1831 (by decide) ?_
  exact law_J2831 hL C0 hlt D cI cJ cD sa q hq hqA hE hXe N k h5 k28 ih Tn Ta Fn Fa Ba Rn Ra Rb Rd Ua Wg Wz Ww Wr Mh Mn Mm Mt Mk Ms Me Mp Mw Ml My Oa Od x5 hx5 hf _ _ hP hS _ (lv_sub hl [0, 1, 2, 3, 4, 5] rfl)
set_option maxHeartbeats 4000000 in
set_option maxRecDepth 100000 in
theorem law_J1766 {p : Program} {l : Launch} {e : Env} {s : State} {m : MethodId} {below : List Frame} {meth : Method} {c : Code} {b L : Nat} {xs : Nat → Int32} (hL : L ≤ 2560) (C0 : lw_At p s m meth c b L xs) (hlt : l.stackTraces = false) (D : va_G) (cI cJ cD : ClassId) (sa : Nat → Nat) (q : Nat → Nat) (hq : gInj q) (hqA : ∀ k, k < 25 → s.heap.size ≤ q k) (hE : gEv D cI cJ cD s) (hXe : gXe sa (fun a => s.heap.size ≤ a) s s.heap) (N : Nat) (k : Nat) (h5 : 5 * k + 5 ≤ L) (k28 : Int32 → (Nat → Int32) → Int32 → (Nat → Int32) → (Nat → Int32) → Int32 → (Nat → Int32) → (Nat → Int32) → (Nat → Int32) → (Nat → Int32) → Int32 → Int32 → Int32 → Int32 → Int32 → Int32 → Int32 → (Nat → Int32) → (Nat → Int32) → (Nat → Int32) → (Nat → Int32) → (Nat → Int32) → (Nat → Int32) → (Nat → Int32) → (Nat → Int64) → (Nat → Int64) → (Nat → UInt64) → Int32 → Option Int32) (ih : lawIH p l e s m below meth c b D cI cJ cD q k k28) (Tn : Int32) (Ta : (Nat → Int32)) (Fn : Int32) (Fa : (Nat → Int32)) (Ba : (Nat → Int32)) (Rn : Int32) (Ra : (Nat → Int32)) (Rb : (Nat → Int32)) (Rd : (Nat → Int32)) (Ua : (Nat → Int32)) (Wg : Int32) (Wz : Int32) (Ww : Int32) (Wr : Int32) (Mh : Int32) (Mn : Int32) (Mm : Int32) (Mt : (Nat → Int32)) (Mk : (Nat → Int32)) (Ms : (Nat → Int32)) (Me : (Nat → Int32)) (Mp : (Nat → Int32)) (Mw : (Nat → Int32)) (Ml : (Nat → Int32)) (My : (Nat → Int64)) (Oa : (Nat → Int64)) (Od : (Nat → UInt64)) (x5 : Int32) (hx5 : x5 = nI (5 * k)) (hf : fL_law_J1766 N L xs k28 Tn Ta Fn Fa Ba Rn Ra Rb Rd Ua Wg Wz Ww Wr Mh Mn Mm Mt Mk Ms Me Mp Mw Ml My Oa Od x5 = some 1) : ∀ (H : Heap) (locs : List Loc), va_P D vwCl (w_0_1_2_3_4_5_6_7_8_9_10_11_12_13_14_15_16_17_18_19_20_21_22_23_24 q cI cJ cD Tn Ta Fn Fa Ba Rn Ra Rb Rd Ua Wg Wz Ww Wr Mh Mn Mm Mt Mk Ms Me Mp Mw Ml My Oa Od) H → va_S (fun a : Nat => s.heap.size ≤ a) s.heap H locs → ∀ ls : Array Slot, lv_has ls 10 [(0, .ref b), (1, .ref (q 0)), (2, .ref (q 14)), (3, .ref (q 23)), (4, .ref (q 24)), (5, .int x5)] → W p l e room_1 s m #[Value.ref b] below meth c H locs (25 + k) (1025 + 6 * k) (lw_Z below #[Value.ref b] s) (F0 m 1766 ls []) := by
  obtain ⟨hx, hb, hr, hml, hown, hts0, hX, hbl, hlocks, hgv⟩ := id C0
  have hown : s.vm.findClass RL = some m.cls := hown
  have hts : ∀ w ∈ wsL_law, w.before #[Value.ref b] s = true := fun w h => hts0 w (wsL_law_in w h)
  have hbA : ¬ (fun a : Nat => s.heap.size ≤ a) b := Nat.not_le.mpr hbl
  have hcm : 25 + k + 1 ≤ 1058 := by omega
  have hsm : 1025 + 6 * k + 6 ≤ 9271 := by omega
  have hc0 : 25 + k ≤ 1058 := by omega
  have hs0 : 1025 + 6 * k ≤ 9271 := by omega
  intro H locs hP hS ls hl
  unfold fL_law_J1766 at hf
  refine lv_aload_n hx hb dL_law_1766 rfl (lv_at hl 1 rfl) ?_
  refine lv_aload_n hx hb dL_law_1767 rfl (lv_at hl 0 rfl) ?_
  refine lv_iload hx hb dL_law_1768 (lv_at hl 5 rfl) ?_
  refine lv_iconst (v := (1 : Int32)) hx hb dL_law_1770 (by decide) ?_
  refine lv_iadd hx hb dL_law_1771 ?_
  obtain ⟨g_1, hf⟩ := gd_some hf
  refine va_sld hx hb hX hbl hbA hS (inb_in g_1) dL_law_1772 ?_
  refine lv_aload_n hx hb dL_law_1773 rfl (lv_at hl 0 rfl) ?_
  refine lv_iload hx hb dL_law_1774 (lv_at hl 5 rfl) ?_
  refine lv_iconst (v := (2 : Int32)) hx hb dL_law_1776 (by decide) ?_
  refine lv_iadd hx hb dL_law_1777 ?_
  obtain ⟨g_2, hf⟩ := gd_some hf
  refine va_sld hx hb hX hbl hbA hS (inb_in g_2) dL_law_1778 ?_
  refine lv_aload_n hx hb dL_law_1779 rfl (lv_at hl 3 rfl) ?_
  obtain ⟨⟨r1780, Oa1780⟩, hc, hf⟩ := bn_some hf
  try dsimp only at hf
  refine g_call (mc := 1) (ms := 6) (ws' := (w_0_1_2_3_4_5_6_7_8_9_10_11_12_13_14_15_16_17_18_19_20_21_22_23_24 q cI cJ cD Tn Ta Fn Fa Ba Rn Ra Rb Rd Ua Wg Wz Ww Wr Mh Mn Mm Mt Mk Ms Me Mp Mw Ml My Oa1780 Od)) (st1 := [.int r1780]) hq [0, 1, 2, 3, 4, 5, 6, 7, 8, 9, 10, 11, 12, 13, 14, 15, 16, 17, 18, 19, 20, 21, 22, 23, 24] [0, 1, 2, 23] [.inl 0, .inl 1, .inl 2, .inr 3, .inr 4, .inr 5, .inr 6, .inr 7, .inr 8, .inr 9, .inr 10, .inr 11, .inr 12, .inr 13, .inr 14, .inr 15, .inr 16, .inr 17, .inr 18, .inr 19, .inr 20, .inr 21, .inr 22, .inl 3, .inr 24] (vx_runSW (As := [.ref (q 0), .int (xs ((x5 + (1 : Int32))).toNatClampNeg), .int (xs ((x5 + (2 : Int32))).toNatClampNeg), .ref (q 23)]) (rest := []) ⟨hx, hb, hml, hown, hts⟩ (kL_periodByTrying l hlt D cI cJ cD sa q hq N Tn Ta Oa (xs ((x5 + (1 : Int32))).toNatClampNeg) (xs ((x5 + (2 : Int32))).toNatClampNeg) r1780 Oa1780 hc) (vx_cwSW 4 hts gL_law_L_periodByTrying rfl rfl rfl (by decide +kernel) ⟨(Nat.le_of_ble_eq_true rfl), (Nat.le_of_ble_eq_true rfl)⟩) ⟨gPx_blind, fun U hU hW => ⟨rfl, by rw [hU]; exact hP.sub (ws' := (w_0_1_2_23 q cI cJ cD Tn Ta Oa)) [0, 1, 2, 23] rfl, gEv.warm hW hE, gXe.go hW hS (gMonoL hqA rfl) hXe hU⟩⟩ rfl rfl hl.1 rfl (lv_room (Nat.le_of_ble_eq_true rfl)) dL_law_1780 ⟨hcm, hsm⟩) hP hS (gSubL hqA rfl) rfl rfl rfl rfl rfl (fun H locs hP hS => ?_)
  refine lv_istore (lv' := [(6, .int r1780), (0, .ref b), (1, .ref (q 0)), (2, .ref (q 14)), (3, .ref (q 23)), (4, .ref (q 24)), (5, .int x5)]) hx hb dL_law_1783 hl (by decide) rfl (fun ls hl => ?_)
  refine lv_aload_n hx hb dL_law_1785 rfl (lv_at hl 3 rfl) ?_
  refine lv_aload_n hx hb dL_law_1786 rfl (lv_at hl 1 rfl) ?_
  refine lv_iload hx hb dL_law_1787 (lv_at hl 6 rfl) ?_
  refine lv_iconst (v := (1 : Int32)) hx hb dL_law_1789 (by decide) ?_
  refine lv_iadd hx hb dL_law_1790 ?_
  obtain ⟨g_3, hf⟩ := gd_some hf
  refine va_sld hx hb hX hbl hbA hS (inb_in g_3) dL_law_1791 ?_
  refine lv_aload_n hx hb dL_law_1792 rfl (lv_at hl 1 rfl) ?_
  refine lv_iload hx hb dL_law_1793 (lv_at hl 6 rfl) ?_
  refine lv_iconst (v := (2 : Int32)) hx hb dL_law_1795 (by decide) ?_
  refine lv_iadd hx hb dL_law_1796 ?_
  obtain ⟨g_4, hf⟩ := gd_some hf
  refine va_sld hx hb hX hbl hbA hS (inb_in g_4) dL_law_1797 ?_
  obtain ⟨⟨r1798, Mh1798⟩, hc, hf⟩ := bn_some hf
  try dsimp only at hf
  refine g_call0 (ws' := (w_0_1_2_3_4_5_6_7_8_9_10_11_12_13_14_15_16_17_18_19_20_21_22_23_24 q cI cJ cD Tn Ta Fn Fa Ba Rn Ra Rb Rd Ua Wg Wz Ww Wr Mh1798 Mn Mm Mt Mk Ms Me Mp Mw Ml My Oa1780 Od)) (st1 := [.int r1798]) hq [0, 1, 2, 3, 4, 5, 6, 7, 8, 9, 10, 11, 12, 13, 14, 15, 16, 17, 18, 19, 20, 21, 22, 23, 24] [14, 15] [.inr 0, .inr 1, .inr 2, .inr 3, .inr 4, .inr 5, .inr 6, .inr 7, .inr 8, .inr 9, .inr 10, .inr 11, .inr 12, .inr 13, .inl 0, .inl 1, .inr 16, .inr 17, .inr 18, .inr 19, .inr 20, .inr 21, .inr 22, .inr 23, .inr 24] (va_runV (As := [.int (xs ((x5 + (1 : Int32))).toNatClampNeg), .int (xs ((x5 + (2 : Int32))).toNatClampNeg)]) (rest := []) ⟨hx, hb, hml, hown, hts⟩ (kX9_periodByTrying l D cI cJ cD q hq N Mh Mn Mm Mt (xs ((x5 + (1 : Int32))).toNatClampNeg) (xs ((x5 + (2 : Int32))).toNatClampNeg) r1798 Mh1798 hc) (cwV 2 hts gL_law_X9_periodByTrying rfl rfl rfl (by decide +kernel) ⟨(Nat.le_of_ble_eq_true rfl), (Nat.le_of_ble_eq_true rfl)⟩) ⟨gP_blind, va_recv hE.1 hP (ci := 7) (q0 := 14) rfl rfl, fun U hU hW => ⟨rfl, by rw [hU]; exact hP.sub (ws' := (w_14_15 q cI cJ cD Mh Mn Mm Mt)) [14, 15] rfl, gEv.warm hW hE⟩⟩ rfl rfl hl.1 rfl (lv_room (Nat.le_of_ble_eq_true rfl)) dL_law_1798 ⟨hcm, hsm⟩) hP hS (gSubL hqA rfl) rfl rfl rfl rfl rfl (fun H locs hP hS => ?_)
  refine lv_istore (lv' := [(7, .int r1798), (6, .int r1780), (0, .ref b), (1, .ref (q 0)), (2, .ref (q 14)), (3, .ref (q 23)), (4, .ref (q 24)), (5, .int x5)]) hx hb dL_law_1801 hl (by decide) rfl (fun ls hl => ?_)
  refine lv_aload_n hx hb dL_law_1803 rfl (lv_at hl 4 rfl) ?_
  obtain ⟨r1804, hc, hf⟩ := bn_some hf
  try dsimp only at hf
  refine g_call0 (ws' := (w_0_1_2_3_4_5_6_7_8_9_10_11_12_13_14_15_16_17_18_19_20_21_22_23_24 q cI cJ cD Tn Ta Fn Fa Ba Rn Ra Rb Rd Ua Wg Wz Ww Wr Mh1798 Mn Mm Mt Mk Ms Me Mp Mw Ml My Oa1780 Od)) (st1 := [.int r1804]) hq [0, 1, 2, 3, 4, 5, 6, 7, 8, 9, 10, 11, 12, 13, 14, 15, 16, 17, 18, 19, 20, 21, 22, 23, 24] [14] [.inr 0, .inr 1, .inr 2, .inr 3, .inr 4, .inr 5, .inr 6, .inr 7, .inr 8, .inr 9, .inr 10, .inr 11, .inr 12, .inr 13, .inl 0, .inr 15, .inr 16, .inr 17, .inr 18, .inr 19, .inr 20, .inr 21, .inr 22, .inr 23, .inr 24] (va_runV (As := []) (rest := []) ⟨hx, hb, hml, hown, hts⟩ (kX9_thrown l D cI cJ cD q hq N Mh1798 Mn Mm r1804 hc) (cwV 0 hts gL_law_X9_thrown rfl rfl rfl (by decide +kernel) ⟨(Nat.le_of_ble_eq_true rfl), (Nat.le_of_ble_eq_true rfl)⟩) ⟨gP_blind, va_recv hE.1 hP (ci := 7) (q0 := 14) rfl rfl, fun U hU hW => ⟨rfl, by rw [hU]; exact hP.sub (ws' := (w_14 q cI cJ cD Mh1798 Mn Mm)) [14] rfl, gEv.warm hW hE⟩⟩ rfl rfl hl.1 rfl (lv_room (Nat.le_of_ble_eq_true rfl)) dL_law_1804 ⟨hcm, hsm⟩) hP hS (gSubL hqA rfl) rfl rfl rfl rfl rfl (fun H locs hP hS => ?_)
  refine lv_iload hx hb dL_law_1807 (lv_at hl 1 rfl) ?_
  refine lv_icmp_eq (tgt := 1814) hx hb dL_law_1809 (by decide) (fun c_5 => ?_) (fun c_5 => ?_)
  · have hf := (if_pos c_5).symm.trans hf
    refine lv_iload hx hb dL_law_1814 (lv_at hl 1 rfl) ?_
    refine lv_if_ne (tgt := 1831) hx hb dL_law_1816 (by decide) (fun c_6 => ?_) (fun c_6 => ?_)
    · have hf := (if_neg c_6).symm.trans hf
      exact law_J1831 hL C0 hlt D cI cJ cD sa q hq hqA hE hXe N k h5 k28 ih Tn Ta Fn Fa Ba Rn Ra Rb Rd Ua Wg Wz Ww Wr Mh1798 Mn Mm Mt Mk Ms Me Mp Mw Ml My Oa1780 Od x5 hx5 hf _ _ hP hS _ (lv_sub hl [2, 3, 4, 5, 6, 7] rfl)
    · have hf := (if_pos c_6).symm.trans hf
      refine lv_aload_n hx hb dL_law_1819 rfl (lv_at hl 5 rfl) ?_
      refine lv_iconst (v := (0 : Int32)) hx hb dL_law_1820 (by decide) ?_
      obtain ⟨g_7, hf⟩ := gd_some hf
      refine va_lald hx hb hE.1 hP 23 1 rfl rfl (inb_in g_7) dL_law_1821 ?_
      refine lv_iload hx hb dL_law_1822 (lv_at hl 0 rfl) ?_
      refine lv_i2l (v := (r1798).toInt64) hx hb dL_law_1824 rfl ?_
      refine W.lcmp hx hb dL_law_1825 ?_
      refine lv_if_eq (tgt := 1831) hx hb dL_law_1826 (by decide) (fun c_8 => ?_) (fun c_8 => ?_)
      · have hf := (if_pos c_8).symm.trans hf
        exact law_J1831 hL C0 hlt D cI cJ cD sa q hq hqA hE hXe N k h5 k28 ih Tn Ta Fn Fa Ba Rn Ra Rb Rd Ua Wg Wz Ww Wr Mh1798 Mn Mm Mt Mk Ms Me Mp Mw Ml My Oa1780 Od x5 hx5 hf _ _ hP hS _ (lv_sub hl [2, 3, 4, 5, 6, 7] rfl)
      · have hf := (if_neg c_8).symm.trans hf
        exact law_J1829 hL C0 hlt D cI cJ cD sa q hq hqA hE hXe N k (by omega) Tn Ta Fn Fa Ba Rn Ra Rb Rd Ua Wg Wz Ww Wr Mh1798 Mn Mm Mt Mk Ms Me Mp Mw Ml My Oa1780 Od hf _ _ hP hS _ (lv_sub hl [] rfl)
  · have hf := (if_neg c_5).symm.trans hf
    exact law_J1812 hL C0 hlt D cI cJ cD sa q hq hqA hE hXe N k (by omega) Tn Ta Fn Fa Ba Rn Ra Rb Rd Ua Wg Wz Ww Wr Mh1798 Mn Mm Mt Mk Ms Me Mp Mw Ml My Oa1780 Od hf _ _ hP hS _ (lv_sub hl [] rfl)
set_option maxHeartbeats 4000000 in
set_option maxRecDepth 100000 in
theorem law_J1918 {p : Program} {l : Launch} {e : Env} {s : State} {m : MethodId} {below : List Frame} {meth : Method} {c : Code} {b L : Nat} {xs : Nat → Int32} (hL : L ≤ 2560) (C0 : lw_At p s m meth c b L xs) (hlt : l.stackTraces = false) (D : va_G) (cI cJ cD : ClassId) (sa : Nat → Nat) (q : Nat → Nat) (hq : gInj q) (hqA : ∀ k, k < 25 → s.heap.size ≤ q k) (hE : gEv D cI cJ cD s) (hXe : gXe sa (fun a => s.heap.size ≤ a) s s.heap) (N : Nat) (k : Nat) (h5 : 5 * k + 5 ≤ L) (k28 : Int32 → (Nat → Int32) → Int32 → (Nat → Int32) → (Nat → Int32) → Int32 → (Nat → Int32) → (Nat → Int32) → (Nat → Int32) → (Nat → Int32) → Int32 → Int32 → Int32 → Int32 → Int32 → Int32 → Int32 → (Nat → Int32) → (Nat → Int32) → (Nat → Int32) → (Nat → Int32) → (Nat → Int32) → (Nat → Int32) → (Nat → Int32) → (Nat → Int64) → (Nat → Int64) → (Nat → UInt64) → Int32 → Option Int32) (ih : lawIH p l e s m below meth c b D cI cJ cD q k k28) (Tn : Int32) (Ta : (Nat → Int32)) (Fn : Int32) (Fa : (Nat → Int32)) (Ba : (Nat → Int32)) (Rn : Int32) (Ra : (Nat → Int32)) (Rb : (Nat → Int32)) (Rd : (Nat → Int32)) (Ua : (Nat → Int32)) (Wg : Int32) (Wz : Int32) (Ww : Int32) (Wr : Int32) (Mh : Int32) (Mn : Int32) (Mm : Int32) (Mt : (Nat → Int32)) (Mk : (Nat → Int32)) (Ms : (Nat → Int32)) (Me : (Nat → Int32)) (Mp : (Nat → Int32)) (Mw : (Nat → Int32)) (Ml : (Nat → Int32)) (My : (Nat → Int64)) (Oa : (Nat → Int64)) (Od : (Nat → UInt64)) (x5 : Int32) (hx5 : x5 = nI (5 * k)) (hf : fL_law_J1918 N L xs k28 Tn Ta Fn Fa Ba Rn Ra Rb Rd Ua Wg Wz Ww Wr Mh Mn Mm Mt Mk Ms Me Mp Mw Ml My Oa Od x5 = some 1) : ∀ (H : Heap) (locs : List Loc), va_P D vwCl (w_0_1_2_3_4_5_6_7_8_9_10_11_12_13_14_15_16_17_18_19_20_21_22_23_24 q cI cJ cD Tn Ta Fn Fa Ba Rn Ra Rb Rd Ua Wg Wz Ww Wr Mh Mn Mm Mt Mk Ms Me Mp Mw Ml My Oa Od) H → va_S (fun a : Nat => s.heap.size ≤ a) s.heap H locs → ∀ ls : Array Slot, lv_has ls 10 [(0, .ref b), (1, .ref (q 0)), (2, .ref (q 14)), (3, .ref (q 23)), (4, .ref (q 24)), (5, .int x5)] → W p l e room_1 s m #[Value.ref b] below meth c H locs (25 + k + 1) (1025 + 6 * k + 6) (lw_Z below #[Value.ref b] s) (F0 m 1918 ls []) := by
  obtain ⟨hx, hb, hr, hml, hown, hts0, hX, hbl, hlocks, hgv⟩ := id C0
  have hown : s.vm.findClass RL = some m.cls := hown
  have hts : ∀ w ∈ wsL_law, w.before #[Value.ref b] s = true := fun w h => hts0 w (wsL_law_in w h)
  have hbA : ¬ (fun a : Nat => s.heap.size ≤ a) b := Nat.not_le.mpr hbl
  have hcm : 25 + k + 1 ≤ 1058 := by omega
  have hsm : 1025 + 6 * k + 6 ≤ 9271 := by omega
  have hc0 : 25 + k ≤ 1058 := by omega
  have hs0 : 1025 + 6 * k ≤ 9271 := by omega
  intro H locs hP hS ls hl
  unfold fL_law_J1918 at hf
  refine lv_goto (tgt := 2831) hx hb dL_law_1918 (by decide) ?_
  exact law_J2831 hL C0 hlt D cI cJ cD sa q hq hqA hE hXe N k h5 k28 ih Tn Ta Fn Fa Ba Rn Ra Rb Rd Ua Wg Wz Ww Wr Mh Mn Mm Mt Mk Ms Me Mp Mw Ml My Oa Od x5 hx5 hf _ _ hP hS _ (lv_sub hl [0, 1, 2, 3, 4, 5] rfl)
set_option maxHeartbeats 4000000 in
set_option maxRecDepth 100000 in
theorem law_J1912 {p : Program} {l : Launch} {e : Env} {s : State} {m : MethodId} {below : List Frame} {meth : Method} {c : Code} {b L : Nat} {xs : Nat → Int32} (hL : L ≤ 2560) (C0 : lw_At p s m meth c b L xs) (hlt : l.stackTraces = false) (D : va_G) (cI cJ cD : ClassId) (sa : Nat → Nat) (q : Nat → Nat) (hq : gInj q) (hqA : ∀ k, k < 25 → s.heap.size ≤ q k) (hE : gEv D cI cJ cD s) (hXe : gXe sa (fun a => s.heap.size ≤ a) s s.heap) (N : Nat) (k : Nat) (h5 : 5 * k + 5 ≤ L) (k28 : Int32 → (Nat → Int32) → Int32 → (Nat → Int32) → (Nat → Int32) → Int32 → (Nat → Int32) → (Nat → Int32) → (Nat → Int32) → (Nat → Int32) → Int32 → Int32 → Int32 → Int32 → Int32 → Int32 → Int32 → (Nat → Int32) → (Nat → Int32) → (Nat → Int32) → (Nat → Int32) → (Nat → Int32) → (Nat → Int32) → (Nat → Int32) → (Nat → Int64) → (Nat → Int64) → (Nat → UInt64) → Int32 → Option Int32) (ih : lawIH p l e s m below meth c b D cI cJ cD q k k28) (Tn : Int32) (Ta : (Nat → Int32)) (Fn : Int32) (Fa : (Nat → Int32)) (Ba : (Nat → Int32)) (Rn : Int32) (Ra : (Nat → Int32)) (Rb : (Nat → Int32)) (Rd : (Nat → Int32)) (Ua : (Nat → Int32)) (Wg : Int32) (Wz : Int32) (Ww : Int32) (Wr : Int32) (Mh : Int32) (Mn : Int32) (Mm : Int32) (Mt : (Nat → Int32)) (Mk : (Nat → Int32)) (Ms : (Nat → Int32)) (Me : (Nat → Int32)) (Mp : (Nat → Int32)) (Mw : (Nat → Int32)) (Ml : (Nat → Int32)) (My : (Nat → Int64)) (Oa : (Nat → Int64)) (Od : (Nat → UInt64)) (x5 : Int32) (y0 : Int64) (y1 : Int64) (hx5 : x5 = nI (5 * k)) (hf : fL_law_J1912 N L xs k28 Tn Ta Fn Fa Ba Rn Ra Rb Rd Ua Wg Wz Ww Wr Mh Mn Mm Mt Mk Ms Me Mp Mw Ml My Oa Od x5 y0 y1 = some 1) : ∀ (H : Heap) (locs : List Loc), va_P D vwCl (w_0_1_2_3_4_5_6_7_8_9_10_11_12_13_14_15_16_17_18_19_20_21_22_23_24 q cI cJ cD Tn Ta Fn Fa Ba Rn Ra Rb Rd Ua Wg Wz Ww Wr Mh Mn Mm Mt Mk Ms Me Mp Mw Ml My Oa Od) H → va_S (fun a : Nat => s.heap.size ≤ a) s.heap H locs → ∀ ls : Array Slot, lv_has ls 10 [(0, .ref b), (1, .ref (q 0)), (2, .ref (q 14)), (3, .ref (q 23)), (4, .ref (q 24)), (5, .int x5)] → W p l e room_1 s m #[Value.ref b] below meth c H locs (25 + k + 1) (1025 + 6 * k + 6) (lw_Z below #[Value.ref b] s) (F0 m 1912 ls [.long y1, .long y0]) := by
  obtain ⟨hx, hb, hr, hml, hown, hts0, hX, hbl, hlocks, hgv⟩ := id C0
  have hown : s.vm.findClass RL = some m.cls := hown
  have hts : ∀ w ∈ wsL_law, w.before #[Value.ref b] s = true := fun w h => hts0 w (wsL_law_in w h)
  have hbA : ¬ (fun a : Nat => s.heap.size ≤ a) b := Nat.not_le.mpr hbl
  have hcm : 25 + k + 1 ≤ 1058 := by omega
  have hsm : 1025 + 6 * k + 6 ≤ 9271 := by omega
  have hc0 : 25 + k ≤ 1058 := by omega
  have hs0 : 1025 + 6 * k ≤ 9271 := by omega
  intro H locs hP hS ls hl
  unfold fL_law_J1912 at hf
  refine W.lcmp hx hb dL_law_1912 ?_
  refine lv_if_eq (tgt := 1918) hx hb dL_law_1913 (by decide) (fun c_1 => ?_) (fun c_1 => ?_)
  · have hf := (if_pos c_1).symm.trans hf
    exact law_J1918 hL C0 hlt D cI cJ cD sa q hq hqA hE hXe N k h5 k28 ih Tn Ta Fn Fa Ba Rn Ra Rb Rd Ua Wg Wz Ww Wr Mh Mn Mm Mt Mk Ms Me Mp Mw Ml My Oa Od x5 hx5 hf _ _ hP hS _ (lv_sub hl [0, 1, 2, 3, 4, 5] rfl)
  · have hf := (if_neg c_1).symm.trans hf
    exact law_J1916 hL C0 hlt D cI cJ cD sa q hq hqA hE hXe N k (by omega) Tn Ta Fn Fa Ba Rn Ra Rb Rd Ua Wg Wz Ww Wr Mh Mn Mm Mt Mk Ms Me Mp Mw Ml My Oa Od hf _ _ hP hS _ (lv_sub hl [] rfl)
