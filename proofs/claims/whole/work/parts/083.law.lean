set_option maxHeartbeats 4000000 in
set_option maxRecDepth 100000 in
theorem law_J1834 {p : Program} {l : Launch} {e : Env} {s : State} {m : MethodId} {below : List Frame} {meth : Method} {c : Code} {b L : Nat} {xs : Nat → Int32} (hL : L ≤ 2560) (C0 : lw_At p s m meth c b L xs) (hlt : l.stackTraces = false) (D : va_G) (cI cJ cD : ClassId) (sa : Nat → Nat) (q : Nat → Nat) (hq : gInj q) (hqA : ∀ k, k < 25 → s.heap.size ≤ q k) (hE : gEv D cI cJ cD s) (hXe : gXe sa (fun a => s.heap.size ≤ a) s s.heap) (N : Nat) (k : Nat) (h5 : 5 * k + 5 ≤ L) (k28 : Int32 → (Nat → Int32) → Int32 → (Nat → Int32) → (Nat → Int32) → Int32 → (Nat → Int32) → (Nat → Int32) → (Nat → Int32) → (Nat → Int32) → Int32 → Int32 → Int32 → Int32 → Int32 → Int32 → Int32 → (Nat → Int32) → (Nat → Int32) → (Nat → Int32) → (Nat → Int32) → (Nat → Int32) → (Nat → Int32) → (Nat → Int32) → (Nat → Int64) → (Nat → Int64) → (Nat → UInt64) → Int32 → Option Int32) (ih : lawIH p l e s m below meth c b D cI cJ cD q k k28) (Tn : Int32) (Ta : (Nat → Int32)) (Fn : Int32) (Fa : (Nat → Int32)) (Ba : (Nat → Int32)) (Rn : Int32) (Ra : (Nat → Int32)) (Rb : (Nat → Int32)) (Rd : (Nat → Int32)) (Ua : (Nat → Int32)) (Wg : Int32) (Wz : Int32) (Ww : Int32) (Wr : Int32) (Mh : Int32) (Mn : Int32) (Mm : Int32) (Mt : (Nat → Int32)) (Mk : (Nat → Int32)) (Ms : (Nat → Int32)) (Me : (Nat → Int32)) (Mp : (Nat → Int32)) (Mw : (Nat → Int32)) (Ml : (Nat → Int32)) (My : (Nat → Int64)) (Oa : (Nat → Int64)) (Od : (Nat → UInt64)) (x5 : Int32) (hx5 : x5 = nI (5 * k)) (hf : fL_law_J1834 N L xs k28 Tn Ta Fn Fa Ba Rn Ra Rb Rd Ua Wg Wz Ww Wr Mh Mn Mm Mt Mk Ms Me Mp Mw Ml My Oa Od x5 = some 1) : ∀ (H : Heap) (locs : List Loc), va_P D vwCl (w_0_1_2_3_4_5_6_7_8_9_10_11_12_13_14_15_16_17_18_19_20_21_22_23_24 q cI cJ cD Tn Ta Fn Fa Ba Rn Ra Rb Rd Ua Wg Wz Ww Wr Mh Mn Mm Mt Mk Ms Me Mp Mw Ml My Oa Od) H → va_S (fun a : Nat => s.heap.size ≤ a) s.heap H locs → ∀ ls : Array Slot, lv_has ls 10 [(0, .ref b), (1, .ref (q 0)), (2, .ref (q 14)), (3, .ref (q 23)), (4, .ref (q 24)), (5, .int x5)] → W p l e room_1 s m #[Value.ref b] below meth c H locs (25 + k) (1025 + 6 * k) (lw_Z below #[Value.ref b] s) (F0 m 1834 ls []) := by
  obtain ⟨hx, hb, hr, hml, hown, hts0, hX, hbl, hlocks, hgv⟩ := id C0
  have hown : s.vm.findClass RL = some m.cls := hown
  have hts : ∀ w ∈ wsL_law, w.before #[Value.ref b] s = true := fun w h => hts0 w (wsL_law_in w h)
  have hbA : ¬ (fun a : Nat => s.heap.size ≤ a) b := Nat.not_le.mpr hbl
  have hcm : 25 + k + 1 ≤ 1058 := by omega
  have hsm : 1025 + 6 * k + 6 ≤ 9271 := by omega
  have hc0 : 25 + k ≤ 1058 := by omega
  have hs0 : 1025 + 6 * k ≤ 9271 := by omega
  intro H locs hP hS ls hl
  unfold fL_law_J1834 at hf
  refine lv_aload_n hx hb dL_law_1834 rfl (lv_at hl 1 rfl) ?_
  refine lv_aload_n hx hb dL_law_1835 rfl (lv_at hl 0 rfl) ?_
  refine lv_iload hx hb dL_law_1836 (lv_at hl 5 rfl) ?_
  refine lv_iconst (v := (1 : Int32)) hx hb dL_law_1838 (by decide) ?_
  refine lv_iadd hx hb dL_law_1839 ?_
  obtain ⟨g_1, hf⟩ := gd_some hf
  refine va_sld hx hb hX hbl hbA hS (inb_in g_1) dL_law_1840 ?_
  refine lv_aload_n hx hb dL_law_1841 rfl (lv_at hl 0 rfl) ?_
  refine lv_iload hx hb dL_law_1842 (lv_at hl 5 rfl) ?_
  refine lv_iconst (v := (2 : Int32)) hx hb dL_law_1844 (by decide) ?_
  refine lv_iadd hx hb dL_law_1845 ?_
  obtain ⟨g_2, hf⟩ := gd_some hf
  refine va_sld hx hb hX hbl hbA hS (inb_in g_2) dL_law_1846 ?_
  refine lv_aload_n hx hb dL_law_1847 rfl (lv_at hl 0 rfl) ?_
  refine lv_iload hx hb dL_law_1848 (lv_at hl 5 rfl) ?_
  refine lv_iconst (v := (3 : Int32)) hx hb dL_law_1850 (by decide) ?_
  refine lv_iadd hx hb dL_law_1851 ?_
  obtain ⟨g_3, hf⟩ := gd_some hf
  refine va_sld hx hb hX hbl hbA hS (inb_in g_3) dL_law_1852 ?_
  refine lv_aload_n hx hb dL_law_1853 rfl (lv_at hl 3 rfl) ?_
  obtain ⟨⟨r1854, Oa1854⟩, hc, hf⟩ := bn_some hf
  try dsimp only at hf
  refine g_call (mc := 1) (ms := 6) (ws' := (w_0_1_2_3_4_5_6_7_8_9_10_11_12_13_14_15_16_17_18_19_20_21_22_23_24 q cI cJ cD Tn Ta Fn Fa Ba Rn Ra Rb Rd Ua Wg Wz Ww Wr Mh Mn Mm Mt Mk Ms Me Mp Mw Ml My Oa1854 Od)) (st1 := [.int r1854]) hq [0, 1, 2, 3, 4, 5, 6, 7, 8, 9, 10, 11, 12, 13, 14, 15, 16, 17, 18, 19, 20, 21, 22, 23, 24] [0, 1, 2, 23] [.inl 0, .inl 1, .inl 2, .inr 3, .inr 4, .inr 5, .inr 6, .inr 7, .inr 8, .inr 9, .inr 10, .inr 11, .inr 12, .inr 13, .inr 14, .inr 15, .inr 16, .inr 17, .inr 18, .inr 19, .inr 20, .inr 21, .inr 22, .inl 3, .inr 24] (vx_runSW (As := [.ref (q 0), .int (xs ((x5 + (1 : Int32))).toNatClampNeg), .int (xs ((x5 + (2 : Int32))).toNatClampNeg), .int (xs ((x5 + (3 : Int32))).toNatClampNeg), .ref (q 23)]) (rest := []) ⟨hx, hb, hml, hown, hts⟩ (kL_isPeriod l hlt D cI cJ cD sa q hq N Tn Ta Oa (xs ((x5 + (1 : Int32))).toNatClampNeg) (xs ((x5 + (2 : Int32))).toNatClampNeg) (xs ((x5 + (3 : Int32))).toNatClampNeg) r1854 Oa1854 hc) (vx_cwSW 5 hts gL_law_L_isPeriod rfl rfl rfl (by decide +kernel) ⟨(Nat.le_of_ble_eq_true rfl), (Nat.le_of_ble_eq_true rfl)⟩) ⟨gPx_blind, fun U hU hW => ⟨rfl, by rw [hU]; exact hP.sub (ws' := (w_0_1_2_23 q cI cJ cD Tn Ta Oa)) [0, 1, 2, 23] rfl, gEv.warm hW hE, gXe.go hW hS (gMonoL hqA rfl) hXe hU⟩⟩ rfl rfl hl.1 rfl (lv_room (Nat.le_of_ble_eq_true rfl)) dL_law_1854 ⟨hcm, hsm⟩) hP hS (gSubL hqA rfl) rfl rfl rfl rfl rfl (fun H locs hP hS => ?_)
  refine lv_istore (lv' := [(6, .int r1854), (0, .ref b), (1, .ref (q 0)), (2, .ref (q 14)), (3, .ref (q 23)), (4, .ref (q 24)), (5, .int x5)]) hx hb dL_law_1857 hl (by decide) rfl (fun ls hl => ?_)
  refine lv_aload_n hx hb dL_law_1859 rfl (lv_at hl 3 rfl) ?_
  refine lv_aload_n hx hb dL_law_1860 rfl (lv_at hl 1 rfl) ?_
  refine lv_iload hx hb dL_law_1861 (lv_at hl 6 rfl) ?_
  refine lv_iconst (v := (1 : Int32)) hx hb dL_law_1863 (by decide) ?_
  refine lv_iadd hx hb dL_law_1864 ?_
  obtain ⟨g_4, hf⟩ := gd_some hf
  refine va_sld hx hb hX hbl hbA hS (inb_in g_4) dL_law_1865 ?_
  refine lv_aload_n hx hb dL_law_1866 rfl (lv_at hl 1 rfl) ?_
  refine lv_iload hx hb dL_law_1867 (lv_at hl 6 rfl) ?_
  refine lv_iconst (v := (2 : Int32)) hx hb dL_law_1869 (by decide) ?_
  refine lv_iadd hx hb dL_law_1870 ?_
  obtain ⟨g_5, hf⟩ := gd_some hf
  refine va_sld hx hb hX hbl hbA hS (inb_in g_5) dL_law_1871 ?_
  refine lv_aload_n hx hb dL_law_1872 rfl (lv_at hl 1 rfl) ?_
  refine lv_iload hx hb dL_law_1873 (lv_at hl 6 rfl) ?_
  refine lv_iconst (v := (3 : Int32)) hx hb dL_law_1875 (by decide) ?_
  refine lv_iadd hx hb dL_law_1876 ?_
  obtain ⟨g_6, hf⟩ := gd_some hf
  refine va_sld hx hb hX hbl hbA hS (inb_in g_6) dL_law_1877 ?_
  obtain ⟨⟨r1878, Mh1878⟩, hc, hf⟩ := bn_some hf
  try dsimp only at hf
  refine g_call0 (ws' := (w_0_1_2_3_4_5_6_7_8_9_10_11_12_13_14_15_16_17_18_19_20_21_22_23_24 q cI cJ cD Tn Ta Fn Fa Ba Rn Ra Rb Rd Ua Wg Wz Ww Wr Mh1878 Mn Mm Mt Mk Ms Me Mp Mw Ml My Oa1854 Od)) (st1 := [.int r1878]) hq [0, 1, 2, 3, 4, 5, 6, 7, 8, 9, 10, 11, 12, 13, 14, 15, 16, 17, 18, 19, 20, 21, 22, 23, 24] [14, 15] [.inr 0, .inr 1, .inr 2, .inr 3, .inr 4, .inr 5, .inr 6, .inr 7, .inr 8, .inr 9, .inr 10, .inr 11, .inr 12, .inr 13, .inl 0, .inl 1, .inr 16, .inr 17, .inr 18, .inr 19, .inr 20, .inr 21, .inr 22, .inr 23, .inr 24] (va_runV (As := [.int (xs ((x5 + (1 : Int32))).toNatClampNeg), .int (xs ((x5 + (2 : Int32))).toNatClampNeg), .int (xs ((x5 + (3 : Int32))).toNatClampNeg)]) (rest := []) ⟨hx, hb, hml, hown, hts⟩ (kX9_isPeriod l D cI cJ cD q hq N Mh Mn Mm Mt (xs ((x5 + (1 : Int32))).toNatClampNeg) (xs ((x5 + (2 : Int32))).toNatClampNeg) (xs ((x5 + (3 : Int32))).toNatClampNeg) r1878 Mh1878 hc) (cwV 3 hts gL_law_X9_isPeriod rfl rfl rfl (by decide +kernel) ⟨(Nat.le_of_ble_eq_true rfl), (Nat.le_of_ble_eq_true rfl)⟩) ⟨gP_blind, va_recv hE.1 hP (ci := 7) (q0 := 14) rfl rfl, fun U hU hW => ⟨rfl, by rw [hU]; exact hP.sub (ws' := (w_14_15 q cI cJ cD Mh Mn Mm Mt)) [14, 15] rfl, gEv.warm hW hE⟩⟩ rfl rfl hl.1 rfl (lv_room (Nat.le_of_ble_eq_true rfl)) dL_law_1878 ⟨hcm, hsm⟩) hP hS (gSubL hqA rfl) rfl rfl rfl rfl rfl (fun H locs hP hS => ?_)
  refine lv_istore (lv' := [(7, .int r1878), (6, .int r1854), (0, .ref b), (1, .ref (q 0)), (2, .ref (q 14)), (3, .ref (q 23)), (4, .ref (q 24)), (5, .int x5)]) hx hb dL_law_1881 hl (by decide) rfl (fun ls hl => ?_)
  refine lv_aload_n hx hb dL_law_1883 rfl (lv_at hl 4 rfl) ?_
  obtain ⟨r1884, hc, hf⟩ := bn_some hf
  try dsimp only at hf
  refine g_call0 (ws' := (w_0_1_2_3_4_5_6_7_8_9_10_11_12_13_14_15_16_17_18_19_20_21_22_23_24 q cI cJ cD Tn Ta Fn Fa Ba Rn Ra Rb Rd Ua Wg Wz Ww Wr Mh1878 Mn Mm Mt Mk Ms Me Mp Mw Ml My Oa1854 Od)) (st1 := [.int r1884]) hq [0, 1, 2, 3, 4, 5, 6, 7, 8, 9, 10, 11, 12, 13, 14, 15, 16, 17, 18, 19, 20, 21, 22, 23, 24] [14] [.inr 0, .inr 1, .inr 2, .inr 3, .inr 4, .inr 5, .inr 6, .inr 7, .inr 8, .inr 9, .inr 10, .inr 11, .inr 12, .inr 13, .inl 0, .inr 15, .inr 16, .inr 17, .inr 18, .inr 19, .inr 20, .inr 21, .inr 22, .inr 23, .inr 24] (va_runV (As := []) (rest := []) ⟨hx, hb, hml, hown, hts⟩ (kX9_thrown l D cI cJ cD q hq N Mh1878 Mn Mm r1884 hc) (cwV 0 hts gL_law_X9_thrown rfl rfl rfl (by decide +kernel) ⟨(Nat.le_of_ble_eq_true rfl), (Nat.le_of_ble_eq_true rfl)⟩) ⟨gP_blind, va_recv hE.1 hP (ci := 7) (q0 := 14) rfl rfl, fun U hU hW => ⟨rfl, by rw [hU]; exact hP.sub (ws' := (w_14 q cI cJ cD Mh1878 Mn Mm)) [14] rfl, gEv.warm hW hE⟩⟩ rfl rfl hl.1 rfl (lv_room (Nat.le_of_ble_eq_true rfl)) dL_law_1884 ⟨hcm, hsm⟩) hP hS (gSubL hqA rfl) rfl rfl rfl rfl rfl (fun H locs hP hS => ?_)
  refine lv_iload hx hb dL_law_1887 (lv_at hl 1 rfl) ?_
  refine lv_icmp_eq (tgt := 1894) hx hb dL_law_1889 (by decide) (fun c_7 => ?_) (fun c_7 => ?_)
  · have hf := (if_pos c_7).symm.trans hf
    refine lv_iload hx hb dL_law_1894 (lv_at hl 1 rfl) ?_
    refine lv_if_ne (tgt := 1918) hx hb dL_law_1896 (by decide) (fun c_8 => ?_) (fun c_8 => ?_)
    · have hf := (if_neg c_8).symm.trans hf
      exact law_J1918 hL C0 hlt D cI cJ cD sa q hq hqA hE hXe N k h5 k28 ih Tn Ta Fn Fa Ba Rn Ra Rb Rd Ua Wg Wz Ww Wr Mh1878 Mn Mm Mt Mk Ms Me Mp Mw Ml My Oa1854 Od x5 hx5 hf _ _ hP hS _ (lv_sub hl [2, 3, 4, 5, 6, 7] rfl)
    · have hf := (if_pos c_8).symm.trans hf
      refine lv_aload_n hx hb dL_law_1899 rfl (lv_at hl 5 rfl) ?_
      refine lv_iconst (v := (0 : Int32)) hx hb dL_law_1900 (by decide) ?_
      obtain ⟨g_9, hf⟩ := gd_some hf
      refine va_lald hx hb hE.1 hP 23 1 rfl rfl (inb_in g_9) dL_law_1901 ?_
      refine lv_iload hx hb dL_law_1902 (lv_at hl 0 rfl) ?_
      refine lv_if_eq (tgt := 1911) hx hb dL_law_1904 (by decide) (fun c_10 => ?_) (fun c_10 => ?_)
      · have hf := (if_pos c_10).symm.trans hf
        refine lv_lconst (v := (0 : Int64)) hx hb dL_law_1911 (by decide) ?_
        exact law_J1912 hL C0 hlt D cI cJ cD sa q hq hqA hE hXe N k h5 k28 ih Tn Ta Fn Fa Ba Rn Ra Rb Rd Ua Wg Wz Ww Wr Mh1878 Mn Mm Mt Mk Ms Me Mp Mw Ml My Oa1854 Od x5 (Oa1854 ((0 : Int32)).toNatClampNeg) (0 : Int64) hx5 hf _ _ hP hS _ (lv_sub hl [2, 3, 4, 5, 6, 7] rfl)
      · have hf := (if_neg c_10).symm.trans hf
        refine lv_lconst (v := (1 : Int64)) hx hb dL_law_1907 (by decide) ?_
        refine lv_goto (tgt := 1912) hx hb dL_law_1908 (by decide) ?_
        exact law_J1912 hL C0 hlt D cI cJ cD sa q hq hqA hE hXe N k h5 k28 ih Tn Ta Fn Fa Ba Rn Ra Rb Rd Ua Wg Wz Ww Wr Mh1878 Mn Mm Mt Mk Ms Me Mp Mw Ml My Oa1854 Od x5 (Oa1854 ((0 : Int32)).toNatClampNeg) (1 : Int64) hx5 hf _ _ hP hS _ (lv_sub hl [2, 3, 4, 5, 6, 7] rfl)
  · have hf := (if_neg c_7).symm.trans hf
    exact law_J1892 hL C0 hlt D cI cJ cD sa q hq hqA hE hXe N k (by omega) Tn Ta Fn Fa Ba Rn Ra Rb Rd Ua Wg Wz Ww Wr Mh1878 Mn Mm Mt Mk Ms Me Mp Mw Ml My Oa1854 Od hf _ _ hP hS _ (lv_sub hl [] rfl)
set_option maxHeartbeats 4000000 in
set_option maxRecDepth 100000 in
theorem law_J1986 {p : Program} {l : Launch} {e : Env} {s : State} {m : MethodId} {below : List Frame} {meth : Method} {c : Code} {b L : Nat} {xs : Nat → Int32} (hL : L ≤ 2560) (C0 : lw_At p s m meth c b L xs) (hlt : l.stackTraces = false) (D : va_G) (cI cJ cD : ClassId) (sa : Nat → Nat) (q : Nat → Nat) (hq : gInj q) (hqA : ∀ k, k < 25 → s.heap.size ≤ q k) (hE : gEv D cI cJ cD s) (hXe : gXe sa (fun a => s.heap.size ≤ a) s s.heap) (N : Nat) (k : Nat) (h5 : 5 * k + 5 ≤ L) (k28 : Int32 → (Nat → Int32) → Int32 → (Nat → Int32) → (Nat → Int32) → Int32 → (Nat → Int32) → (Nat → Int32) → (Nat → Int32) → (Nat → Int32) → Int32 → Int32 → Int32 → Int32 → Int32 → Int32 → Int32 → (Nat → Int32) → (Nat → Int32) → (Nat → Int32) → (Nat → Int32) → (Nat → Int32) → (Nat → Int32) → (Nat → Int32) → (Nat → Int64) → (Nat → Int64) → (Nat → UInt64) → Int32 → Option Int32) (ih : lawIH p l e s m below meth c b D cI cJ cD q k k28) (Tn : Int32) (Ta : (Nat → Int32)) (Fn : Int32) (Fa : (Nat → Int32)) (Ba : (Nat → Int32)) (Rn : Int32) (Ra : (Nat → Int32)) (Rb : (Nat → Int32)) (Rd : (Nat → Int32)) (Ua : (Nat → Int32)) (Wg : Int32) (Wz : Int32) (Ww : Int32) (Wr : Int32) (Mh : Int32) (Mn : Int32) (Mm : Int32) (Mt : (Nat → Int32)) (Mk : (Nat → Int32)) (Ms : (Nat → Int32)) (Me : (Nat → Int32)) (Mp : (Nat → Int32)) (Mw : (Nat → Int32)) (Ml : (Nat → Int32)) (My : (Nat → Int64)) (Oa : (Nat → Int64)) (Od : (Nat → UInt64)) (x5 : Int32) (hx5 : x5 = nI (5 * k)) (hf : fL_law_J1986 N L xs k28 Tn Ta Fn Fa Ba Rn Ra Rb Rd Ua Wg Wz Ww Wr Mh Mn Mm Mt Mk Ms Me Mp Mw Ml My Oa Od x5 = some 1) : ∀ (H : Heap) (locs : List Loc), va_P D vwCl (w_0_1_2_3_4_5_6_7_8_9_10_11_12_13_14_15_16_17_18_19_20_21_22_23_24 q cI cJ cD Tn Ta Fn Fa Ba Rn Ra Rb Rd Ua Wg Wz Ww Wr Mh Mn Mm Mt Mk Ms Me Mp Mw Ml My Oa Od) H → va_S (fun a : Nat => s.heap.size ≤ a) s.heap H locs → ∀ ls : Array Slot, lv_has ls 10 [(0, .ref b), (1, .ref (q 0)), (2, .ref (q 14)), (3, .ref (q 23)), (4, .ref (q 24)), (5, .int x5)] → W p l e room_1 s m #[Value.ref b] below meth c H locs (25 + k + 1) (1025 + 6 * k + 6) (lw_Z below #[Value.ref b] s) (F0 m 1986 ls []) := by
  obtain ⟨hx, hb, hr, hml, hown, hts0, hX, hbl, hlocks, hgv⟩ := id C0
  have hown : s.vm.findClass RL = some m.cls := hown
  have hts : ∀ w ∈ wsL_law, w.before #[Value.ref b] s = true := fun w h => hts0 w (wsL_law_in w h)
  have hbA : ¬ (fun a : Nat => s.heap.size ≤ a) b := Nat.not_le.mpr hbl
  have hcm : 25 + k + 1 ≤ 1058 := by omega
  have hsm : 1025 + 6 * k + 6 ≤ 9271 := by omega
  have hc0 : 25 + k ≤ 1058 := by omega
  have hs0 : 1025 + 6 * k ≤ 9271 := by omega
  intro H locs hP hS ls hl
  unfold fL_law_J1986 at hf
  refine lv_goto (tgt := 2831) hx hb dL_law_1986 (by decide) ?_
  exact law_J2831 hL C0 hlt D cI cJ cD sa q hq hqA hE hXe N k h5 k28 ih Tn Ta Fn Fa Ba Rn Ra Rb Rd Ua Wg Wz Ww Wr Mh Mn Mm Mt Mk Ms Me Mp Mw Ml My Oa Od x5 hx5 hf _ _ hP hS _ (lv_sub hl [0, 1, 2, 3, 4, 5] rfl)
set_option maxHeartbeats 4000000 in
set_option maxRecDepth 100000 in
theorem law_J1921 {p : Program} {l : Launch} {e : Env} {s : State} {m : MethodId} {below : List Frame} {meth : Method} {c : Code} {b L : Nat} {xs : Nat → Int32} (hL : L ≤ 2560) (C0 : lw_At p s m meth c b L xs) (hlt : l.stackTraces = false) (D : va_G) (cI cJ cD : ClassId) (sa : Nat → Nat) (q : Nat → Nat) (hq : gInj q) (hqA : ∀ k, k < 25 → s.heap.size ≤ q k) (hE : gEv D cI cJ cD s) (hXe : gXe sa (fun a => s.heap.size ≤ a) s s.heap) (N : Nat) (k : Nat) (h5 : 5 * k + 5 ≤ L) (k28 : Int32 → (Nat → Int32) → Int32 → (Nat → Int32) → (Nat → Int32) → Int32 → (Nat → Int32) → (Nat → Int32) → (Nat → Int32) → (Nat → Int32) → Int32 → Int32 → Int32 → Int32 → Int32 → Int32 → Int32 → (Nat → Int32) → (Nat → Int32) → (Nat → Int32) → (Nat → Int32) → (Nat → Int32) → (Nat → Int32) → (Nat → Int32) → (Nat → Int64) → (Nat → Int64) → (Nat → UInt64) → Int32 → Option Int32) (ih : lawIH p l e s m below meth c b D cI cJ cD q k k28) (Tn : Int32) (Ta : (Nat → Int32)) (Fn : Int32) (Fa : (Nat → Int32)) (Ba : (Nat → Int32)) (Rn : Int32) (Ra : (Nat → Int32)) (Rb : (Nat → Int32)) (Rd : (Nat → Int32)) (Ua : (Nat → Int32)) (Wg : Int32) (Wz : Int32) (Ww : Int32) (Wr : Int32) (Mh : Int32) (Mn : Int32) (Mm : Int32) (Mt : (Nat → Int32)) (Mk : (Nat → Int32)) (Ms : (Nat → Int32)) (Me : (Nat → Int32)) (Mp : (Nat → Int32)) (Mw : (Nat → Int32)) (Ml : (Nat → Int32)) (My : (Nat → Int64)) (Oa : (Nat → Int64)) (Od : (Nat → UInt64)) (x5 : Int32) (hx5 : x5 = nI (5 * k)) (hf : fL_law_J1921 N L xs k28 Tn Ta Fn Fa Ba Rn Ra Rb Rd Ua Wg Wz Ww Wr Mh Mn Mm Mt Mk Ms Me Mp Mw Ml My Oa Od x5 = some 1) : ∀ (H : Heap) (locs : List Loc), va_P D vwCl (w_0_1_2_3_4_5_6_7_8_9_10_11_12_13_14_15_16_17_18_19_20_21_22_23_24 q cI cJ cD Tn Ta Fn Fa Ba Rn Ra Rb Rd Ua Wg Wz Ww Wr Mh Mn Mm Mt Mk Ms Me Mp Mw Ml My Oa Od) H → va_S (fun a : Nat => s.heap.size ≤ a) s.heap H locs → ∀ ls : Array Slot, lv_has ls 10 [(0, .ref b), (1, .ref (q 0)), (2, .ref (q 14)), (3, .ref (q 23)), (4, .ref (q 24)), (5, .int x5)] → W p l e room_1 s m #[Value.ref b] below meth c H locs (25 + k) (1025 + 6 * k) (lw_Z below #[Value.ref b] s) (F0 m 1921 ls []) := by
  obtain ⟨hx, hb, hr, hml, hown, hts0, hX, hbl, hlocks, hgv⟩ := id C0
  have hown : s.vm.findClass RL = some m.cls := hown
  have hts : ∀ w ∈ wsL_law, w.before #[Value.ref b] s = true := fun w h => hts0 w (wsL_law_in w h)
  have hbA : ¬ (fun a : Nat => s.heap.size ≤ a) b := Nat.not_le.mpr hbl
  have hcm : 25 + k + 1 ≤ 1058 := by omega
  have hsm : 1025 + 6 * k + 6 ≤ 9271 := by omega
  have hc0 : 25 + k ≤ 1058 := by omega
  have hs0 : 1025 + 6 * k ≤ 9271 := by omega
  intro H locs hP hS ls hl
  unfold fL_law_J1921 at hf
  refine lv_aload_n hx hb dL_law_1921 rfl (lv_at hl 1 rfl) ?_
  refine lv_aload_n hx hb dL_law_1922 rfl (lv_at hl 0 rfl) ?_
  refine lv_iload hx hb dL_law_1923 (lv_at hl 5 rfl) ?_
  refine lv_iconst (v := (1 : Int32)) hx hb dL_law_1925 (by decide) ?_
  refine lv_iadd hx hb dL_law_1926 ?_
  obtain ⟨g_1, hf⟩ := gd_some hf
  refine va_sld hx hb hX hbl hbA hS (inb_in g_1) dL_law_1927 ?_
  refine lv_aload_n hx hb dL_law_1928 rfl (lv_at hl 0 rfl) ?_
  refine lv_iload hx hb dL_law_1929 (lv_at hl 5 rfl) ?_
  refine lv_iconst (v := (2 : Int32)) hx hb dL_law_1931 (by decide) ?_
  refine lv_iadd hx hb dL_law_1932 ?_
  obtain ⟨g_2, hf⟩ := gd_some hf
  refine va_sld hx hb hX hbl hbA hS (inb_in g_2) dL_law_1933 ?_
  refine lv_aload_n hx hb dL_law_1934 rfl (lv_at hl 3 rfl) ?_
  obtain ⟨⟨r1935, Ba1935, Oa1935⟩, hc, hf⟩ := bn_some hf
  try dsimp only at hf
  refine g_call (mc := 1) (ms := 6) (ws' := (w_0_1_2_3_4_5_6_7_8_9_10_11_12_13_14_15_16_17_18_19_20_21_22_23_24 q cI cJ cD Tn Ta Fn Fa Ba1935 Rn Ra Rb Rd Ua Wg Wz Ww Wr Mh Mn Mm Mt Mk Ms Me Mp Mw Ml My Oa1935 Od)) (st1 := [.int r1935]) hq [0, 1, 2, 3, 4, 5, 6, 7, 8, 9, 10, 11, 12, 13, 14, 15, 16, 17, 18, 19, 20, 21, 22, 23, 24] [0, 1, 2, 5, 6, 23] [.inl 0, .inl 1, .inl 2, .inr 3, .inr 4, .inl 3, .inl 4, .inr 7, .inr 8, .inr 9, .inr 10, .inr 11, .inr 12, .inr 13, .inr 14, .inr 15, .inr 16, .inr 17, .inr 18, .inr 19, .inr 20, .inr 21, .inr 22, .inl 5, .inr 24] (vx_runSW (As := [.ref (q 0), .int (xs ((x5 + (1 : Int32))).toNatClampNeg), .int (xs ((x5 + (2 : Int32))).toNatClampNeg), .ref (q 23)]) (rest := []) ⟨hx, hb, hml, hown, hts⟩ (kL_periods l hlt D cI cJ cD sa q hq N Tn Ta Ba Oa (xs ((x5 + (1 : Int32))).toNatClampNeg) (xs ((x5 + (2 : Int32))).toNatClampNeg) r1935 Ba1935 Oa1935 hc) (vx_cwSW 4 hts gL_law_L_periods rfl rfl rfl (by decide +kernel) ⟨(Nat.le_of_ble_eq_true rfl), (Nat.le_of_ble_eq_true rfl)⟩) ⟨gPx_blind, fun U hU hW => ⟨rfl, by rw [hU]; exact hP.sub (ws' := (w_0_1_2_5_6_23 q cI cJ cD Tn Ta Ba Oa)) [0, 1, 2, 5, 6, 23] rfl, gEv.warm hW hE, gXe.go hW hS (gMonoL hqA rfl) hXe hU⟩⟩ rfl rfl hl.1 rfl (lv_room (Nat.le_of_ble_eq_true rfl)) dL_law_1935 ⟨hcm, hsm⟩) hP hS (gSubL hqA rfl) rfl rfl rfl rfl rfl (fun H locs hP hS => ?_)
  refine lv_istore (lv' := [(6, .int r1935), (0, .ref b), (1, .ref (q 0)), (2, .ref (q 14)), (3, .ref (q 23)), (4, .ref (q 24)), (5, .int x5)]) hx hb dL_law_1938 hl (by decide) rfl (fun ls hl => ?_)
  refine lv_aload_n hx hb dL_law_1940 rfl (lv_at hl 3 rfl) ?_
  refine lv_aload_n hx hb dL_law_1941 rfl (lv_at hl 1 rfl) ?_
  refine lv_iload hx hb dL_law_1942 (lv_at hl 6 rfl) ?_
  refine lv_iconst (v := (1 : Int32)) hx hb dL_law_1944 (by decide) ?_
  refine lv_iadd hx hb dL_law_1945 ?_
  obtain ⟨g_3, hf⟩ := gd_some hf
  refine va_sld hx hb hX hbl hbA hS (inb_in g_3) dL_law_1946 ?_
  refine lv_aload_n hx hb dL_law_1947 rfl (lv_at hl 1 rfl) ?_
  refine lv_iload hx hb dL_law_1948 (lv_at hl 6 rfl) ?_
  refine lv_iconst (v := (2 : Int32)) hx hb dL_law_1950 (by decide) ?_
  refine lv_iadd hx hb dL_law_1951 ?_
  obtain ⟨g_4, hf⟩ := gd_some hf
  refine va_sld hx hb hX hbl hbA hS (inb_in g_4) dL_law_1952 ?_
  obtain ⟨⟨r1953, Mh1953⟩, hc, hf⟩ := bn_some hf
  try dsimp only at hf
  refine g_call0 (ws' := (w_0_1_2_3_4_5_6_7_8_9_10_11_12_13_14_15_16_17_18_19_20_21_22_23_24 q cI cJ cD Tn Ta Fn Fa Ba1935 Rn Ra Rb Rd Ua Wg Wz Ww Wr Mh1953 Mn Mm Mt Mk Ms Me Mp Mw Ml My Oa1935 Od)) (st1 := [.int r1953]) hq [0, 1, 2, 3, 4, 5, 6, 7, 8, 9, 10, 11, 12, 13, 14, 15, 16, 17, 18, 19, 20, 21, 22, 23, 24] [14, 15] [.inr 0, .inr 1, .inr 2, .inr 3, .inr 4, .inr 5, .inr 6, .inr 7, .inr 8, .inr 9, .inr 10, .inr 11, .inr 12, .inr 13, .inl 0, .inl 1, .inr 16, .inr 17, .inr 18, .inr 19, .inr 20, .inr 21, .inr 22, .inr 23, .inr 24] (va_runV (As := [.int (xs ((x5 + (1 : Int32))).toNatClampNeg), .int (xs ((x5 + (2 : Int32))).toNatClampNeg)]) (rest := []) ⟨hx, hb, hml, hown, hts⟩ (kX9_periods l D cI cJ cD q hq N Mh Mn Mm Mt (xs ((x5 + (1 : Int32))).toNatClampNeg) (xs ((x5 + (2 : Int32))).toNatClampNeg) r1953 Mh1953 hc) (cwV 2 hts gL_law_X9_periods rfl rfl rfl (by decide +kernel) ⟨(Nat.le_of_ble_eq_true rfl), (Nat.le_of_ble_eq_true rfl)⟩) ⟨gP_blind, va_recv hE.1 hP (ci := 7) (q0 := 14) rfl rfl, fun U hU hW => ⟨rfl, by rw [hU]; exact hP.sub (ws' := (w_14_15 q cI cJ cD Mh Mn Mm Mt)) [14, 15] rfl, gEv.warm hW hE⟩⟩ rfl rfl hl.1 rfl (lv_room (Nat.le_of_ble_eq_true rfl)) dL_law_1953 ⟨hcm, hsm⟩) hP hS (gSubL hqA rfl) rfl rfl rfl rfl rfl (fun H locs hP hS => ?_)
  refine lv_istore (lv' := [(7, .int r1953), (6, .int r1935), (0, .ref b), (1, .ref (q 0)), (2, .ref (q 14)), (3, .ref (q 23)), (4, .ref (q 24)), (5, .int x5)]) hx hb dL_law_1956 hl (by decide) rfl (fun ls hl => ?_)
  refine lv_aload_n hx hb dL_law_1958 rfl (lv_at hl 4 rfl) ?_
  obtain ⟨r1959, hc, hf⟩ := bn_some hf
  try dsimp only at hf
  refine g_call0 (ws' := (w_0_1_2_3_4_5_6_7_8_9_10_11_12_13_14_15_16_17_18_19_20_21_22_23_24 q cI cJ cD Tn Ta Fn Fa Ba1935 Rn Ra Rb Rd Ua Wg Wz Ww Wr Mh1953 Mn Mm Mt Mk Ms Me Mp Mw Ml My Oa1935 Od)) (st1 := [.int r1959]) hq [0, 1, 2, 3, 4, 5, 6, 7, 8, 9, 10, 11, 12, 13, 14, 15, 16, 17, 18, 19, 20, 21, 22, 23, 24] [14] [.inr 0, .inr 1, .inr 2, .inr 3, .inr 4, .inr 5, .inr 6, .inr 7, .inr 8, .inr 9, .inr 10, .inr 11, .inr 12, .inr 13, .inl 0, .inr 15, .inr 16, .inr 17, .inr 18, .inr 19, .inr 20, .inr 21, .inr 22, .inr 23, .inr 24] (va_runV (As := []) (rest := []) ⟨hx, hb, hml, hown, hts⟩ (kX9_thrown l D cI cJ cD q hq N Mh1953 Mn Mm r1959 hc) (cwV 0 hts gL_law_X9_thrown rfl rfl rfl (by decide +kernel) ⟨(Nat.le_of_ble_eq_true rfl), (Nat.le_of_ble_eq_true rfl)⟩) ⟨gP_blind, va_recv hE.1 hP (ci := 7) (q0 := 14) rfl rfl, fun U hU hW => ⟨rfl, by rw [hU]; exact hP.sub (ws' := (w_14 q cI cJ cD Mh1953 Mn Mm)) [14] rfl, gEv.warm hW hE⟩⟩ rfl rfl hl.1 rfl (lv_room (Nat.le_of_ble_eq_true rfl)) dL_law_1959 ⟨hcm, hsm⟩) hP hS (gSubL hqA rfl) rfl rfl rfl rfl rfl (fun H locs hP hS => ?_)
  refine lv_iload hx hb dL_law_1962 (lv_at hl 1 rfl) ?_
  refine lv_icmp_eq (tgt := 1969) hx hb dL_law_1964 (by decide) (fun c_5 => ?_) (fun c_5 => ?_)
  · have hf := (if_pos c_5).symm.trans hf
    refine lv_iload hx hb dL_law_1969 (lv_at hl 1 rfl) ?_
    refine lv_if_ne (tgt := 1986) hx hb dL_law_1971 (by decide) (fun c_6 => ?_) (fun c_6 => ?_)
    · have hf := (if_neg c_6).symm.trans hf
      exact law_J1986 hL C0 hlt D cI cJ cD sa q hq hqA hE hXe N k h5 k28 ih Tn Ta Fn Fa Ba1935 Rn Ra Rb Rd Ua Wg Wz Ww Wr Mh1953 Mn Mm Mt Mk Ms Me Mp Mw Ml My Oa1935 Od x5 hx5 hf _ _ hP hS _ (lv_sub hl [2, 3, 4, 5, 6, 7] rfl)
    · have hf := (if_pos c_6).symm.trans hf
      refine lv_aload_n hx hb dL_law_1974 rfl (lv_at hl 5 rfl) ?_
      refine lv_iconst (v := (0 : Int32)) hx hb dL_law_1975 (by decide) ?_
      obtain ⟨g_7, hf⟩ := gd_some hf
      refine va_lald hx hb hE.1 hP 23 1 rfl rfl (inb_in g_7) dL_law_1976 ?_
      refine lv_iload hx hb dL_law_1977 (lv_at hl 0 rfl) ?_
      refine lv_i2l (v := (r1953).toInt64) hx hb dL_law_1979 rfl ?_
      refine W.lcmp hx hb dL_law_1980 ?_
      refine lv_if_eq (tgt := 1986) hx hb dL_law_1981 (by decide) (fun c_8 => ?_) (fun c_8 => ?_)
      · have hf := (if_pos c_8).symm.trans hf
        exact law_J1986 hL C0 hlt D cI cJ cD sa q hq hqA hE hXe N k h5 k28 ih Tn Ta Fn Fa Ba1935 Rn Ra Rb Rd Ua Wg Wz Ww Wr Mh1953 Mn Mm Mt Mk Ms Me Mp Mw Ml My Oa1935 Od x5 hx5 hf _ _ hP hS _ (lv_sub hl [2, 3, 4, 5, 6, 7] rfl)
      · have hf := (if_neg c_8).symm.trans hf
        exact law_J1984 hL C0 hlt D cI cJ cD sa q hq hqA hE hXe N k (by omega) Tn Ta Fn Fa Ba1935 Rn Ra Rb Rd Ua Wg Wz Ww Wr Mh1953 Mn Mm Mt Mk Ms Me Mp Mw Ml My Oa1935 Od hf _ _ hP hS _ (lv_sub hl [] rfl)
  · have hf := (if_neg c_5).symm.trans hf
    exact law_J1967 hL C0 hlt D cI cJ cD sa q hq hqA hE hXe N k (by omega) Tn Ta Fn Fa Ba1935 Rn Ra Rb Rd Ua Wg Wz Ww Wr Mh1953 Mn Mm Mt Mk Ms Me Mp Mw Ml My Oa1935 Od hf _ _ hP hS _ (lv_sub hl [] rfl)
set_option maxHeartbeats 4000000 in
set_option maxRecDepth 100000 in
theorem law_J2054 {p : Program} {l : Launch} {e : Env} {s : State} {m : MethodId} {below : List Frame} {meth : Method} {c : Code} {b L : Nat} {xs : Nat → Int32} (hL : L ≤ 2560) (C0 : lw_At p s m meth c b L xs) (hlt : l.stackTraces = false) (D : va_G) (cI cJ cD : ClassId) (sa : Nat → Nat) (q : Nat → Nat) (hq : gInj q) (hqA : ∀ k, k < 25 → s.heap.size ≤ q k) (hE : gEv D cI cJ cD s) (hXe : gXe sa (fun a => s.heap.size ≤ a) s s.heap) (N : Nat) (k : Nat) (h5 : 5 * k + 5 ≤ L) (k28 : Int32 → (Nat → Int32) → Int32 → (Nat → Int32) → (Nat → Int32) → Int32 → (Nat → Int32) → (Nat → Int32) → (Nat → Int32) → (Nat → Int32) → Int32 → Int32 → Int32 → Int32 → Int32 → Int32 → Int32 → (Nat → Int32) → (Nat → Int32) → (Nat → Int32) → (Nat → Int32) → (Nat → Int32) → (Nat → Int32) → (Nat → Int32) → (Nat → Int64) → (Nat → Int64) → (Nat → UInt64) → Int32 → Option Int32) (ih : lawIH p l e s m below meth c b D cI cJ cD q k k28) (Tn : Int32) (Ta : (Nat → Int32)) (Fn : Int32) (Fa : (Nat → Int32)) (Ba : (Nat → Int32)) (Rn : Int32) (Ra : (Nat → Int32)) (Rb : (Nat → Int32)) (Rd : (Nat → Int32)) (Ua : (Nat → Int32)) (Wg : Int32) (Wz : Int32) (Ww : Int32) (Wr : Int32) (Mh : Int32) (Mn : Int32) (Mm : Int32) (Mt : (Nat → Int32)) (Mk : (Nat → Int32)) (Ms : (Nat → Int32)) (Me : (Nat → Int32)) (Mp : (Nat → Int32)) (Mw : (Nat → Int32)) (Ml : (Nat → Int32)) (My : (Nat → Int64)) (Oa : (Nat → Int64)) (Od : (Nat → UInt64)) (x5 : Int32) (hx5 : x5 = nI (5 * k)) (hf : fL_law_J2054 N L xs k28 Tn Ta Fn Fa Ba Rn Ra Rb Rd Ua Wg Wz Ww Wr Mh Mn Mm Mt Mk Ms Me Mp Mw Ml My Oa Od x5 = some 1) : ∀ (H : Heap) (locs : List Loc), va_P D vwCl (w_0_1_2_3_4_5_6_7_8_9_10_11_12_13_14_15_16_17_18_19_20_21_22_23_24 q cI cJ cD Tn Ta Fn Fa Ba Rn Ra Rb Rd Ua Wg Wz Ww Wr Mh Mn Mm Mt Mk Ms Me Mp Mw Ml My Oa Od) H → va_S (fun a : Nat => s.heap.size ≤ a) s.heap H locs → ∀ ls : Array Slot, lv_has ls 10 [(0, .ref b), (1, .ref (q 0)), (2, .ref (q 14)), (3, .ref (q 23)), (4, .ref (q 24)), (5, .int x5)] → W p l e room_1 s m #[Value.ref b] below meth c H locs (25 + k + 1) (1025 + 6 * k + 6) (lw_Z below #[Value.ref b] s) (F0 m 2054 ls []) := by
  obtain ⟨hx, hb, hr, hml, hown, hts0, hX, hbl, hlocks, hgv⟩ := id C0
  have hown : s.vm.findClass RL = some m.cls := hown
  have hts : ∀ w ∈ wsL_law, w.before #[Value.ref b] s = true := fun w h => hts0 w (wsL_law_in w h)
  have hbA : ¬ (fun a : Nat => s.heap.size ≤ a) b := Nat.not_le.mpr hbl
  have hcm : 25 + k + 1 ≤ 1058 := by omega
  have hsm : 1025 + 6 * k + 6 ≤ 9271 := by omega
  have hc0 : 25 + k ≤ 1058 := by omega
  have hs0 : 1025 + 6 * k ≤ 9271 := by omega
  intro H locs hP hS ls hl
  unfold fL_law_J2054 at hf
  refine lv_goto (tgt := 2831) hx hb dL_law_2054 (by decide) ?_
  exact law_J2831 hL C0 hlt D cI cJ cD sa q hq hqA hE hXe N k h5 k28 ih Tn Ta Fn Fa Ba Rn Ra Rb Rd Ua Wg Wz Ww Wr Mh Mn Mm Mt Mk Ms Me Mp Mw Ml My Oa Od x5 hx5 hf _ _ hP hS _ (lv_sub hl [0, 1, 2, 3, 4, 5] rfl)
set_option maxHeartbeats 4000000 in
set_option maxRecDepth 100000 in
theorem law_J1989 {p : Program} {l : Launch} {e : Env} {s : State} {m : MethodId} {below : List Frame} {meth : Method} {c : Code} {b L : Nat} {xs : Nat → Int32} (hL : L ≤ 2560) (C0 : lw_At p s m meth c b L xs) (hlt : l.stackTraces = false) (D : va_G) (cI cJ cD : ClassId) (sa : Nat → Nat) (q : Nat → Nat) (hq : gInj q) (hqA : ∀ k, k < 25 → s.heap.size ≤ q k) (hE : gEv D cI cJ cD s) (hXe : gXe sa (fun a => s.heap.size ≤ a) s s.heap) (N : Nat) (k : Nat) (h5 : 5 * k + 5 ≤ L) (k28 : Int32 → (Nat → Int32) → Int32 → (Nat → Int32) → (Nat → Int32) → Int32 → (Nat → Int32) → (Nat → Int32) → (Nat → Int32) → (Nat → Int32) → Int32 → Int32 → Int32 → Int32 → Int32 → Int32 → Int32 → (Nat → Int32) → (Nat → Int32) → (Nat → Int32) → (Nat → Int32) → (Nat → Int32) → (Nat → Int32) → (Nat → Int32) → (Nat → Int64) → (Nat → Int64) → (Nat → UInt64) → Int32 → Option Int32) (ih : lawIH p l e s m below meth c b D cI cJ cD q k k28) (Tn : Int32) (Ta : (Nat → Int32)) (Fn : Int32) (Fa : (Nat → Int32)) (Ba : (Nat → Int32)) (Rn : Int32) (Ra : (Nat → Int32)) (Rb : (Nat → Int32)) (Rd : (Nat → Int32)) (Ua : (Nat → Int32)) (Wg : Int32) (Wz : Int32) (Ww : Int32) (Wr : Int32) (Mh : Int32) (Mn : Int32) (Mm : Int32) (Mt : (Nat → Int32)) (Mk : (Nat → Int32)) (Ms : (Nat → Int32)) (Me : (Nat → Int32)) (Mp : (Nat → Int32)) (Mw : (Nat → Int32)) (Ml : (Nat → Int32)) (My : (Nat → Int64)) (Oa : (Nat → Int64)) (Od : (Nat → UInt64)) (x5 : Int32) (hx5 : x5 = nI (5 * k)) (hf : fL_law_J1989 N L xs k28 Tn Ta Fn Fa Ba Rn Ra Rb Rd Ua Wg Wz Ww Wr Mh Mn Mm Mt Mk Ms Me Mp Mw Ml My Oa Od x5 = some 1) : ∀ (H : Heap) (locs : List Loc), va_P D vwCl (w_0_1_2_3_4_5_6_7_8_9_10_11_12_13_14_15_16_17_18_19_20_21_22_23_24 q cI cJ cD Tn Ta Fn Fa Ba Rn Ra Rb Rd Ua Wg Wz Ww Wr Mh Mn Mm Mt Mk Ms Me Mp Mw Ml My Oa Od) H → va_S (fun a : Nat => s.heap.size ≤ a) s.heap H locs → ∀ ls : Array Slot, lv_has ls 10 [(0, .ref b), (1, .ref (q 0)), (2, .ref (q 14)), (3, .ref (q 23)), (4, .ref (q 24)), (5, .int x5)] → W p l e room_1 s m #[Value.ref b] below meth c H locs (25 + k) (1025 + 6 * k) (lw_Z below #[Value.ref b] s) (F0 m 1989 ls []) := by
  obtain ⟨hx, hb, hr, hml, hown, hts0, hX, hbl, hlocks, hgv⟩ := id C0
  have hown : s.vm.findClass RL = some m.cls := hown
  have hts : ∀ w ∈ wsL_law, w.before #[Value.ref b] s = true := fun w h => hts0 w (wsL_law_in w h)
  have hbA : ¬ (fun a : Nat => s.heap.size ≤ a) b := Nat.not_le.mpr hbl
  have hcm : 25 + k + 1 ≤ 1058 := by omega
  have hsm : 1025 + 6 * k + 6 ≤ 9271 := by omega
  have hc0 : 25 + k ≤ 1058 := by omega
  have hs0 : 1025 + 6 * k ≤ 9271 := by omega
  intro H locs hP hS ls hl
  unfold fL_law_J1989 at hf
  refine lv_aload_n hx hb dL_law_1989 rfl (lv_at hl 1 rfl) ?_
  refine lv_aload_n hx hb dL_law_1990 rfl (lv_at hl 0 rfl) ?_
  refine lv_iload hx hb dL_law_1991 (lv_at hl 5 rfl) ?_
  refine lv_iconst (v := (1 : Int32)) hx hb dL_law_1993 (by decide) ?_
  refine lv_iadd hx hb dL_law_1994 ?_
  obtain ⟨g_1, hf⟩ := gd_some hf
  refine va_sld hx hb hX hbl hbA hS (inb_in g_1) dL_law_1995 ?_
  refine lv_aload_n hx hb dL_law_1996 rfl (lv_at hl 0 rfl) ?_
  refine lv_iload hx hb dL_law_1997 (lv_at hl 5 rfl) ?_
  refine lv_iconst (v := (2 : Int32)) hx hb dL_law_1999 (by decide) ?_
  refine lv_iadd hx hb dL_law_2000 ?_
  obtain ⟨g_2, hf⟩ := gd_some hf
  refine va_sld hx hb hX hbl hbA hS (inb_in g_2) dL_law_2001 ?_
  refine lv_aload_n hx hb dL_law_2002 rfl (lv_at hl 3 rfl) ?_
  obtain ⟨⟨r2003, Ba2003, Oa2003⟩, hc, hf⟩ := bn_some hf
  try dsimp only at hf
  refine g_call (mc := 1) (ms := 6) (ws' := (w_0_1_2_3_4_5_6_7_8_9_10_11_12_13_14_15_16_17_18_19_20_21_22_23_24 q cI cJ cD Tn Ta Fn Fa Ba2003 Rn Ra Rb Rd Ua Wg Wz Ww Wr Mh Mn Mm Mt Mk Ms Me Mp Mw Ml My Oa2003 Od)) (st1 := [.int r2003]) hq [0, 1, 2, 3, 4, 5, 6, 7, 8, 9, 10, 11, 12, 13, 14, 15, 16, 17, 18, 19, 20, 21, 22, 23, 24] [0, 1, 2, 5, 6, 23] [.inl 0, .inl 1, .inl 2, .inr 3, .inr 4, .inl 3, .inl 4, .inr 7, .inr 8, .inr 9, .inr 10, .inr 11, .inr 12, .inr 13, .inr 14, .inr 15, .inr 16, .inr 17, .inr 18, .inr 19, .inr 20, .inr 21, .inr 22, .inl 5, .inr 24] (vx_runSW (As := [.ref (q 0), .int (xs ((x5 + (1 : Int32))).toNatClampNeg), .int (xs ((x5 + (2 : Int32))).toNatClampNeg), .ref (q 23)]) (rest := []) ⟨hx, hb, hml, hown, hts⟩ (kL_border l hlt D cI cJ cD sa q hq N Tn Ta Ba Oa (xs ((x5 + (1 : Int32))).toNatClampNeg) (xs ((x5 + (2 : Int32))).toNatClampNeg) r2003 Ba2003 Oa2003 hc) (vx_cwSW 4 hts gL_law_L_border rfl rfl rfl (by decide +kernel) ⟨(Nat.le_of_ble_eq_true rfl), (Nat.le_of_ble_eq_true rfl)⟩) ⟨gPx_blind, fun U hU hW => ⟨rfl, by rw [hU]; exact hP.sub (ws' := (w_0_1_2_5_6_23 q cI cJ cD Tn Ta Ba Oa)) [0, 1, 2, 5, 6, 23] rfl, gEv.warm hW hE, gXe.go hW hS (gMonoL hqA rfl) hXe hU⟩⟩ rfl rfl hl.1 rfl (lv_room (Nat.le_of_ble_eq_true rfl)) dL_law_2003 ⟨hcm, hsm⟩) hP hS (gSubL hqA rfl) rfl rfl rfl rfl rfl (fun H locs hP hS => ?_)
  refine lv_istore (lv' := [(6, .int r2003), (0, .ref b), (1, .ref (q 0)), (2, .ref (q 14)), (3, .ref (q 23)), (4, .ref (q 24)), (5, .int x5)]) hx hb dL_law_2006 hl (by decide) rfl (fun ls hl => ?_)
  refine lv_aload_n hx hb dL_law_2008 rfl (lv_at hl 3 rfl) ?_
  refine lv_aload_n hx hb dL_law_2009 rfl (lv_at hl 1 rfl) ?_
  refine lv_iload hx hb dL_law_2010 (lv_at hl 6 rfl) ?_
  refine lv_iconst (v := (1 : Int32)) hx hb dL_law_2012 (by decide) ?_
  refine lv_iadd hx hb dL_law_2013 ?_
  obtain ⟨g_3, hf⟩ := gd_some hf
  refine va_sld hx hb hX hbl hbA hS (inb_in g_3) dL_law_2014 ?_
  refine lv_aload_n hx hb dL_law_2015 rfl (lv_at hl 1 rfl) ?_
  refine lv_iload hx hb dL_law_2016 (lv_at hl 6 rfl) ?_
  refine lv_iconst (v := (2 : Int32)) hx hb dL_law_2018 (by decide) ?_
  refine lv_iadd hx hb dL_law_2019 ?_
  obtain ⟨g_4, hf⟩ := gd_some hf
  refine va_sld hx hb hX hbl hbA hS (inb_in g_4) dL_law_2020 ?_
  obtain ⟨⟨r2021, Mh2021⟩, hc, hf⟩ := bn_some hf
  try dsimp only at hf
  refine g_call0 (ws' := (w_0_1_2_3_4_5_6_7_8_9_10_11_12_13_14_15_16_17_18_19_20_21_22_23_24 q cI cJ cD Tn Ta Fn Fa Ba2003 Rn Ra Rb Rd Ua Wg Wz Ww Wr Mh2021 Mn Mm Mt Mk Ms Me Mp Mw Ml My Oa2003 Od)) (st1 := [.int r2021]) hq [0, 1, 2, 3, 4, 5, 6, 7, 8, 9, 10, 11, 12, 13, 14, 15, 16, 17, 18, 19, 20, 21, 22, 23, 24] [14, 15] [.inr 0, .inr 1, .inr 2, .inr 3, .inr 4, .inr 5, .inr 6, .inr 7, .inr 8, .inr 9, .inr 10, .inr 11, .inr 12, .inr 13, .inl 0, .inl 1, .inr 16, .inr 17, .inr 18, .inr 19, .inr 20, .inr 21, .inr 22, .inr 23, .inr 24] (va_runV (As := [.int (xs ((x5 + (1 : Int32))).toNatClampNeg), .int (xs ((x5 + (2 : Int32))).toNatClampNeg)]) (rest := []) ⟨hx, hb, hml, hown, hts⟩ (kX9_border l D cI cJ cD q hq N Mh Mn Mm Mt (xs ((x5 + (1 : Int32))).toNatClampNeg) (xs ((x5 + (2 : Int32))).toNatClampNeg) r2021 Mh2021 hc) (cwV 2 hts gL_law_X9_border rfl rfl rfl (by decide +kernel) ⟨(Nat.le_of_ble_eq_true rfl), (Nat.le_of_ble_eq_true rfl)⟩) ⟨gP_blind, va_recv hE.1 hP (ci := 7) (q0 := 14) rfl rfl, fun U hU hW => ⟨rfl, by rw [hU]; exact hP.sub (ws' := (w_14_15 q cI cJ cD Mh Mn Mm Mt)) [14, 15] rfl, gEv.warm hW hE⟩⟩ rfl rfl hl.1 rfl (lv_room (Nat.le_of_ble_eq_true rfl)) dL_law_2021 ⟨hcm, hsm⟩) hP hS (gSubL hqA rfl) rfl rfl rfl rfl rfl (fun H locs hP hS => ?_)
  refine lv_istore (lv' := [(7, .int r2021), (6, .int r2003), (0, .ref b), (1, .ref (q 0)), (2, .ref (q 14)), (3, .ref (q 23)), (4, .ref (q 24)), (5, .int x5)]) hx hb dL_law_2024 hl (by decide) rfl (fun ls hl => ?_)
  refine lv_aload_n hx hb dL_law_2026 rfl (lv_at hl 4 rfl) ?_
  obtain ⟨r2027, hc, hf⟩ := bn_some hf
  try dsimp only at hf
  refine g_call0 (ws' := (w_0_1_2_3_4_5_6_7_8_9_10_11_12_13_14_15_16_17_18_19_20_21_22_23_24 q cI cJ cD Tn Ta Fn Fa Ba2003 Rn Ra Rb Rd Ua Wg Wz Ww Wr Mh2021 Mn Mm Mt Mk Ms Me Mp Mw Ml My Oa2003 Od)) (st1 := [.int r2027]) hq [0, 1, 2, 3, 4, 5, 6, 7, 8, 9, 10, 11, 12, 13, 14, 15, 16, 17, 18, 19, 20, 21, 22, 23, 24] [14] [.inr 0, .inr 1, .inr 2, .inr 3, .inr 4, .inr 5, .inr 6, .inr 7, .inr 8, .inr 9, .inr 10, .inr 11, .inr 12, .inr 13, .inl 0, .inr 15, .inr 16, .inr 17, .inr 18, .inr 19, .inr 20, .inr 21, .inr 22, .inr 23, .inr 24] (va_runV (As := []) (rest := []) ⟨hx, hb, hml, hown, hts⟩ (kX9_thrown l D cI cJ cD q hq N Mh2021 Mn Mm r2027 hc) (cwV 0 hts gL_law_X9_thrown rfl rfl rfl (by decide +kernel) ⟨(Nat.le_of_ble_eq_true rfl), (Nat.le_of_ble_eq_true rfl)⟩) ⟨gP_blind, va_recv hE.1 hP (ci := 7) (q0 := 14) rfl rfl, fun U hU hW => ⟨rfl, by rw [hU]; exact hP.sub (ws' := (w_14 q cI cJ cD Mh2021 Mn Mm)) [14] rfl, gEv.warm hW hE⟩⟩ rfl rfl hl.1 rfl (lv_room (Nat.le_of_ble_eq_true rfl)) dL_law_2027 ⟨hcm, hsm⟩) hP hS (gSubL hqA rfl) rfl rfl rfl rfl rfl (fun H locs hP hS => ?_)
  refine lv_iload hx hb dL_law_2030 (lv_at hl 1 rfl) ?_
  refine lv_icmp_eq (tgt := 2037) hx hb dL_law_2032 (by decide) (fun c_5 => ?_) (fun c_5 => ?_)
  · have hf := (if_pos c_5).symm.trans hf
    refine lv_iload hx hb dL_law_2037 (lv_at hl 1 rfl) ?_
    refine lv_if_ne (tgt := 2054) hx hb dL_law_2039 (by decide) (fun c_6 => ?_) (fun c_6 => ?_)
    · have hf := (if_neg c_6).symm.trans hf
      exact law_J2054 hL C0 hlt D cI cJ cD sa q hq hqA hE hXe N k h5 k28 ih Tn Ta Fn Fa Ba2003 Rn Ra Rb Rd Ua Wg Wz Ww Wr Mh2021 Mn Mm Mt Mk Ms Me Mp Mw Ml My Oa2003 Od x5 hx5 hf _ _ hP hS _ (lv_sub hl [2, 3, 4, 5, 6, 7] rfl)
    · have hf := (if_pos c_6).symm.trans hf
      refine lv_aload_n hx hb dL_law_2042 rfl (lv_at hl 5 rfl) ?_
      refine lv_iconst (v := (0 : Int32)) hx hb dL_law_2043 (by decide) ?_
      obtain ⟨g_7, hf⟩ := gd_some hf
      refine va_lald hx hb hE.1 hP 23 1 rfl rfl (inb_in g_7) dL_law_2044 ?_
      refine lv_iload hx hb dL_law_2045 (lv_at hl 0 rfl) ?_
      refine lv_i2l (v := (r2021).toInt64) hx hb dL_law_2047 rfl ?_
      refine W.lcmp hx hb dL_law_2048 ?_
      refine lv_if_eq (tgt := 2054) hx hb dL_law_2049 (by decide) (fun c_8 => ?_) (fun c_8 => ?_)
      · have hf := (if_pos c_8).symm.trans hf
        exact law_J2054 hL C0 hlt D cI cJ cD sa q hq hqA hE hXe N k h5 k28 ih Tn Ta Fn Fa Ba2003 Rn Ra Rb Rd Ua Wg Wz Ww Wr Mh2021 Mn Mm Mt Mk Ms Me Mp Mw Ml My Oa2003 Od x5 hx5 hf _ _ hP hS _ (lv_sub hl [2, 3, 4, 5, 6, 7] rfl)
      · have hf := (if_neg c_8).symm.trans hf
        exact law_J2052 hL C0 hlt D cI cJ cD sa q hq hqA hE hXe N k (by omega) Tn Ta Fn Fa Ba2003 Rn Ra Rb Rd Ua Wg Wz Ww Wr Mh2021 Mn Mm Mt Mk Ms Me Mp Mw Ml My Oa2003 Od hf _ _ hP hS _ (lv_sub hl [] rfl)
  · have hf := (if_neg c_5).symm.trans hf
    exact law_J2035 hL C0 hlt D cI cJ cD sa q hq hqA hE hXe N k (by omega) Tn Ta Fn Fa Ba2003 Rn Ra Rb Rd Ua Wg Wz Ww Wr Mh2021 Mn Mm Mt Mk Ms Me Mp Mw Ml My Oa2003 Od hf _ _ hP hS _ (lv_sub hl [] rfl)
set_option maxHeartbeats 4000000 in
set_option maxRecDepth 100000 in
theorem law_J2122 {p : Program} {l : Launch} {e : Env} {s : State} {m : MethodId} {below : List Frame} {meth : Method} {c : Code} {b L : Nat} {xs : Nat → Int32} (hL : L ≤ 2560) (C0 : lw_At p s m meth c b L xs) (hlt : l.stackTraces = false) (D : va_G) (cI cJ cD : ClassId) (sa : Nat → Nat) (q : Nat → Nat) (hq : gInj q) (hqA : ∀ k, k < 25 → s.heap.size ≤ q k) (hE : gEv D cI cJ cD s) (hXe : gXe sa (fun a => s.heap.size ≤ a) s s.heap) (N : Nat) (k : Nat) (h5 : 5 * k + 5 ≤ L) (k28 : Int32 → (Nat → Int32) → Int32 → (Nat → Int32) → (Nat → Int32) → Int32 → (Nat → Int32) → (Nat → Int32) → (Nat → Int32) → (Nat → Int32) → Int32 → Int32 → Int32 → Int32 → Int32 → Int32 → Int32 → (Nat → Int32) → (Nat → Int32) → (Nat → Int32) → (Nat → Int32) → (Nat → Int32) → (Nat → Int32) → (Nat → Int32) → (Nat → Int64) → (Nat → Int64) → (Nat → UInt64) → Int32 → Option Int32) (ih : lawIH p l e s m below meth c b D cI cJ cD q k k28) (Tn : Int32) (Ta : (Nat → Int32)) (Fn : Int32) (Fa : (Nat → Int32)) (Ba : (Nat → Int32)) (Rn : Int32) (Ra : (Nat → Int32)) (Rb : (Nat → Int32)) (Rd : (Nat → Int32)) (Ua : (Nat → Int32)) (Wg : Int32) (Wz : Int32) (Ww : Int32) (Wr : Int32) (Mh : Int32) (Mn : Int32) (Mm : Int32) (Mt : (Nat → Int32)) (Mk : (Nat → Int32)) (Ms : (Nat → Int32)) (Me : (Nat → Int32)) (Mp : (Nat → Int32)) (Mw : (Nat → Int32)) (Ml : (Nat → Int32)) (My : (Nat → Int64)) (Oa : (Nat → Int64)) (Od : (Nat → UInt64)) (x5 : Int32) (hx5 : x5 = nI (5 * k)) (hf : fL_law_J2122 N L xs k28 Tn Ta Fn Fa Ba Rn Ra Rb Rd Ua Wg Wz Ww Wr Mh Mn Mm Mt Mk Ms Me Mp Mw Ml My Oa Od x5 = some 1) : ∀ (H : Heap) (locs : List Loc), va_P D vwCl (w_0_1_2_3_4_5_6_7_8_9_10_11_12_13_14_15_16_17_18_19_20_21_22_23_24 q cI cJ cD Tn Ta Fn Fa Ba Rn Ra Rb Rd Ua Wg Wz Ww Wr Mh Mn Mm Mt Mk Ms Me Mp Mw Ml My Oa Od) H → va_S (fun a : Nat => s.heap.size ≤ a) s.heap H locs → ∀ ls : Array Slot, lv_has ls 10 [(0, .ref b), (1, .ref (q 0)), (2, .ref (q 14)), (3, .ref (q 23)), (4, .ref (q 24)), (5, .int x5)] → W p l e room_1 s m #[Value.ref b] below meth c H locs (25 + k + 1) (1025 + 6 * k + 6) (lw_Z below #[Value.ref b] s) (F0 m 2122 ls []) := by
  obtain ⟨hx, hb, hr, hml, hown, hts0, hX, hbl, hlocks, hgv⟩ := id C0
  have hown : s.vm.findClass RL = some m.cls := hown
  have hts : ∀ w ∈ wsL_law, w.before #[Value.ref b] s = true := fun w h => hts0 w (wsL_law_in w h)
  have hbA : ¬ (fun a : Nat => s.heap.size ≤ a) b := Nat.not_le.mpr hbl
  have hcm : 25 + k + 1 ≤ 1058 := by omega
  have hsm : 1025 + 6 * k + 6 ≤ 9271 := by omega
  have hc0 : 25 + k ≤ 1058 := by omega
  have hs0 : 1025 + 6 * k ≤ 9271 := by omega
  intro H locs hP hS ls hl
  unfold fL_law_J2122 at hf
  refine lv_goto (tgt := 2831) hx hb dL_law_2122 (by decide) ?_
  exact law_J2831 hL C0 hlt D cI cJ cD sa q hq hqA hE hXe N k h5 k28 ih Tn Ta Fn Fa Ba Rn Ra Rb Rd Ua Wg Wz Ww Wr Mh Mn Mm Mt Mk Ms Me Mp Mw Ml My Oa Od x5 hx5 hf _ _ hP hS _ (lv_sub hl [0, 1, 2, 3, 4, 5] rfl)
set_option maxHeartbeats 4000000 in
set_option maxRecDepth 100000 in
theorem law_J2057 {p : Program} {l : Launch} {e : Env} {s : State} {m : MethodId} {below : List Frame} {meth : Method} {c : Code} {b L : Nat} {xs : Nat → Int32} (hL : L ≤ 2560) (C0 : lw_At p s m meth c b L xs) (hlt : l.stackTraces = false) (D : va_G) (cI cJ cD : ClassId) (sa : Nat → Nat) (q : Nat → Nat) (hq : gInj q) (hqA : ∀ k, k < 25 → s.heap.size ≤ q k) (hE : gEv D cI cJ cD s) (hXe : gXe sa (fun a => s.heap.size ≤ a) s s.heap) (N : Nat) (k : Nat) (h5 : 5 * k + 5 ≤ L) (k28 : Int32 → (Nat → Int32) → Int32 → (Nat → Int32) → (Nat → Int32) → Int32 → (Nat → Int32) → (Nat → Int32) → (Nat → Int32) → (Nat → Int32) → Int32 → Int32 → Int32 → Int32 → Int32 → Int32 → Int32 → (Nat → Int32) → (Nat → Int32) → (Nat → Int32) → (Nat → Int32) → (Nat → Int32) → (Nat → Int32) → (Nat → Int32) → (Nat → Int64) → (Nat → Int64) → (Nat → UInt64) → Int32 → Option Int32) (ih : lawIH p l e s m below meth c b D cI cJ cD q k k28) (Tn : Int32) (Ta : (Nat → Int32)) (Fn : Int32) (Fa : (Nat → Int32)) (Ba : (Nat → Int32)) (Rn : Int32) (Ra : (Nat → Int32)) (Rb : (Nat → Int32)) (Rd : (Nat → Int32)) (Ua : (Nat → Int32)) (Wg : Int32) (Wz : Int32) (Ww : Int32) (Wr : Int32) (Mh : Int32) (Mn : Int32) (Mm : Int32) (Mt : (Nat → Int32)) (Mk : (Nat → Int32)) (Ms : (Nat → Int32)) (Me : (Nat → Int32)) (Mp : (Nat → Int32)) (Mw : (Nat → Int32)) (Ml : (Nat → Int32)) (My : (Nat → Int64)) (Oa : (Nat → Int64)) (Od : (Nat → UInt64)) (x5 : Int32) (hx5 : x5 = nI (5 * k)) (hf : fL_law_J2057 N L xs k28 Tn Ta Fn Fa Ba Rn Ra Rb Rd Ua Wg Wz Ww Wr Mh Mn Mm Mt Mk Ms Me Mp Mw Ml My Oa Od x5 = some 1) : ∀ (H : Heap) (locs : List Loc), va_P D vwCl (w_0_1_2_3_4_5_6_7_8_9_10_11_12_13_14_15_16_17_18_19_20_21_22_23_24 q cI cJ cD Tn Ta Fn Fa Ba Rn Ra Rb Rd Ua Wg Wz Ww Wr Mh Mn Mm Mt Mk Ms Me Mp Mw Ml My Oa Od) H → va_S (fun a : Nat => s.heap.size ≤ a) s.heap H locs → ∀ ls : Array Slot, lv_has ls 10 [(0, .ref b), (1, .ref (q 0)), (2, .ref (q 14)), (3, .ref (q 23)), (4, .ref (q 24)), (5, .int x5)] → W p l e room_1 s m #[Value.ref b] below meth c H locs (25 + k) (1025 + 6 * k) (lw_Z below #[Value.ref b] s) (F0 m 2057 ls []) := by
  obtain ⟨hx, hb, hr, hml, hown, hts0, hX, hbl, hlocks, hgv⟩ := id C0
  have hown : s.vm.findClass RL = some m.cls := hown
  have hts : ∀ w ∈ wsL_law, w.before #[Value.ref b] s = true := fun w h => hts0 w (wsL_law_in w h)
  have hbA : ¬ (fun a : Nat => s.heap.size ≤ a) b := Nat.not_le.mpr hbl
  have hcm : 25 + k + 1 ≤ 1058 := by omega
  have hsm : 1025 + 6 * k + 6 ≤ 9271 := by omega
  have hc0 : 25 + k ≤ 1058 := by omega
  have hs0 : 1025 + 6 * k ≤ 9271 := by omega
  intro H locs hP hS ls hl
  unfold fL_law_J2057 at hf
  refine lv_aload_n hx hb dL_law_2057 rfl (lv_at hl 1 rfl) ?_
  refine lv_aload_n hx hb dL_law_2058 rfl (lv_at hl 0 rfl) ?_
  refine lv_iload hx hb dL_law_2059 (lv_at hl 5 rfl) ?_
  refine lv_iconst (v := (1 : Int32)) hx hb dL_law_2061 (by decide) ?_
  refine lv_iadd hx hb dL_law_2062 ?_
  obtain ⟨g_1, hf⟩ := gd_some hf
  refine va_sld hx hb hX hbl hbA hS (inb_in g_1) dL_law_2063 ?_
  refine lv_aload_n hx hb dL_law_2064 rfl (lv_at hl 0 rfl) ?_
  refine lv_iload hx hb dL_law_2065 (lv_at hl 5 rfl) ?_
  refine lv_iconst (v := (2 : Int32)) hx hb dL_law_2067 (by decide) ?_
  refine lv_iadd hx hb dL_law_2068 ?_
  obtain ⟨g_2, hf⟩ := gd_some hf
  refine va_sld hx hb hX hbl hbA hS (inb_in g_2) dL_law_2069 ?_
  refine lv_aload_n hx hb dL_law_2070 rfl (lv_at hl 3 rfl) ?_
  obtain ⟨⟨r2071, Ba2071, Oa2071⟩, hc, hf⟩ := bn_some hf
  try dsimp only at hf
  refine g_call (mc := 1) (ms := 6) (ws' := (w_0_1_2_3_4_5_6_7_8_9_10_11_12_13_14_15_16_17_18_19_20_21_22_23_24 q cI cJ cD Tn Ta Fn Fa Ba2071 Rn Ra Rb Rd Ua Wg Wz Ww Wr Mh Mn Mm Mt Mk Ms Me Mp Mw Ml My Oa2071 Od)) (st1 := [.int r2071]) hq [0, 1, 2, 3, 4, 5, 6, 7, 8, 9, 10, 11, 12, 13, 14, 15, 16, 17, 18, 19, 20, 21, 22, 23, 24] [0, 1, 2, 5, 6, 23] [.inl 0, .inl 1, .inl 2, .inr 3, .inr 4, .inl 3, .inl 4, .inr 7, .inr 8, .inr 9, .inr 10, .inr 11, .inr 12, .inr 13, .inr 14, .inr 15, .inr 16, .inr 17, .inr 18, .inr 19, .inr 20, .inr 21, .inr 22, .inl 5, .inr 24] (vx_runSW (As := [.ref (q 0), .int (xs ((x5 + (1 : Int32))).toNatClampNeg), .int (xs ((x5 + (2 : Int32))).toNatClampNeg), .ref (q 23)]) (rest := []) ⟨hx, hb, hml, hown, hts⟩ (kL_rootLength l hlt D cI cJ cD sa q hq N Tn Ta Ba Oa (xs ((x5 + (1 : Int32))).toNatClampNeg) (xs ((x5 + (2 : Int32))).toNatClampNeg) r2071 Ba2071 Oa2071 hc) (vx_cwSW 4 hts gL_law_L_rootLength rfl rfl rfl (by decide +kernel) ⟨(Nat.le_of_ble_eq_true rfl), (Nat.le_of_ble_eq_true rfl)⟩) ⟨gPx_blind, fun U hU hW => ⟨rfl, by rw [hU]; exact hP.sub (ws' := (w_0_1_2_5_6_23 q cI cJ cD Tn Ta Ba Oa)) [0, 1, 2, 5, 6, 23] rfl, gEv.warm hW hE, gXe.go hW hS (gMonoL hqA rfl) hXe hU⟩⟩ rfl rfl hl.1 rfl (lv_room (Nat.le_of_ble_eq_true rfl)) dL_law_2071 ⟨hcm, hsm⟩) hP hS (gSubL hqA rfl) rfl rfl rfl rfl rfl (fun H locs hP hS => ?_)
  refine lv_istore (lv' := [(6, .int r2071), (0, .ref b), (1, .ref (q 0)), (2, .ref (q 14)), (3, .ref (q 23)), (4, .ref (q 24)), (5, .int x5)]) hx hb dL_law_2074 hl (by decide) rfl (fun ls hl => ?_)
  refine lv_aload_n hx hb dL_law_2076 rfl (lv_at hl 3 rfl) ?_
  refine lv_aload_n hx hb dL_law_2077 rfl (lv_at hl 1 rfl) ?_
  refine lv_iload hx hb dL_law_2078 (lv_at hl 6 rfl) ?_
  refine lv_iconst (v := (1 : Int32)) hx hb dL_law_2080 (by decide) ?_
  refine lv_iadd hx hb dL_law_2081 ?_
  obtain ⟨g_3, hf⟩ := gd_some hf
  refine va_sld hx hb hX hbl hbA hS (inb_in g_3) dL_law_2082 ?_
  refine lv_aload_n hx hb dL_law_2083 rfl (lv_at hl 1 rfl) ?_
  refine lv_iload hx hb dL_law_2084 (lv_at hl 6 rfl) ?_
  refine lv_iconst (v := (2 : Int32)) hx hb dL_law_2086 (by decide) ?_
  refine lv_iadd hx hb dL_law_2087 ?_
  obtain ⟨g_4, hf⟩ := gd_some hf
  refine va_sld hx hb hX hbl hbA hS (inb_in g_4) dL_law_2088 ?_
  obtain ⟨⟨r2089, Mh2089⟩, hc, hf⟩ := bn_some hf
  try dsimp only at hf
  refine g_call0 (ws' := (w_0_1_2_3_4_5_6_7_8_9_10_11_12_13_14_15_16_17_18_19_20_21_22_23_24 q cI cJ cD Tn Ta Fn Fa Ba2071 Rn Ra Rb Rd Ua Wg Wz Ww Wr Mh2089 Mn Mm Mt Mk Ms Me Mp Mw Ml My Oa2071 Od)) (st1 := [.int r2089]) hq [0, 1, 2, 3, 4, 5, 6, 7, 8, 9, 10, 11, 12, 13, 14, 15, 16, 17, 18, 19, 20, 21, 22, 23, 24] [14, 15] [.inr 0, .inr 1, .inr 2, .inr 3, .inr 4, .inr 5, .inr 6, .inr 7, .inr 8, .inr 9, .inr 10, .inr 11, .inr 12, .inr 13, .inl 0, .inl 1, .inr 16, .inr 17, .inr 18, .inr 19, .inr 20, .inr 21, .inr 22, .inr 23, .inr 24] (va_runV (As := [.int (xs ((x5 + (1 : Int32))).toNatClampNeg), .int (xs ((x5 + (2 : Int32))).toNatClampNeg)]) (rest := []) ⟨hx, hb, hml, hown, hts⟩ (kX9_rootLength l D cI cJ cD q hq N Mh Mn Mm Mt (xs ((x5 + (1 : Int32))).toNatClampNeg) (xs ((x5 + (2 : Int32))).toNatClampNeg) r2089 Mh2089 hc) (cwV 2 hts gL_law_X9_rootLength rfl rfl rfl (by decide +kernel) ⟨(Nat.le_of_ble_eq_true rfl), (Nat.le_of_ble_eq_true rfl)⟩) ⟨gP_blind, va_recv hE.1 hP (ci := 7) (q0 := 14) rfl rfl, fun U hU hW => ⟨rfl, by rw [hU]; exact hP.sub (ws' := (w_14_15 q cI cJ cD Mh Mn Mm Mt)) [14, 15] rfl, gEv.warm hW hE⟩⟩ rfl rfl hl.1 rfl (lv_room (Nat.le_of_ble_eq_true rfl)) dL_law_2089 ⟨hcm, hsm⟩) hP hS (gSubL hqA rfl) rfl rfl rfl rfl rfl (fun H locs hP hS => ?_)
  refine lv_istore (lv' := [(7, .int r2089), (6, .int r2071), (0, .ref b), (1, .ref (q 0)), (2, .ref (q 14)), (3, .ref (q 23)), (4, .ref (q 24)), (5, .int x5)]) hx hb dL_law_2092 hl (by decide) rfl (fun ls hl => ?_)
  refine lv_aload_n hx hb dL_law_2094 rfl (lv_at hl 4 rfl) ?_
  obtain ⟨r2095, hc, hf⟩ := bn_some hf
  try dsimp only at hf
  refine g_call0 (ws' := (w_0_1_2_3_4_5_6_7_8_9_10_11_12_13_14_15_16_17_18_19_20_21_22_23_24 q cI cJ cD Tn Ta Fn Fa Ba2071 Rn Ra Rb Rd Ua Wg Wz Ww Wr Mh2089 Mn Mm Mt Mk Ms Me Mp Mw Ml My Oa2071 Od)) (st1 := [.int r2095]) hq [0, 1, 2, 3, 4, 5, 6, 7, 8, 9, 10, 11, 12, 13, 14, 15, 16, 17, 18, 19, 20, 21, 22, 23, 24] [14] [.inr 0, .inr 1, .inr 2, .inr 3, .inr 4, .inr 5, .inr 6, .inr 7, .inr 8, .inr 9, .inr 10, .inr 11, .inr 12, .inr 13, .inl 0, .inr 15, .inr 16, .inr 17, .inr 18, .inr 19, .inr 20, .inr 21, .inr 22, .inr 23, .inr 24] (va_runV (As := []) (rest := []) ⟨hx, hb, hml, hown, hts⟩ (kX9_thrown l D cI cJ cD q hq N Mh2089 Mn Mm r2095 hc) (cwV 0 hts gL_law_X9_thrown rfl rfl rfl (by decide +kernel) ⟨(Nat.le_of_ble_eq_true rfl), (Nat.le_of_ble_eq_true rfl)⟩) ⟨gP_blind, va_recv hE.1 hP (ci := 7) (q0 := 14) rfl rfl, fun U hU hW => ⟨rfl, by rw [hU]; exact hP.sub (ws' := (w_14 q cI cJ cD Mh2089 Mn Mm)) [14] rfl, gEv.warm hW hE⟩⟩ rfl rfl hl.1 rfl (lv_room (Nat.le_of_ble_eq_true rfl)) dL_law_2095 ⟨hcm, hsm⟩) hP hS (gSubL hqA rfl) rfl rfl rfl rfl rfl (fun H locs hP hS => ?_)
  refine lv_iload hx hb dL_law_2098 (lv_at hl 1 rfl) ?_
  refine lv_icmp_eq (tgt := 2105) hx hb dL_law_2100 (by decide) (fun c_5 => ?_) (fun c_5 => ?_)
  · have hf := (if_pos c_5).symm.trans hf
    refine lv_iload hx hb dL_law_2105 (lv_at hl 1 rfl) ?_
    refine lv_if_ne (tgt := 2122) hx hb dL_law_2107 (by decide) (fun c_6 => ?_) (fun c_6 => ?_)
    · have hf := (if_neg c_6).symm.trans hf
      exact law_J2122 hL C0 hlt D cI cJ cD sa q hq hqA hE hXe N k h5 k28 ih Tn Ta Fn Fa Ba2071 Rn Ra Rb Rd Ua Wg Wz Ww Wr Mh2089 Mn Mm Mt Mk Ms Me Mp Mw Ml My Oa2071 Od x5 hx5 hf _ _ hP hS _ (lv_sub hl [2, 3, 4, 5, 6, 7] rfl)
    · have hf := (if_pos c_6).symm.trans hf
      refine lv_aload_n hx hb dL_law_2110 rfl (lv_at hl 5 rfl) ?_
      refine lv_iconst (v := (0 : Int32)) hx hb dL_law_2111 (by decide) ?_
      obtain ⟨g_7, hf⟩ := gd_some hf
      refine va_lald hx hb hE.1 hP 23 1 rfl rfl (inb_in g_7) dL_law_2112 ?_
      refine lv_iload hx hb dL_law_2113 (lv_at hl 0 rfl) ?_
      refine lv_i2l (v := (r2089).toInt64) hx hb dL_law_2115 rfl ?_
      refine W.lcmp hx hb dL_law_2116 ?_
      refine lv_if_eq (tgt := 2122) hx hb dL_law_2117 (by decide) (fun c_8 => ?_) (fun c_8 => ?_)
      · have hf := (if_pos c_8).symm.trans hf
        exact law_J2122 hL C0 hlt D cI cJ cD sa q hq hqA hE hXe N k h5 k28 ih Tn Ta Fn Fa Ba2071 Rn Ra Rb Rd Ua Wg Wz Ww Wr Mh2089 Mn Mm Mt Mk Ms Me Mp Mw Ml My Oa2071 Od x5 hx5 hf _ _ hP hS _ (lv_sub hl [2, 3, 4, 5, 6, 7] rfl)
      · have hf := (if_neg c_8).symm.trans hf
        exact law_J2120 hL C0 hlt D cI cJ cD sa q hq hqA hE hXe N k (by omega) Tn Ta Fn Fa Ba2071 Rn Ra Rb Rd Ua Wg Wz Ww Wr Mh2089 Mn Mm Mt Mk Ms Me Mp Mw Ml My Oa2071 Od hf _ _ hP hS _ (lv_sub hl [] rfl)
  · have hf := (if_neg c_5).symm.trans hf
    exact law_J2103 hL C0 hlt D cI cJ cD sa q hq hqA hE hXe N k (by omega) Tn Ta Fn Fa Ba2071 Rn Ra Rb Rd Ua Wg Wz Ww Wr Mh2089 Mn Mm Mt Mk Ms Me Mp Mw Ml My Oa2071 Od hf _ _ hP hS _ (lv_sub hl [] rfl)
set_option maxHeartbeats 4000000 in
set_option maxRecDepth 100000 in
theorem law_J2211 {p : Program} {l : Launch} {e : Env} {s : State} {m : MethodId} {below : List Frame} {meth : Method} {c : Code} {b L : Nat} {xs : Nat → Int32} (hL : L ≤ 2560) (C0 : lw_At p s m meth c b L xs) (hlt : l.stackTraces = false) (D : va_G) (cI cJ cD : ClassId) (sa : Nat → Nat) (q : Nat → Nat) (hq : gInj q) (hqA : ∀ k, k < 25 → s.heap.size ≤ q k) (hE : gEv D cI cJ cD s) (hXe : gXe sa (fun a => s.heap.size ≤ a) s s.heap) (N : Nat) (k : Nat) (h5 : 5 * k + 5 ≤ L) (k28 : Int32 → (Nat → Int32) → Int32 → (Nat → Int32) → (Nat → Int32) → Int32 → (Nat → Int32) → (Nat → Int32) → (Nat → Int32) → (Nat → Int32) → Int32 → Int32 → Int32 → Int32 → Int32 → Int32 → Int32 → (Nat → Int32) → (Nat → Int32) → (Nat → Int32) → (Nat → Int32) → (Nat → Int32) → (Nat → Int32) → (Nat → Int32) → (Nat → Int64) → (Nat → Int64) → (Nat → UInt64) → Int32 → Option Int32) (ih : lawIH p l e s m below meth c b D cI cJ cD q k k28) (Tn : Int32) (Ta : (Nat → Int32)) (Fn : Int32) (Fa : (Nat → Int32)) (Ba : (Nat → Int32)) (Rn : Int32) (Ra : (Nat → Int32)) (Rb : (Nat → Int32)) (Rd : (Nat → Int32)) (Ua : (Nat → Int32)) (Wg : Int32) (Wz : Int32) (Ww : Int32) (Wr : Int32) (Mh : Int32) (Mn : Int32) (Mm : Int32) (Mt : (Nat → Int32)) (Mk : (Nat → Int32)) (Ms : (Nat → Int32)) (Me : (Nat → Int32)) (Mp : (Nat → Int32)) (Mw : (Nat → Int32)) (Ml : (Nat → Int32)) (My : (Nat → Int64)) (Oa : (Nat → Int64)) (Od : (Nat → UInt64)) (x5 : Int32) (hx5 : x5 = nI (5 * k)) (hf : fL_law_J2211 N L xs k28 Tn Ta Fn Fa Ba Rn Ra Rb Rd Ua Wg Wz Ww Wr Mh Mn Mm Mt Mk Ms Me Mp Mw Ml My Oa Od x5 = some 1) : ∀ (H : Heap) (locs : List Loc), va_P D vwCl (w_0_1_2_3_4_5_6_7_8_9_10_11_12_13_14_15_16_17_18_19_20_21_22_23_24 q cI cJ cD Tn Ta Fn Fa Ba Rn Ra Rb Rd Ua Wg Wz Ww Wr Mh Mn Mm Mt Mk Ms Me Mp Mw Ml My Oa Od) H → va_S (fun a : Nat => s.heap.size ≤ a) s.heap H locs → ∀ ls : Array Slot, lv_has ls 10 [(0, .ref b), (1, .ref (q 0)), (2, .ref (q 14)), (3, .ref (q 23)), (4, .ref (q 24)), (5, .int x5)] → W p l e room_1 s m #[Value.ref b] below meth c H locs (25 + k + 1) (1025 + 6 * k + 6) (lw_Z below #[Value.ref b] s) (F0 m 2211 ls []) := by
  obtain ⟨hx, hb, hr, hml, hown, hts0, hX, hbl, hlocks, hgv⟩ := id C0
  have hown : s.vm.findClass RL = some m.cls := hown
  have hts : ∀ w ∈ wsL_law, w.before #[Value.ref b] s = true := fun w h => hts0 w (wsL_law_in w h)
  have hbA : ¬ (fun a : Nat => s.heap.size ≤ a) b := Nat.not_le.mpr hbl
  have hcm : 25 + k + 1 ≤ 1058 := by omega
  have hsm : 1025 + 6 * k + 6 ≤ 9271 := by omega
  have hc0 : 25 + k ≤ 1058 := by omega
  have hs0 : 1025 + 6 * k ≤ 9271 := by omega
  intro H locs hP hS ls hl
  unfold fL_law_J2211 at hf
  refine lv_goto (tgt := 2831) hx hb dL_law_2211 (by decide) ?_
  exact law_J2831 hL C0 hlt D cI cJ cD sa q hq hqA hE hXe N k h5 k28 ih Tn Ta Fn Fa Ba Rn Ra Rb Rd Ua Wg Wz Ww Wr Mh Mn Mm Mt Mk Ms Me Mp Mw Ml My Oa Od x5 hx5 hf _ _ hP hS _ (lv_sub hl [0, 1, 2, 3, 4, 5] rfl)
set_option maxHeartbeats 4000000 in
set_option maxRecDepth 100000 in
theorem law_J2125 {p : Program} {l : Launch} {e : Env} {s : State} {m : MethodId} {below : List Frame} {meth : Method} {c : Code} {b L : Nat} {xs : Nat → Int32} (hL : L ≤ 2560) (C0 : lw_At p s m meth c b L xs) (hlt : l.stackTraces = false) (D : va_G) (cI cJ cD : ClassId) (sa : Nat → Nat) (q : Nat → Nat) (hq : gInj q) (hqA : ∀ k, k < 25 → s.heap.size ≤ q k) (hE : gEv D cI cJ cD s) (hXe : gXe sa (fun a => s.heap.size ≤ a) s s.heap) (N : Nat) (k : Nat) (h5 : 5 * k + 5 ≤ L) (k28 : Int32 → (Nat → Int32) → Int32 → (Nat → Int32) → (Nat → Int32) → Int32 → (Nat → Int32) → (Nat → Int32) → (Nat → Int32) → (Nat → Int32) → Int32 → Int32 → Int32 → Int32 → Int32 → Int32 → Int32 → (Nat → Int32) → (Nat → Int32) → (Nat → Int32) → (Nat → Int32) → (Nat → Int32) → (Nat → Int32) → (Nat → Int32) → (Nat → Int64) → (Nat → Int64) → (Nat → UInt64) → Int32 → Option Int32) (ih : lawIH p l e s m below meth c b D cI cJ cD q k k28) (Tn : Int32) (Ta : (Nat → Int32)) (Fn : Int32) (Fa : (Nat → Int32)) (Ba : (Nat → Int32)) (Rn : Int32) (Ra : (Nat → Int32)) (Rb : (Nat → Int32)) (Rd : (Nat → Int32)) (Ua : (Nat → Int32)) (Wg : Int32) (Wz : Int32) (Ww : Int32) (Wr : Int32) (Mh : Int32) (Mn : Int32) (Mm : Int32) (Mt : (Nat → Int32)) (Mk : (Nat → Int32)) (Ms : (Nat → Int32)) (Me : (Nat → Int32)) (Mp : (Nat → Int32)) (Mw : (Nat → Int32)) (Ml : (Nat → Int32)) (My : (Nat → Int64)) (Oa : (Nat → Int64)) (Od : (Nat → UInt64)) (x5 : Int32) (hx5 : x5 = nI (5 * k)) (hf : fL_law_J2125 N L xs k28 Tn Ta Fn Fa Ba Rn Ra Rb Rd Ua Wg Wz Ww Wr Mh Mn Mm Mt Mk Ms Me Mp Mw Ml My Oa Od x5 = some 1) : ∀ (H : Heap) (locs : List Loc), va_P D vwCl (w_0_1_2_3_4_5_6_7_8_9_10_11_12_13_14_15_16_17_18_19_20_21_22_23_24 q cI cJ cD Tn Ta Fn Fa Ba Rn Ra Rb Rd Ua Wg Wz Ww Wr Mh Mn Mm Mt Mk Ms Me Mp Mw Ml My Oa Od) H → va_S (fun a : Nat => s.heap.size ≤ a) s.heap H locs → ∀ ls : Array Slot, lv_has ls 10 [(0, .ref b), (1, .ref (q 0)), (2, .ref (q 14)), (3, .ref (q 23)), (4, .ref (q 24)), (5, .int x5)] → W p l e room_1 s m #[Value.ref b] below meth c H locs (25 + k) (1025 + 6 * k) (lw_Z below #[Value.ref b] s) (F0 m 2125 ls []) := by
  obtain ⟨hx, hb, hr, hml, hown, hts0, hX, hbl, hlocks, hgv⟩ := id C0
  have hown : s.vm.findClass RL = some m.cls := hown
  have hts : ∀ w ∈ wsL_law, w.before #[Value.ref b] s = true := fun w h => hts0 w (wsL_law_in w h)
  have hbA : ¬ (fun a : Nat => s.heap.size ≤ a) b := Nat.not_le.mpr hbl
  have hcm : 25 + k + 1 ≤ 1058 := by omega
  have hsm : 1025 + 6 * k + 6 ≤ 9271 := by omega
  have hc0 : 25 + k ≤ 1058 := by omega
  have hs0 : 1025 + 6 * k ≤ 9271 := by omega
  intro H locs hP hS ls hl
  unfold fL_law_J2125 at hf
  refine lv_aload_n hx hb dL_law_2125 rfl (lv_at hl 1 rfl) ?_
  refine lv_aload_n hx hb dL_law_2126 rfl (lv_at hl 0 rfl) ?_
  refine lv_iload hx hb dL_law_2127 (lv_at hl 5 rfl) ?_
  refine lv_iconst (v := (1 : Int32)) hx hb dL_law_2129 (by decide) ?_
  refine lv_iadd hx hb dL_law_2130 ?_
  obtain ⟨g_1, hf⟩ := gd_some hf
  refine va_sld hx hb hX hbl hbA hS (inb_in g_1) dL_law_2131 ?_
  refine lv_aload_n hx hb dL_law_2132 rfl (lv_at hl 0 rfl) ?_
  refine lv_iload hx hb dL_law_2133 (lv_at hl 5 rfl) ?_
  refine lv_iconst (v := (2 : Int32)) hx hb dL_law_2135 (by decide) ?_
  refine lv_iadd hx hb dL_law_2136 ?_
  obtain ⟨g_2, hf⟩ := gd_some hf
  refine va_sld hx hb hX hbl hbA hS (inb_in g_2) dL_law_2137 ?_
  refine lv_aload hx hb dL_law_2138 (lv_at hl 4 rfl) ?_
  obtain ⟨⟨r2140, Ba2140, Od2140⟩, hc, hf⟩ := bn_some hf
  try dsimp only at hf
  refine g_call (mc := 1) (ms := 6) (ws' := (w_0_1_2_3_4_5_6_7_8_9_10_11_12_13_14_15_16_17_18_19_20_21_22_23_24 q cI cJ cD Tn Ta Fn Fa Ba2140 Rn Ra Rb Rd Ua Wg Wz Ww Wr Mh Mn Mm Mt Mk Ms Me Mp Mw Ml My Oa Od2140)) (st1 := [.int r2140]) hq [0, 1, 2, 3, 4, 5, 6, 7, 8, 9, 10, 11, 12, 13, 14, 15, 16, 17, 18, 19, 20, 21, 22, 23, 24] [0, 1, 2, 5, 6, 24] [.inl 0, .inl 1, .inl 2, .inr 3, .inr 4, .inl 3, .inl 4, .inr 7, .inr 8, .inr 9, .inr 10, .inr 11, .inr 12, .inr 13, .inr 14, .inr 15, .inr 16, .inr 17, .inr 18, .inr 19, .inr 20, .inr 21, .inr 22, .inr 23, .inl 5] (vx_runSW (As := [.ref (q 0), .int (xs ((x5 + (1 : Int32))).toNatClampNeg), .int (xs ((x5 + (2 : Int32))).toNatClampNeg), .ref (q 24)]) (rest := []) ⟨hx, hb, hml, hown, hts⟩ (kL_exponent l hlt D cI cJ cD sa q hq N Tn Ta Ba Od (xs ((x5 + (1 : Int32))).toNatClampNeg) (xs ((x5 + (2 : Int32))).toNatClampNeg) r2140 Ba2140 Od2140 hc) (vx_cwSW 4 hts gL_law_L_exponent rfl rfl rfl (by decide +kernel) ⟨(Nat.le_of_ble_eq_true rfl), (Nat.le_of_ble_eq_true rfl)⟩) ⟨gPx_blind, fun U hU hW => ⟨rfl, by rw [hU]; exact hP.sub (ws' := (w_0_1_2_5_6_24 q cI cJ cD Tn Ta Ba Od)) [0, 1, 2, 5, 6, 24] rfl, gEv.warm hW hE, gXe.go hW hS (gMonoL hqA rfl) hXe hU⟩⟩ rfl rfl hl.1 rfl (lv_room (Nat.le_of_ble_eq_true rfl)) dL_law_2140 ⟨hcm, hsm⟩) hP hS (gSubL hqA rfl) rfl rfl rfl rfl rfl (fun H locs hP hS => ?_)
  refine lv_istore (lv' := [(6, .int r2140), (0, .ref b), (1, .ref (q 0)), (2, .ref (q 14)), (3, .ref (q 23)), (4, .ref (q 24)), (5, .int x5)]) hx hb dL_law_2143 hl (by decide) rfl (fun ls hl => ?_)
  refine lv_aload_n hx hb dL_law_2145 rfl (lv_at hl 3 rfl) ?_
  refine lv_aload_n hx hb dL_law_2146 rfl (lv_at hl 1 rfl) ?_
  refine lv_iload hx hb dL_law_2147 (lv_at hl 6 rfl) ?_
  refine lv_iconst (v := (1 : Int32)) hx hb dL_law_2149 (by decide) ?_
  refine lv_iadd hx hb dL_law_2150 ?_
  obtain ⟨g_3, hf⟩ := gd_some hf
  refine va_sld hx hb hX hbl hbA hS (inb_in g_3) dL_law_2151 ?_
  refine lv_aload_n hx hb dL_law_2152 rfl (lv_at hl 1 rfl) ?_
  refine lv_iload hx hb dL_law_2153 (lv_at hl 6 rfl) ?_
  refine lv_iconst (v := (2 : Int32)) hx hb dL_law_2155 (by decide) ?_
  refine lv_iadd hx hb dL_law_2156 ?_
  obtain ⟨g_4, hf⟩ := gd_some hf
  refine va_sld hx hb hX hbl hbA hS (inb_in g_4) dL_law_2157 ?_
  obtain ⟨⟨r2158, Mh2158⟩, hc, hf⟩ := bn_some hf
  try dsimp only at hf
  refine g_call0 (ws' := (w_0_1_2_3_4_5_6_7_8_9_10_11_12_13_14_15_16_17_18_19_20_21_22_23_24 q cI cJ cD Tn Ta Fn Fa Ba2140 Rn Ra Rb Rd Ua Wg Wz Ww Wr Mh2158 Mn Mm Mt Mk Ms Me Mp Mw Ml My Oa Od2140)) (st1 := [.double r2158]) hq [0, 1, 2, 3, 4, 5, 6, 7, 8, 9, 10, 11, 12, 13, 14, 15, 16, 17, 18, 19, 20, 21, 22, 23, 24] [14, 15] [.inr 0, .inr 1, .inr 2, .inr 3, .inr 4, .inr 5, .inr 6, .inr 7, .inr 8, .inr 9, .inr 10, .inr 11, .inr 12, .inr 13, .inl 0, .inl 1, .inr 16, .inr 17, .inr 18, .inr 19, .inr 20, .inr 21, .inr 22, .inr 23, .inr 24] (va_runV (As := [.int (xs ((x5 + (1 : Int32))).toNatClampNeg), .int (xs ((x5 + (2 : Int32))).toNatClampNeg)]) (rest := []) ⟨hx, hb, hml, hown, hts⟩ (kX9_exponent l D cI cJ cD q hq N Mh Mn Mm Mt (xs ((x5 + (1 : Int32))).toNatClampNeg) (xs ((x5 + (2 : Int32))).toNatClampNeg) r2158 Mh2158 hc) (cwV 2 hts gL_law_X9_exponent rfl rfl rfl (by decide +kernel) ⟨(Nat.le_of_ble_eq_true rfl), (Nat.le_of_ble_eq_true rfl)⟩) ⟨gP_blind, va_recv hE.1 hP (ci := 7) (q0 := 14) rfl rfl, fun U hU hW => ⟨rfl, by rw [hU]; exact hP.sub (ws' := (w_14_15 q cI cJ cD Mh Mn Mm Mt)) [14, 15] rfl, gEv.warm hW hE⟩⟩ rfl rfl hl.1 rfl (lv_room (Nat.le_of_ble_eq_true rfl)) dL_law_2158 ⟨hcm, hsm⟩) hP hS (gSubL hqA rfl) rfl rfl rfl rfl rfl (fun H locs hP hS => ?_)
  refine lv_dstore (lv' := [(7, .double r2158), (6, .int r2140), (0, .ref b), (1, .ref (q 0)), (2, .ref (q 14)), (3, .ref (q 23)), (4, .ref (q 24)), (5, .int x5)]) hx hb dL_law_2161 hl (by decide) rfl (fun ls hl => ?_)
  refine lv_aload_n hx hb dL_law_2163 rfl (lv_at hl 4 rfl) ?_
  obtain ⟨r2164, hc, hf⟩ := bn_some hf
  try dsimp only at hf
  refine g_call0 (ws' := (w_0_1_2_3_4_5_6_7_8_9_10_11_12_13_14_15_16_17_18_19_20_21_22_23_24 q cI cJ cD Tn Ta Fn Fa Ba2140 Rn Ra Rb Rd Ua Wg Wz Ww Wr Mh2158 Mn Mm Mt Mk Ms Me Mp Mw Ml My Oa Od2140)) (st1 := [.int r2164]) hq [0, 1, 2, 3, 4, 5, 6, 7, 8, 9, 10, 11, 12, 13, 14, 15, 16, 17, 18, 19, 20, 21, 22, 23, 24] [14] [.inr 0, .inr 1, .inr 2, .inr 3, .inr 4, .inr 5, .inr 6, .inr 7, .inr 8, .inr 9, .inr 10, .inr 11, .inr 12, .inr 13, .inl 0, .inr 15, .inr 16, .inr 17, .inr 18, .inr 19, .inr 20, .inr 21, .inr 22, .inr 23, .inr 24] (va_runV (As := []) (rest := []) ⟨hx, hb, hml, hown, hts⟩ (kX9_thrown l D cI cJ cD q hq N Mh2158 Mn Mm r2164 hc) (cwV 0 hts gL_law_X9_thrown rfl rfl rfl (by decide +kernel) ⟨(Nat.le_of_ble_eq_true rfl), (Nat.le_of_ble_eq_true rfl)⟩) ⟨gP_blind, va_recv hE.1 hP (ci := 7) (q0 := 14) rfl rfl, fun U hU hW => ⟨rfl, by rw [hU]; exact hP.sub (ws' := (w_14 q cI cJ cD Mh2158 Mn Mm)) [14] rfl, gEv.warm hW hE⟩⟩ rfl rfl hl.1 rfl (lv_room (Nat.le_of_ble_eq_true rfl)) dL_law_2164 ⟨hcm, hsm⟩) hP hS (gSubL hqA rfl) rfl rfl rfl rfl rfl (fun H locs hP hS => ?_)
  refine lv_iload hx hb dL_law_2167 (lv_at hl 1 rfl) ?_
  refine lv_icmp_eq (tgt := 2174) hx hb dL_law_2169 (by decide) (fun c_5 => ?_) (fun c_5 => ?_)
  · have hf := (if_pos c_5).symm.trans hf
    refine lv_iload hx hb dL_law_2174 (lv_at hl 1 rfl) ?_
    refine lv_if_ne (tgt := 2211) hx hb dL_law_2176 (by decide) (fun c_6 => ?_) (fun c_6 => ?_)
    · have hf := (if_neg c_6).symm.trans hf
      exact law_J2211 hL C0 hlt D cI cJ cD sa q hq hqA hE hXe N k h5 k28 ih Tn Ta Fn Fa Ba2140 Rn Ra Rb Rd Ua Wg Wz Ww Wr Mh2158 Mn Mm Mt Mk Ms Me Mp Mw Ml My Oa Od2140 x5 hx5 hf _ _ hP hS _ (lv_sub hl [2, 3, 4, 5, 6, 7] rfl)
    · have hf := (if_pos c_6).symm.trans hf
      refine lv_aload hx hb dL_law_2179 (lv_at hl 6 rfl) ?_
      refine lv_iconst (v := (0 : Int32)) hx hb dL_law_2181 (by decide) ?_
      obtain ⟨g_7, hf⟩ := gd_some hf
      refine va_dald hx hb hE.1 hP 24 2 rfl rfl (inb_in g_7) dL_law_2182 ?_
      refine lv_dload hx hb dL_law_2183 (lv_at hl 0 rfl) ?_
      refine lv_dcmp hx hb dL_law_2185 ?_
      refine lv_if_eq (tgt := 2211) hx hb dL_law_2186 (by decide) (fun c_8 => ?_) (fun c_8 => ?_)
      · have hf := (if_pos c_8).symm.trans hf
        exact law_J2211 hL C0 hlt D cI cJ cD sa q hq hqA hE hXe N k h5 k28 ih Tn Ta Fn Fa Ba2140 Rn Ra Rb Rd Ua Wg Wz Ww Wr Mh2158 Mn Mm Mt Mk Ms Me Mp Mw Ml My Oa Od2140 x5 hx5 hf _ _ hP hS _ (lv_sub hl [2, 3, 4, 5, 6, 7] rfl)
      · have hf := (if_neg c_8).symm.trans hf
        refine lv_aload hx hb dL_law_2189 (lv_at hl 6 rfl) ?_
        refine lv_iconst (v := (0 : Int32)) hx hb dL_law_2191 (by decide) ?_
        obtain ⟨g_9, hf⟩ := gd_some hf
        refine va_dald hx hb hE.1 hP 24 2 rfl rfl (inb_in g_9) dL_law_2192 ?_
        refine lv_aload hx hb dL_law_2193 (lv_at hl 6 rfl) ?_
        refine lv_iconst (v := (0 : Int32)) hx hb dL_law_2195 (by decide) ?_
        obtain ⟨g_10, hf⟩ := gd_some hf
        refine va_dald hx hb hE.1 hP 24 2 rfl rfl (inb_in g_10) dL_law_2196 ?_
        refine lv_dcmp hx hb dL_law_2197 ?_
        refine lv_if_eq (tgt := 2209) hx hb dL_law_2198 (by decide) (fun c_11 => ?_) (fun c_11 => ?_)
        · have hf := (if_pos c_11).symm.trans hf
          exact law_J2209 hL C0 hlt D cI cJ cD sa q hq hqA hE hXe N k (by omega) Tn Ta Fn Fa Ba2140 Rn Ra Rb Rd Ua Wg Wz Ww Wr Mh2158 Mn Mm Mt Mk Ms Me Mp Mw Ml My Oa Od2140 hf _ _ hP hS _ (lv_sub hl [] rfl)
        · have hf := (if_neg c_11).symm.trans hf
          refine lv_dload hx hb dL_law_2201 (lv_at hl 0 rfl) ?_
          refine lv_dload hx hb dL_law_2203 (lv_at hl 0 rfl) ?_
          refine lv_dcmp hx hb dL_law_2205 ?_
          refine lv_if_ne (tgt := 2211) hx hb dL_law_2206 (by decide) (fun c_12 => ?_) (fun c_12 => ?_)
          · have hf := (if_neg c_12).symm.trans hf
            exact law_J2211 hL C0 hlt D cI cJ cD sa q hq hqA hE hXe N k h5 k28 ih Tn Ta Fn Fa Ba2140 Rn Ra Rb Rd Ua Wg Wz Ww Wr Mh2158 Mn Mm Mt Mk Ms Me Mp Mw Ml My Oa Od2140 x5 hx5 hf _ _ hP hS _ (lv_sub hl [2, 3, 4, 5, 6, 7] rfl)
          · have hf := (if_pos c_12).symm.trans hf
            exact law_J2209 hL C0 hlt D cI cJ cD sa q hq hqA hE hXe N k (by omega) Tn Ta Fn Fa Ba2140 Rn Ra Rb Rd Ua Wg Wz Ww Wr Mh2158 Mn Mm Mt Mk Ms Me Mp Mw Ml My Oa Od2140 hf _ _ hP hS _ (lv_sub hl [] rfl)
  · have hf := (if_neg c_5).symm.trans hf
    exact law_J2172 hL C0 hlt D cI cJ cD sa q hq hqA hE hXe N k (by omega) Tn Ta Fn Fa Ba2140 Rn Ra Rb Rd Ua Wg Wz Ww Wr Mh2158 Mn Mm Mt Mk Ms Me Mp Mw Ml My Oa Od2140 hf _ _ hP hS _ (lv_sub hl [] rfl)
set_option maxHeartbeats 4000000 in
set_option maxRecDepth 100000 in
theorem law_J2214 {p : Program} {l : Launch} {e : Env} {s : State} {m : MethodId} {below : List Frame} {meth : Method} {c : Code} {b L : Nat} {xs : Nat → Int32} (hL : L ≤ 2560) (C0 : lw_At p s m meth c b L xs) (hlt : l.stackTraces = false) (D : va_G) (cI cJ cD : ClassId) (sa : Nat → Nat) (q : Nat → Nat) (hq : gInj q) (hqA : ∀ k, k < 25 → s.heap.size ≤ q k) (hE : gEv D cI cJ cD s) (hXe : gXe sa (fun a => s.heap.size ≤ a) s s.heap) (N : Nat) (k : Nat) (h5 : 5 * k + 5 ≤ L) (k28 : Int32 → (Nat → Int32) → Int32 → (Nat → Int32) → (Nat → Int32) → Int32 → (Nat → Int32) → (Nat → Int32) → (Nat → Int32) → (Nat → Int32) → Int32 → Int32 → Int32 → Int32 → Int32 → Int32 → Int32 → (Nat → Int32) → (Nat → Int32) → (Nat → Int32) → (Nat → Int32) → (Nat → Int32) → (Nat → Int32) → (Nat → Int32) → (Nat → Int64) → (Nat → Int64) → (Nat → UInt64) → Int32 → Option Int32) (ih : lawIH p l e s m below meth c b D cI cJ cD q k k28) (Tn : Int32) (Ta : (Nat → Int32)) (Fn : Int32) (Fa : (Nat → Int32)) (Ba : (Nat → Int32)) (Rn : Int32) (Ra : (Nat → Int32)) (Rb : (Nat → Int32)) (Rd : (Nat → Int32)) (Ua : (Nat → Int32)) (Wg : Int32) (Wz : Int32) (Ww : Int32) (Wr : Int32) (Mh : Int32) (Mn : Int32) (Mm : Int32) (Mt : (Nat → Int32)) (Mk : (Nat → Int32)) (Ms : (Nat → Int32)) (Me : (Nat → Int32)) (Mp : (Nat → Int32)) (Mw : (Nat → Int32)) (Ml : (Nat → Int32)) (My : (Nat → Int64)) (Oa : (Nat → Int64)) (Od : (Nat → UInt64)) (x5 : Int32) (hx5 : x5 = nI (5 * k)) (hf : fL_law_J2214 N L xs k28 Tn Ta Fn Fa Ba Rn Ra Rb Rd Ua Wg Wz Ww Wr Mh Mn Mm Mt Mk Ms Me Mp Mw Ml My Oa Od x5 = some 1) : ∀ (H : Heap) (locs : List Loc), va_P D vwCl (w_0_1_2_3_4_5_6_7_8_9_10_11_12_13_14_15_16_17_18_19_20_21_22_23_24 q cI cJ cD Tn Ta Fn Fa Ba Rn Ra Rb Rd Ua Wg Wz Ww Wr Mh Mn Mm Mt Mk Ms Me Mp Mw Ml My Oa Od) H → va_S (fun a : Nat => s.heap.size ≤ a) s.heap H locs → ∀ ls : Array Slot, lv_has ls 10 [(0, .ref b), (1, .ref (q 0)), (2, .ref (q 14)), (3, .ref (q 23)), (4, .ref (q 24)), (5, .int x5)] → W p l e room_1 s m #[Value.ref b] below meth c H locs (25 + k) (1025 + 6 * k) (lw_Z below #[Value.ref b] s) (F0 m 2214 ls []) := by
  obtain ⟨hx, hb, hr, hml, hown, hts0, hX, hbl, hlocks, hgv⟩ := id C0
  have hown : s.vm.findClass RL = some m.cls := hown
  have hts : ∀ w ∈ wsL_law, w.before #[Value.ref b] s = true := fun w h => hts0 w (wsL_law_in w h)
  have hbA : ¬ (fun a : Nat => s.heap.size ≤ a) b := Nat.not_le.mpr hbl
  have hcm : 25 + k + 1 ≤ 1058 := by omega
  have hsm : 1025 + 6 * k + 6 ≤ 9271 := by omega
  have hc0 : 25 + k ≤ 1058 := by omega
  have hs0 : 1025 + 6 * k ≤ 9271 := by omega
  intro H locs hP hS ls hl
  unfold fL_law_J2214 at hf
  refine lv_aload_n hx hb dL_law_2214 rfl (lv_at hl 1 rfl) ?_
  obtain ⟨⟨r2215, Rn2215, Ra2215, Rb2215, Rd2215⟩, hc, hf⟩ := bn_some hf
  try dsimp only at hf
  refine g_call0 (ws' := (w_0_1_2_3_4_5_6_7_8_9_10_11_12_13_14_15_16_17_18_19_20_21_22_23_24 q cI cJ cD Tn Ta Fn Fa Ba Rn2215 Ra2215 Rb2215 Rd2215 Ua Wg Wz Ww Wr Mh Mn Mm Mt Mk Ms Me Mp Mw Ml My Oa Od)) (st1 := [.int r2215]) hq [0, 1, 2, 3, 4, 5, 6, 7, 8, 9, 10, 11, 12, 13, 14, 15, 16, 17, 18, 19, 20, 21, 22, 23, 24] [0, 1, 2, 7, 8, 9, 10] [.inl 0, .inl 1, .inl 2, .inr 3, .inr 4, .inr 5, .inr 6, .inl 3, .inl 4, .inl 5, .inl 6, .inr 11, .inr 12, .inr 13, .inr 14, .inr 15, .inr 16, .inr 17, .inr 18, .inr 19, .inr 20, .inr 21, .inr 22, .inr 23, .inr 24] (va_runV (As := []) (rest := []) ⟨hx, hb, hml, hown, hts⟩ (kX8_runs l D cI cJ cD q hq N Tn Ta Rn Ra Rb Rd r2215 Rn2215 Ra2215 Rb2215 Rd2215 hc) (cwV 0 hts gL_law_X8_runs rfl rfl rfl (by decide +kernel) ⟨(Nat.le_of_ble_eq_true rfl), (Nat.le_of_ble_eq_true rfl)⟩) ⟨gP_blind, va_recv hE.1 hP (ci := 6) (q0 := 0) rfl rfl, fun U hU hW => ⟨rfl, by rw [hU]; exact hP.sub (ws' := (w_0_1_2_7_8_9_10 q cI cJ cD Tn Ta Rn Ra Rb Rd)) [0, 1, 2, 7, 8, 9, 10] rfl, gEv.warm hW hE⟩⟩ rfl rfl hl.1 rfl (lv_room (Nat.le_of_ble_eq_true rfl)) dL_law_2215 ⟨hc0, hs0⟩) hP hS (gSubL hqA rfl) rfl rfl rfl rfl rfl (fun H locs hP hS => ?_)
  refine lv_aload_n hx hb dL_law_2218 rfl (lv_at hl 2 rfl) ?_
  obtain ⟨⟨r2219, Mh2219, Mm2219, Ms2219, Me2219, Mp2219⟩, hc, hf⟩ := bn_some hf
  try dsimp only at hf
  refine g_call0 (ws' := (w_0_1_2_3_4_5_6_7_8_9_10_11_12_13_14_15_16_17_18_19_20_21_22_23_24 q cI cJ cD Tn Ta Fn Fa Ba Rn2215 Ra2215 Rb2215 Rd2215 Ua Wg Wz Ww Wr Mh2219 Mn Mm2219 Mt Mk Ms2219 Me2219 Mp2219 Mw Ml My Oa Od)) (st1 := [.int r2219, .int r2215]) hq [0, 1, 2, 3, 4, 5, 6, 7, 8, 9, 10, 11, 12, 13, 14, 15, 16, 17, 18, 19, 20, 21, 22, 23, 24] [14, 15, 17, 18, 19] [.inr 0, .inr 1, .inr 2, .inr 3, .inr 4, .inr 5, .inr 6, .inr 7, .inr 8, .inr 9, .inr 10, .inr 11, .inr 12, .inr 13, .inl 0, .inl 1, .inr 16, .inl 2, .inl 3, .inl 4, .inr 20, .inr 21, .inr 22, .inr 23, .inr 24] (va_runV (As := []) (rest := [.int r2215]) ⟨hx, hb, hml, hown, hts⟩ (kX9_runs l D cI cJ cD q hq N Mh Mn Mm Mt Ms Me Mp r2219 Mh2219 Mm2219 Ms2219 Me2219 Mp2219 hc) (cwV 0 hts gL_law_X9_runs rfl rfl rfl (by decide +kernel) ⟨(Nat.le_of_ble_eq_true rfl), (Nat.le_of_ble_eq_true rfl)⟩) ⟨gP_blind, va_recv hE.1 hP (ci := 7) (q0 := 14) rfl rfl, fun U hU hW => ⟨rfl, by rw [hU]; exact hP.sub (ws' := (w_14_15_17_18_19 q cI cJ cD Mh Mn Mm Mt Ms Me Mp)) [14, 15, 17, 18, 19] rfl, gEv.warm hW hE⟩⟩ rfl rfl hl.1 rfl (lv_room (Nat.le_of_ble_eq_true rfl)) dL_law_2219 ⟨hc0, hs0⟩) hP hS (gSubL hqA rfl) rfl rfl rfl rfl rfl (fun H locs hP hS => ?_)
  refine lv_icmp_eq (tgt := 2831) hx hb dL_law_2222 (by decide) (fun c_1 => ?_) (fun c_1 => ?_)
  · have hf := (if_pos c_1).symm.trans hf
    refine W.widen (k := 25 + k + 1) (n := 1025 + 6 * k + 6) (by omega) (by omega) ?_
    exact law_J2831 hL C0 hlt D cI cJ cD sa q hq hqA hE hXe N k h5 k28 ih Tn Ta Fn Fa Ba Rn2215 Ra2215 Rb2215 Rd2215 Ua Wg Wz Ww Wr Mh2219 Mn Mm2219 Mt Mk Ms2219 Me2219 Mp2219 Mw Ml My Oa Od x5 hx5 hf _ _ hP hS _ (lv_sub hl [0, 1, 2, 3, 4, 5] rfl)
  · have hf := (if_neg c_1).symm.trans hf
    exact law_J2225 hL C0 hlt D cI cJ cD sa q hq hqA hE hXe N k (by omega) Tn Ta Fn Fa Ba Rn2215 Ra2215 Rb2215 Rd2215 Ua Wg Wz Ww Wr Mh2219 Mn Mm2219 Mt Mk Ms2219 Me2219 Mp2219 Mw Ml My Oa Od hf _ _ hP hS _ (lv_sub hl [] rfl)
set_option maxHeartbeats 4000000 in
set_option maxRecDepth 100000 in
theorem law_J2280 {p : Program} {l : Launch} {e : Env} {s : State} {m : MethodId} {below : List Frame} {meth : Method} {c : Code} {b L : Nat} {xs : Nat → Int32} (hL : L ≤ 2560) (C0 : lw_At p s m meth c b L xs) (hlt : l.stackTraces = false) (D : va_G) (cI cJ cD : ClassId) (sa : Nat → Nat) (q : Nat → Nat) (hq : gInj q) (hqA : ∀ k, k < 25 → s.heap.size ≤ q k) (hE : gEv D cI cJ cD s) (hXe : gXe sa (fun a => s.heap.size ≤ a) s s.heap) (N : Nat) (k : Nat) (h5 : 5 * k + 5 ≤ L) (k28 : Int32 → (Nat → Int32) → Int32 → (Nat → Int32) → (Nat → Int32) → Int32 → (Nat → Int32) → (Nat → Int32) → (Nat → Int32) → (Nat → Int32) → Int32 → Int32 → Int32 → Int32 → Int32 → Int32 → Int32 → (Nat → Int32) → (Nat → Int32) → (Nat → Int32) → (Nat → Int32) → (Nat → Int32) → (Nat → Int32) → (Nat → Int32) → (Nat → Int64) → (Nat → Int64) → (Nat → UInt64) → Int32 → Option Int32) (ih : lawIH p l e s m below meth c b D cI cJ cD q k k28) (Tn : Int32) (Ta : (Nat → Int32)) (Fn : Int32) (Fa : (Nat → Int32)) (Ba : (Nat → Int32)) (Rn : Int32) (Ra : (Nat → Int32)) (Rb : (Nat → Int32)) (Rd : (Nat → Int32)) (Ua : (Nat → Int32)) (Wg : Int32) (Wz : Int32) (Ww : Int32) (Wr : Int32) (Mh : Int32) (Mn : Int32) (Mm : Int32) (Mt : (Nat → Int32)) (Mk : (Nat → Int32)) (Ms : (Nat → Int32)) (Me : (Nat → Int32)) (Mp : (Nat → Int32)) (Mw : (Nat → Int32)) (Ml : (Nat → Int32)) (My : (Nat → Int64)) (Oa : (Nat → Int64)) (Od : (Nat → UInt64)) (x5 : Int32) (hx5 : x5 = nI (5 * k)) (hf : fL_law_J2280 N L xs k28 Tn Ta Fn Fa Ba Rn Ra Rb Rd Ua Wg Wz Ww Wr Mh Mn Mm Mt Mk Ms Me Mp Mw Ml My Oa Od x5 = some 1) : ∀ (H : Heap) (locs : List Loc), va_P D vwCl (w_0_1_2_3_4_5_6_7_8_9_10_11_12_13_14_15_16_17_18_19_20_21_22_23_24 q cI cJ cD Tn Ta Fn Fa Ba Rn Ra Rb Rd Ua Wg Wz Ww Wr Mh Mn Mm Mt Mk Ms Me Mp Mw Ml My Oa Od) H → va_S (fun a : Nat => s.heap.size ≤ a) s.heap H locs → ∀ ls : Array Slot, lv_has ls 10 [(0, .ref b), (1, .ref (q 0)), (2, .ref (q 14)), (3, .ref (q 23)), (4, .ref (q 24)), (5, .int x5)] → W p l e room_1 s m #[Value.ref b] below meth c H locs (25 + k + 1) (1025 + 6 * k + 6) (lw_Z below #[Value.ref b] s) (F0 m 2280 ls []) := by
  obtain ⟨hx, hb, hr, hml, hown, hts0, hX, hbl, hlocks, hgv⟩ := id C0
  have hown : s.vm.findClass RL = some m.cls := hown
  have hts : ∀ w ∈ wsL_law, w.before #[Value.ref b] s = true := fun w h => hts0 w (wsL_law_in w h)
  have hbA : ¬ (fun a : Nat => s.heap.size ≤ a) b := Nat.not_le.mpr hbl
  have hcm : 25 + k + 1 ≤ 1058 := by omega
  have hsm : 1025 + 6 * k + 6 ≤ 9271 := by omega
  have hc0 : 25 + k ≤ 1058 := by omega
  have hs0 : 1025 + 6 * k ≤ 9271 := by omega
  intro H locs hP hS ls hl
  unfold fL_law_J2280 at hf
  refine lv_goto (tgt := 2831) hx hb dL_law_2280 (by decide) ?_
  exact law_J2831 hL C0 hlt D cI cJ cD sa q hq hqA hE hXe N k h5 k28 ih Tn Ta Fn Fa Ba Rn Ra Rb Rd Ua Wg Wz Ww Wr Mh Mn Mm Mt Mk Ms Me Mp Mw Ml My Oa Od x5 hx5 hf _ _ hP hS _ (lv_sub hl [0, 1, 2, 3, 4, 5] rfl)
set_option maxHeartbeats 4000000 in
set_option maxRecDepth 100000 in
theorem law_J2227 {p : Program} {l : Launch} {e : Env} {s : State} {m : MethodId} {below : List Frame} {meth : Method} {c : Code} {b L : Nat} {xs : Nat → Int32} (hL : L ≤ 2560) (C0 : lw_At p s m meth c b L xs) (hlt : l.stackTraces = false) (D : va_G) (cI cJ cD : ClassId) (sa : Nat → Nat) (q : Nat → Nat) (hq : gInj q) (hqA : ∀ k, k < 25 → s.heap.size ≤ q k) (hE : gEv D cI cJ cD s) (hXe : gXe sa (fun a => s.heap.size ≤ a) s s.heap) (N : Nat) (k : Nat) (h5 : 5 * k + 5 ≤ L) (k28 : Int32 → (Nat → Int32) → Int32 → (Nat → Int32) → (Nat → Int32) → Int32 → (Nat → Int32) → (Nat → Int32) → (Nat → Int32) → (Nat → Int32) → Int32 → Int32 → Int32 → Int32 → Int32 → Int32 → Int32 → (Nat → Int32) → (Nat → Int32) → (Nat → Int32) → (Nat → Int32) → (Nat → Int32) → (Nat → Int32) → (Nat → Int32) → (Nat → Int64) → (Nat → Int64) → (Nat → UInt64) → Int32 → Option Int32) (ih : lawIH p l e s m below meth c b D cI cJ cD q k k28) (Tn : Int32) (Ta : (Nat → Int32)) (Fn : Int32) (Fa : (Nat → Int32)) (Ba : (Nat → Int32)) (Rn : Int32) (Ra : (Nat → Int32)) (Rb : (Nat → Int32)) (Rd : (Nat → Int32)) (Ua : (Nat → Int32)) (Wg : Int32) (Wz : Int32) (Ww : Int32) (Wr : Int32) (Mh : Int32) (Mn : Int32) (Mm : Int32) (Mt : (Nat → Int32)) (Mk : (Nat → Int32)) (Ms : (Nat → Int32)) (Me : (Nat → Int32)) (Mp : (Nat → Int32)) (Mw : (Nat → Int32)) (Ml : (Nat → Int32)) (My : (Nat → Int64)) (Oa : (Nat → Int64)) (Od : (Nat → UInt64)) (x5 : Int32) (hx5 : x5 = nI (5 * k)) (hf : fL_law_J2227 N L xs k28 Tn Ta Fn Fa Ba Rn Ra Rb Rd Ua Wg Wz Ww Wr Mh Mn Mm Mt Mk Ms Me Mp Mw Ml My Oa Od x5 = some 1) : ∀ (H : Heap) (locs : List Loc), va_P D vwCl (w_0_1_2_3_4_5_6_7_8_9_10_11_12_13_14_15_16_17_18_19_20_21_22_23_24 q cI cJ cD Tn Ta Fn Fa Ba Rn Ra Rb Rd Ua Wg Wz Ww Wr Mh Mn Mm Mt Mk Ms Me Mp Mw Ml My Oa Od) H → va_S (fun a : Nat => s.heap.size ≤ a) s.heap H locs → ∀ ls : Array Slot, lv_has ls 10 [(0, .ref b), (1, .ref (q 0)), (2, .ref (q 14)), (3, .ref (q 23)), (4, .ref (q 24)), (5, .int x5)] → W p l e room_1 s m #[Value.ref b] below meth c H locs (25 + k) (1025 + 6 * k) (lw_Z below #[Value.ref b] s) (F0 m 2227 ls []) := by
  obtain ⟨hx, hb, hr, hml, hown, hts0, hX, hbl, hlocks, hgv⟩ := id C0
  have hown : s.vm.findClass RL = some m.cls := hown
  have hts : ∀ w ∈ wsL_law, w.before #[Value.ref b] s = true := fun w h => hts0 w (wsL_law_in w h)
  have hbA : ¬ (fun a : Nat => s.heap.size ≤ a) b := Nat.not_le.mpr hbl
  have hcm : 25 + k + 1 ≤ 1058 := by omega
  have hsm : 1025 + 6 * k + 6 ≤ 9271 := by omega
  have hc0 : 25 + k ≤ 1058 := by omega
  have hs0 : 1025 + 6 * k ≤ 9271 := by omega
  intro H locs hP hS ls hl
  unfold fL_law_J2227 at hf
  refine lv_aload_n hx hb dL_law_2227 rfl (lv_at hl 1 rfl) ?_
  refine lv_aload_n hx hb dL_law_2228 rfl (lv_at hl 0 rfl) ?_
  refine lv_iload hx hb dL_law_2229 (lv_at hl 5 rfl) ?_
  refine lv_iconst (v := (1 : Int32)) hx hb dL_law_2231 (by decide) ?_
  refine lv_iadd hx hb dL_law_2232 ?_
  obtain ⟨g_1, hf⟩ := gd_some hf
  refine va_sld hx hb hX hbl hbA hS (inb_in g_1) dL_law_2233 ?_
  refine lv_aload_n hx hb dL_law_2234 rfl (lv_at hl 3 rfl) ?_
  obtain ⟨⟨r2235, Rn2235, Ra2235, Rb2235, Rd2235, Oa2235⟩, hc, hf⟩ := bn_some hf
  try dsimp only at hf
  refine g_call (mc := 1) (ms := 6) (ws' := (w_0_1_2_3_4_5_6_7_8_9_10_11_12_13_14_15_16_17_18_19_20_21_22_23_24 q cI cJ cD Tn Ta Fn Fa Ba Rn2235 Ra2235 Rb2235 Rd2235 Ua Wg Wz Ww Wr Mh Mn Mm Mt Mk Ms Me Mp Mw Ml My Oa2235 Od)) (st1 := [.int r2235]) hq [0, 1, 2, 3, 4, 5, 6, 7, 8, 9, 10, 11, 12, 13, 14, 15, 16, 17, 18, 19, 20, 21, 22, 23, 24] [0, 1, 2, 7, 8, 9, 10, 23] [.inl 0, .inl 1, .inl 2, .inr 3, .inr 4, .inr 5, .inr 6, .inl 3, .inl 4, .inl 5, .inl 6, .inr 11, .inr 12, .inr 13, .inr 14, .inr 15, .inr 16, .inr 17, .inr 18, .inr 19, .inr 20, .inr 21, .inr 22, .inl 7, .inr 24] (vx_runSW (As := [.ref (q 0), .int (xs ((x5 + (1 : Int32))).toNatClampNeg), .ref (q 23)]) (rest := []) ⟨hx, hb, hml, hown, hts⟩ (kL_runStart l hlt D cI cJ cD sa q hq N Tn Ta Rn Ra Rb Rd Oa (xs ((x5 + (1 : Int32))).toNatClampNeg) r2235 Rn2235 Ra2235 Rb2235 Rd2235 Oa2235 hc) (vx_cwSW 3 hts gL_law_L_runStart rfl rfl rfl (by decide +kernel) ⟨(Nat.le_of_ble_eq_true rfl), (Nat.le_of_ble_eq_true rfl)⟩) ⟨gPx_blind, fun U hU hW => ⟨rfl, by rw [hU]; exact hP.sub (ws' := (w_0_1_2_7_8_9_10_23 q cI cJ cD Tn Ta Rn Ra Rb Rd Oa)) [0, 1, 2, 7, 8, 9, 10, 23] rfl, gEv.warm hW hE, gXe.go hW hS (gMonoL hqA rfl) hXe hU⟩⟩ rfl rfl hl.1 rfl (lv_room (Nat.le_of_ble_eq_true rfl)) dL_law_2235 ⟨hcm, hsm⟩) hP hS (gSubL hqA rfl) rfl rfl rfl rfl rfl (fun H locs hP hS => ?_)
  refine lv_istore (lv' := [(6, .int r2235), (0, .ref b), (1, .ref (q 0)), (2, .ref (q 14)), (3, .ref (q 23)), (4, .ref (q 24)), (5, .int x5)]) hx hb dL_law_2238 hl (by decide) rfl (fun ls hl => ?_)
  refine lv_aload_n hx hb dL_law_2240 rfl (lv_at hl 3 rfl) ?_
  refine lv_aload_n hx hb dL_law_2241 rfl (lv_at hl 1 rfl) ?_
  refine lv_iload hx hb dL_law_2242 (lv_at hl 6 rfl) ?_
  refine lv_iconst (v := (1 : Int32)) hx hb dL_law_2244 (by decide) ?_
  refine lv_iadd hx hb dL_law_2245 ?_
  obtain ⟨g_2, hf⟩ := gd_some hf
  refine va_sld hx hb hX hbl hbA hS (inb_in g_2) dL_law_2246 ?_
  obtain ⟨⟨r2247, Mh2247, Mm2247, Ms2247, Me2247, Mp2247⟩, hc, hf⟩ := bn_some hf
  try dsimp only at hf
  refine g_call0 (ws' := (w_0_1_2_3_4_5_6_7_8_9_10_11_12_13_14_15_16_17_18_19_20_21_22_23_24 q cI cJ cD Tn Ta Fn Fa Ba Rn2235 Ra2235 Rb2235 Rd2235 Ua Wg Wz Ww Wr Mh2247 Mn Mm2247 Mt Mk Ms2247 Me2247 Mp2247 Mw Ml My Oa2235 Od)) (st1 := [.int r2247]) hq [0, 1, 2, 3, 4, 5, 6, 7, 8, 9, 10, 11, 12, 13, 14, 15, 16, 17, 18, 19, 20, 21, 22, 23, 24] [14, 15, 17, 18, 19] [.inr 0, .inr 1, .inr 2, .inr 3, .inr 4, .inr 5, .inr 6, .inr 7, .inr 8, .inr 9, .inr 10, .inr 11, .inr 12, .inr 13, .inl 0, .inl 1, .inr 16, .inl 2, .inl 3, .inl 4, .inr 20, .inr 21, .inr 22, .inr 23, .inr 24] (va_runV (As := [.int (xs ((x5 + (1 : Int32))).toNatClampNeg)]) (rest := []) ⟨hx, hb, hml, hown, hts⟩ (kX9_runStart l D cI cJ cD q hq N Mh Mn Mm Mt Ms Me Mp (xs ((x5 + (1 : Int32))).toNatClampNeg) r2247 Mh2247 Mm2247 Ms2247 Me2247 Mp2247 hc) (cwV 1 hts gL_law_X9_runStart rfl rfl rfl (by decide +kernel) ⟨(Nat.le_of_ble_eq_true rfl), (Nat.le_of_ble_eq_true rfl)⟩) ⟨gP_blind, va_recv hE.1 hP (ci := 7) (q0 := 14) rfl rfl, fun U hU hW => ⟨rfl, by rw [hU]; exact hP.sub (ws' := (w_14_15_17_18_19 q cI cJ cD Mh Mn Mm Mt Ms Me Mp)) [14, 15, 17, 18, 19] rfl, gEv.warm hW hE⟩⟩ rfl rfl hl.1 rfl (lv_room (Nat.le_of_ble_eq_true rfl)) dL_law_2247 ⟨hcm, hsm⟩) hP hS (gSubL hqA rfl) rfl rfl rfl rfl rfl (fun H locs hP hS => ?_)
  refine lv_istore (lv' := [(7, .int r2247), (6, .int r2235), (0, .ref b), (1, .ref (q 0)), (2, .ref (q 14)), (3, .ref (q 23)), (4, .ref (q 24)), (5, .int x5)]) hx hb dL_law_2250 hl (by decide) rfl (fun ls hl => ?_)
  refine lv_aload_n hx hb dL_law_2252 rfl (lv_at hl 4 rfl) ?_
  obtain ⟨r2253, hc, hf⟩ := bn_some hf
  try dsimp only at hf
  refine g_call0 (ws' := (w_0_1_2_3_4_5_6_7_8_9_10_11_12_13_14_15_16_17_18_19_20_21_22_23_24 q cI cJ cD Tn Ta Fn Fa Ba Rn2235 Ra2235 Rb2235 Rd2235 Ua Wg Wz Ww Wr Mh2247 Mn Mm2247 Mt Mk Ms2247 Me2247 Mp2247 Mw Ml My Oa2235 Od)) (st1 := [.int r2253]) hq [0, 1, 2, 3, 4, 5, 6, 7, 8, 9, 10, 11, 12, 13, 14, 15, 16, 17, 18, 19, 20, 21, 22, 23, 24] [14] [.inr 0, .inr 1, .inr 2, .inr 3, .inr 4, .inr 5, .inr 6, .inr 7, .inr 8, .inr 9, .inr 10, .inr 11, .inr 12, .inr 13, .inl 0, .inr 15, .inr 16, .inr 17, .inr 18, .inr 19, .inr 20, .inr 21, .inr 22, .inr 23, .inr 24] (va_runV (As := []) (rest := []) ⟨hx, hb, hml, hown, hts⟩ (kX9_thrown l D cI cJ cD q hq N Mh2247 Mn Mm2247 r2253 hc) (cwV 0 hts gL_law_X9_thrown rfl rfl rfl (by decide +kernel) ⟨(Nat.le_of_ble_eq_true rfl), (Nat.le_of_ble_eq_true rfl)⟩) ⟨gP_blind, va_recv hE.1 hP (ci := 7) (q0 := 14) rfl rfl, fun U hU hW => ⟨rfl, by rw [hU]; exact hP.sub (ws' := (w_14 q cI cJ cD Mh2247 Mn Mm2247)) [14] rfl, gEv.warm hW hE⟩⟩ rfl rfl hl.1 rfl (lv_room (Nat.le_of_ble_eq_true rfl)) dL_law_2253 ⟨hcm, hsm⟩) hP hS (gSubL hqA rfl) rfl rfl rfl rfl rfl (fun H locs hP hS => ?_)
  refine lv_iload hx hb dL_law_2256 (lv_at hl 1 rfl) ?_
  refine lv_icmp_eq (tgt := 2263) hx hb dL_law_2258 (by decide) (fun c_3 => ?_) (fun c_3 => ?_)
  · have hf := (if_pos c_3).symm.trans hf
    refine lv_iload hx hb dL_law_2263 (lv_at hl 1 rfl) ?_
    refine lv_if_ne (tgt := 2280) hx hb dL_law_2265 (by decide) (fun c_4 => ?_) (fun c_4 => ?_)
    · have hf := (if_neg c_4).symm.trans hf
      exact law_J2280 hL C0 hlt D cI cJ cD sa q hq hqA hE hXe N k h5 k28 ih Tn Ta Fn Fa Ba Rn2235 Ra2235 Rb2235 Rd2235 Ua Wg Wz Ww Wr Mh2247 Mn Mm2247 Mt Mk Ms2247 Me2247 Mp2247 Mw Ml My Oa2235 Od x5 hx5 hf _ _ hP hS _ (lv_sub hl [2, 3, 4, 5, 6, 7] rfl)
    · have hf := (if_pos c_4).symm.trans hf
      refine lv_aload_n hx hb dL_law_2268 rfl (lv_at hl 5 rfl) ?_
      refine lv_iconst (v := (0 : Int32)) hx hb dL_law_2269 (by decide) ?_
      obtain ⟨g_5, hf⟩ := gd_some hf
      refine va_lald hx hb hE.1 hP 23 1 rfl rfl (inb_in g_5) dL_law_2270 ?_
      refine lv_iload hx hb dL_law_2271 (lv_at hl 0 rfl) ?_
      refine lv_i2l (v := (r2247).toInt64) hx hb dL_law_2273 rfl ?_
      refine W.lcmp hx hb dL_law_2274 ?_
      refine lv_if_eq (tgt := 2280) hx hb dL_law_2275 (by decide) (fun c_6 => ?_) (fun c_6 => ?_)
      · have hf := (if_pos c_6).symm.trans hf
        exact law_J2280 hL C0 hlt D cI cJ cD sa q hq hqA hE hXe N k h5 k28 ih Tn Ta Fn Fa Ba Rn2235 Ra2235 Rb2235 Rd2235 Ua Wg Wz Ww Wr Mh2247 Mn Mm2247 Mt Mk Ms2247 Me2247 Mp2247 Mw Ml My Oa2235 Od x5 hx5 hf _ _ hP hS _ (lv_sub hl [2, 3, 4, 5, 6, 7] rfl)
      · have hf := (if_neg c_6).symm.trans hf
        exact law_J2278 hL C0 hlt D cI cJ cD sa q hq hqA hE hXe N k (by omega) Tn Ta Fn Fa Ba Rn2235 Ra2235 Rb2235 Rd2235 Ua Wg Wz Ww Wr Mh2247 Mn Mm2247 Mt Mk Ms2247 Me2247 Mp2247 Mw Ml My Oa2235 Od hf _ _ hP hS _ (lv_sub hl [] rfl)
  · have hf := (if_neg c_3).symm.trans hf
    exact law_J2261 hL C0 hlt D cI cJ cD sa q hq hqA hE hXe N k (by omega) Tn Ta Fn Fa Ba Rn2235 Ra2235 Rb2235 Rd2235 Ua Wg Wz Ww Wr Mh2247 Mn Mm2247 Mt Mk Ms2247 Me2247 Mp2247 Mw Ml My Oa2235 Od hf _ _ hP hS _ (lv_sub hl [] rfl)
set_option maxHeartbeats 4000000 in
set_option maxRecDepth 100000 in
theorem law_J2336 {p : Program} {l : Launch} {e : Env} {s : State} {m : MethodId} {below : List Frame} {meth : Method} {c : Code} {b L : Nat} {xs : Nat → Int32} (hL : L ≤ 2560) (C0 : lw_At p s m meth c b L xs) (hlt : l.stackTraces = false) (D : va_G) (cI cJ cD : ClassId) (sa : Nat → Nat) (q : Nat → Nat) (hq : gInj q) (hqA : ∀ k, k < 25 → s.heap.size ≤ q k) (hE : gEv D cI cJ cD s) (hXe : gXe sa (fun a => s.heap.size ≤ a) s s.heap) (N : Nat) (k : Nat) (h5 : 5 * k + 5 ≤ L) (k28 : Int32 → (Nat → Int32) → Int32 → (Nat → Int32) → (Nat → Int32) → Int32 → (Nat → Int32) → (Nat → Int32) → (Nat → Int32) → (Nat → Int32) → Int32 → Int32 → Int32 → Int32 → Int32 → Int32 → Int32 → (Nat → Int32) → (Nat → Int32) → (Nat → Int32) → (Nat → Int32) → (Nat → Int32) → (Nat → Int32) → (Nat → Int32) → (Nat → Int64) → (Nat → Int64) → (Nat → UInt64) → Int32 → Option Int32) (ih : lawIH p l e s m below meth c b D cI cJ cD q k k28) (Tn : Int32) (Ta : (Nat → Int32)) (Fn : Int32) (Fa : (Nat → Int32)) (Ba : (Nat → Int32)) (Rn : Int32) (Ra : (Nat → Int32)) (Rb : (Nat → Int32)) (Rd : (Nat → Int32)) (Ua : (Nat → Int32)) (Wg : Int32) (Wz : Int32) (Ww : Int32) (Wr : Int32) (Mh : Int32) (Mn : Int32) (Mm : Int32) (Mt : (Nat → Int32)) (Mk : (Nat → Int32)) (Ms : (Nat → Int32)) (Me : (Nat → Int32)) (Mp : (Nat → Int32)) (Mw : (Nat → Int32)) (Ml : (Nat → Int32)) (My : (Nat → Int64)) (Oa : (Nat → Int64)) (Od : (Nat → UInt64)) (x5 : Int32) (hx5 : x5 = nI (5 * k)) (hf : fL_law_J2336 N L xs k28 Tn Ta Fn Fa Ba Rn Ra Rb Rd Ua Wg Wz Ww Wr Mh Mn Mm Mt Mk Ms Me Mp Mw Ml My Oa Od x5 = some 1) : ∀ (H : Heap) (locs : List Loc), va_P D vwCl (w_0_1_2_3_4_5_6_7_8_9_10_11_12_13_14_15_16_17_18_19_20_21_22_23_24 q cI cJ cD Tn Ta Fn Fa Ba Rn Ra Rb Rd Ua Wg Wz Ww Wr Mh Mn Mm Mt Mk Ms Me Mp Mw Ml My Oa Od) H → va_S (fun a : Nat => s.heap.size ≤ a) s.heap H locs → ∀ ls : Array Slot, lv_has ls 10 [(0, .ref b), (1, .ref (q 0)), (2, .ref (q 14)), (3, .ref (q 23)), (4, .ref (q 24)), (5, .int x5)] → W p l e room_1 s m #[Value.ref b] below meth c H locs (25 + k + 1) (1025 + 6 * k + 6) (lw_Z below #[Value.ref b] s) (F0 m 2336 ls []) := by
  obtain ⟨hx, hb, hr, hml, hown, hts0, hX, hbl, hlocks, hgv⟩ := id C0
  have hown : s.vm.findClass RL = some m.cls := hown
  have hts : ∀ w ∈ wsL_law, w.before #[Value.ref b] s = true := fun w h => hts0 w (wsL_law_in w h)
  have hbA : ¬ (fun a : Nat => s.heap.size ≤ a) b := Nat.not_le.mpr hbl
  have hcm : 25 + k + 1 ≤ 1058 := by omega
  have hsm : 1025 + 6 * k + 6 ≤ 9271 := by omega
  have hc0 : 25 + k ≤ 1058 := by omega
  have hs0 : 1025 + 6 * k ≤ 9271 := by omega
  intro H locs hP hS ls hl
  unfold fL_law_J2336 at hf
  refine lv_goto (tgt := 2831) hx hb dL_law_2336 (by decide) ?_
  exact law_J2831 hL C0 hlt D cI cJ cD sa q hq hqA hE hXe N k h5 k28 ih Tn Ta Fn Fa Ba Rn Ra Rb Rd Ua Wg Wz Ww Wr Mh Mn Mm Mt Mk Ms Me Mp Mw Ml My Oa Od x5 hx5 hf _ _ hP hS _ (lv_sub hl [0, 1, 2, 3, 4, 5] rfl)
set_option maxHeartbeats 4000000 in
set_option maxRecDepth 100000 in
theorem law_J2283 {p : Program} {l : Launch} {e : Env} {s : State} {m : MethodId} {below : List Frame} {meth : Method} {c : Code} {b L : Nat} {xs : Nat → Int32} (hL : L ≤ 2560) (C0 : lw_At p s m meth c b L xs) (hlt : l.stackTraces = false) (D : va_G) (cI cJ cD : ClassId) (sa : Nat → Nat) (q : Nat → Nat) (hq : gInj q) (hqA : ∀ k, k < 25 → s.heap.size ≤ q k) (hE : gEv D cI cJ cD s) (hXe : gXe sa (fun a => s.heap.size ≤ a) s s.heap) (N : Nat) (k : Nat) (h5 : 5 * k + 5 ≤ L) (k28 : Int32 → (Nat → Int32) → Int32 → (Nat → Int32) → (Nat → Int32) → Int32 → (Nat → Int32) → (Nat → Int32) → (Nat → Int32) → (Nat → Int32) → Int32 → Int32 → Int32 → Int32 → Int32 → Int32 → Int32 → (Nat → Int32) → (Nat → Int32) → (Nat → Int32) → (Nat → Int32) → (Nat → Int32) → (Nat → Int32) → (Nat → Int32) → (Nat → Int64) → (Nat → Int64) → (Nat → UInt64) → Int32 → Option Int32) (ih : lawIH p l e s m below meth c b D cI cJ cD q k k28) (Tn : Int32) (Ta : (Nat → Int32)) (Fn : Int32) (Fa : (Nat → Int32)) (Ba : (Nat → Int32)) (Rn : Int32) (Ra : (Nat → Int32)) (Rb : (Nat → Int32)) (Rd : (Nat → Int32)) (Ua : (Nat → Int32)) (Wg : Int32) (Wz : Int32) (Ww : Int32) (Wr : Int32) (Mh : Int32) (Mn : Int32) (Mm : Int32) (Mt : (Nat → Int32)) (Mk : (Nat → Int32)) (Ms : (Nat → Int32)) (Me : (Nat → Int32)) (Mp : (Nat → Int32)) (Mw : (Nat → Int32)) (Ml : (Nat → Int32)) (My : (Nat → Int64)) (Oa : (Nat → Int64)) (Od : (Nat → UInt64)) (x5 : Int32) (hx5 : x5 = nI (5 * k)) (hf : fL_law_J2283 N L xs k28 Tn Ta Fn Fa Ba Rn Ra Rb Rd Ua Wg Wz Ww Wr Mh Mn Mm Mt Mk Ms Me Mp Mw Ml My Oa Od x5 = some 1) : ∀ (H : Heap) (locs : List Loc), va_P D vwCl (w_0_1_2_3_4_5_6_7_8_9_10_11_12_13_14_15_16_17_18_19_20_21_22_23_24 q cI cJ cD Tn Ta Fn Fa Ba Rn Ra Rb Rd Ua Wg Wz Ww Wr Mh Mn Mm Mt Mk Ms Me Mp Mw Ml My Oa Od) H → va_S (fun a : Nat => s.heap.size ≤ a) s.heap H locs → ∀ ls : Array Slot, lv_has ls 10 [(0, .ref b), (1, .ref (q 0)), (2, .ref (q 14)), (3, .ref (q 23)), (4, .ref (q 24)), (5, .int x5)] → W p l e room_1 s m #[Value.ref b] below meth c H locs (25 + k) (1025 + 6 * k) (lw_Z below #[Value.ref b] s) (F0 m 2283 ls []) := by
  obtain ⟨hx, hb, hr, hml, hown, hts0, hX, hbl, hlocks, hgv⟩ := id C0
  have hown : s.vm.findClass RL = some m.cls := hown
  have hts : ∀ w ∈ wsL_law, w.before #[Value.ref b] s = true := fun w h => hts0 w (wsL_law_in w h)
  have hbA : ¬ (fun a : Nat => s.heap.size ≤ a) b := Nat.not_le.mpr hbl
  have hcm : 25 + k + 1 ≤ 1058 := by omega
  have hsm : 1025 + 6 * k + 6 ≤ 9271 := by omega
  have hc0 : 25 + k ≤ 1058 := by omega
  have hs0 : 1025 + 6 * k ≤ 9271 := by omega
  intro H locs hP hS ls hl
  unfold fL_law_J2283 at hf
  refine lv_aload_n hx hb dL_law_2283 rfl (lv_at hl 1 rfl) ?_
  refine lv_aload_n hx hb dL_law_2284 rfl (lv_at hl 0 rfl) ?_
  refine lv_iload hx hb dL_law_2285 (lv_at hl 5 rfl) ?_
  refine lv_iconst (v := (1 : Int32)) hx hb dL_law_2287 (by decide) ?_
  refine lv_iadd hx hb dL_law_2288 ?_
  obtain ⟨g_1, hf⟩ := gd_some hf
  refine va_sld hx hb hX hbl hbA hS (inb_in g_1) dL_law_2289 ?_
  refine lv_aload_n hx hb dL_law_2290 rfl (lv_at hl 3 rfl) ?_
  obtain ⟨⟨r2291, Rn2291, Ra2291, Rb2291, Rd2291, Oa2291⟩, hc, hf⟩ := bn_some hf
  try dsimp only at hf
  refine g_call (mc := 1) (ms := 6) (ws' := (w_0_1_2_3_4_5_6_7_8_9_10_11_12_13_14_15_16_17_18_19_20_21_22_23_24 q cI cJ cD Tn Ta Fn Fa Ba Rn2291 Ra2291 Rb2291 Rd2291 Ua Wg Wz Ww Wr Mh Mn Mm Mt Mk Ms Me Mp Mw Ml My Oa2291 Od)) (st1 := [.int r2291]) hq [0, 1, 2, 3, 4, 5, 6, 7, 8, 9, 10, 11, 12, 13, 14, 15, 16, 17, 18, 19, 20, 21, 22, 23, 24] [0, 1, 2, 7, 8, 9, 10, 23] [.inl 0, .inl 1, .inl 2, .inr 3, .inr 4, .inr 5, .inr 6, .inl 3, .inl 4, .inl 5, .inl 6, .inr 11, .inr 12, .inr 13, .inr 14, .inr 15, .inr 16, .inr 17, .inr 18, .inr 19, .inr 20, .inr 21, .inr 22, .inl 7, .inr 24] (vx_runSW (As := [.ref (q 0), .int (xs ((x5 + (1 : Int32))).toNatClampNeg), .ref (q 23)]) (rest := []) ⟨hx, hb, hml, hown, hts⟩ (kL_runEnd l hlt D cI cJ cD sa q hq N Tn Ta Rn Ra Rb Rd Oa (xs ((x5 + (1 : Int32))).toNatClampNeg) r2291 Rn2291 Ra2291 Rb2291 Rd2291 Oa2291 hc) (vx_cwSW 3 hts gL_law_L_runEnd rfl rfl rfl (by decide +kernel) ⟨(Nat.le_of_ble_eq_true rfl), (Nat.le_of_ble_eq_true rfl)⟩) ⟨gPx_blind, fun U hU hW => ⟨rfl, by rw [hU]; exact hP.sub (ws' := (w_0_1_2_7_8_9_10_23 q cI cJ cD Tn Ta Rn Ra Rb Rd Oa)) [0, 1, 2, 7, 8, 9, 10, 23] rfl, gEv.warm hW hE, gXe.go hW hS (gMonoL hqA rfl) hXe hU⟩⟩ rfl rfl hl.1 rfl (lv_room (Nat.le_of_ble_eq_true rfl)) dL_law_2291 ⟨hcm, hsm⟩) hP hS (gSubL hqA rfl) rfl rfl rfl rfl rfl (fun H locs hP hS => ?_)
  refine lv_istore (lv' := [(6, .int r2291), (0, .ref b), (1, .ref (q 0)), (2, .ref (q 14)), (3, .ref (q 23)), (4, .ref (q 24)), (5, .int x5)]) hx hb dL_law_2294 hl (by decide) rfl (fun ls hl => ?_)
  refine lv_aload_n hx hb dL_law_2296 rfl (lv_at hl 3 rfl) ?_
  refine lv_aload_n hx hb dL_law_2297 rfl (lv_at hl 1 rfl) ?_
  refine lv_iload hx hb dL_law_2298 (lv_at hl 6 rfl) ?_
  refine lv_iconst (v := (1 : Int32)) hx hb dL_law_2300 (by decide) ?_
  refine lv_iadd hx hb dL_law_2301 ?_
  obtain ⟨g_2, hf⟩ := gd_some hf
  refine va_sld hx hb hX hbl hbA hS (inb_in g_2) dL_law_2302 ?_
  obtain ⟨⟨r2303, Mh2303, Mm2303, Ms2303, Me2303, Mp2303⟩, hc, hf⟩ := bn_some hf
  try dsimp only at hf
  refine g_call0 (ws' := (w_0_1_2_3_4_5_6_7_8_9_10_11_12_13_14_15_16_17_18_19_20_21_22_23_24 q cI cJ cD Tn Ta Fn Fa Ba Rn2291 Ra2291 Rb2291 Rd2291 Ua Wg Wz Ww Wr Mh2303 Mn Mm2303 Mt Mk Ms2303 Me2303 Mp2303 Mw Ml My Oa2291 Od)) (st1 := [.int r2303]) hq [0, 1, 2, 3, 4, 5, 6, 7, 8, 9, 10, 11, 12, 13, 14, 15, 16, 17, 18, 19, 20, 21, 22, 23, 24] [14, 15, 17, 18, 19] [.inr 0, .inr 1, .inr 2, .inr 3, .inr 4, .inr 5, .inr 6, .inr 7, .inr 8, .inr 9, .inr 10, .inr 11, .inr 12, .inr 13, .inl 0, .inl 1, .inr 16, .inl 2, .inl 3, .inl 4, .inr 20, .inr 21, .inr 22, .inr 23, .inr 24] (va_runV (As := [.int (xs ((x5 + (1 : Int32))).toNatClampNeg)]) (rest := []) ⟨hx, hb, hml, hown, hts⟩ (kX9_runEnd l D cI cJ cD q hq N Mh Mn Mm Mt Ms Me Mp (xs ((x5 + (1 : Int32))).toNatClampNeg) r2303 Mh2303 Mm2303 Ms2303 Me2303 Mp2303 hc) (cwV 1 hts gL_law_X9_runEnd rfl rfl rfl (by decide +kernel) ⟨(Nat.le_of_ble_eq_true rfl), (Nat.le_of_ble_eq_true rfl)⟩) ⟨gP_blind, va_recv hE.1 hP (ci := 7) (q0 := 14) rfl rfl, fun U hU hW => ⟨rfl, by rw [hU]; exact hP.sub (ws' := (w_14_15_17_18_19 q cI cJ cD Mh Mn Mm Mt Ms Me Mp)) [14, 15, 17, 18, 19] rfl, gEv.warm hW hE⟩⟩ rfl rfl hl.1 rfl (lv_room (Nat.le_of_ble_eq_true rfl)) dL_law_2303 ⟨hcm, hsm⟩) hP hS (gSubL hqA rfl) rfl rfl rfl rfl rfl (fun H locs hP hS => ?_)
  refine lv_istore (lv' := [(7, .int r2303), (6, .int r2291), (0, .ref b), (1, .ref (q 0)), (2, .ref (q 14)), (3, .ref (q 23)), (4, .ref (q 24)), (5, .int x5)]) hx hb dL_law_2306 hl (by decide) rfl (fun ls hl => ?_)
  refine lv_aload_n hx hb dL_law_2308 rfl (lv_at hl 4 rfl) ?_
  obtain ⟨r2309, hc, hf⟩ := bn_some hf
  try dsimp only at hf
  refine g_call0 (ws' := (w_0_1_2_3_4_5_6_7_8_9_10_11_12_13_14_15_16_17_18_19_20_21_22_23_24 q cI cJ cD Tn Ta Fn Fa Ba Rn2291 Ra2291 Rb2291 Rd2291 Ua Wg Wz Ww Wr Mh2303 Mn Mm2303 Mt Mk Ms2303 Me2303 Mp2303 Mw Ml My Oa2291 Od)) (st1 := [.int r2309]) hq [0, 1, 2, 3, 4, 5, 6, 7, 8, 9, 10, 11, 12, 13, 14, 15, 16, 17, 18, 19, 20, 21, 22, 23, 24] [14] [.inr 0, .inr 1, .inr 2, .inr 3, .inr 4, .inr 5, .inr 6, .inr 7, .inr 8, .inr 9, .inr 10, .inr 11, .inr 12, .inr 13, .inl 0, .inr 15, .inr 16, .inr 17, .inr 18, .inr 19, .inr 20, .inr 21, .inr 22, .inr 23, .inr 24] (va_runV (As := []) (rest := []) ⟨hx, hb, hml, hown, hts⟩ (kX9_thrown l D cI cJ cD q hq N Mh2303 Mn Mm2303 r2309 hc) (cwV 0 hts gL_law_X9_thrown rfl rfl rfl (by decide +kernel) ⟨(Nat.le_of_ble_eq_true rfl), (Nat.le_of_ble_eq_true rfl)⟩) ⟨gP_blind, va_recv hE.1 hP (ci := 7) (q0 := 14) rfl rfl, fun U hU hW => ⟨rfl, by rw [hU]; exact hP.sub (ws' := (w_14 q cI cJ cD Mh2303 Mn Mm2303)) [14] rfl, gEv.warm hW hE⟩⟩ rfl rfl hl.1 rfl (lv_room (Nat.le_of_ble_eq_true rfl)) dL_law_2309 ⟨hcm, hsm⟩) hP hS (gSubL hqA rfl) rfl rfl rfl rfl rfl (fun H locs hP hS => ?_)
  refine lv_iload hx hb dL_law_2312 (lv_at hl 1 rfl) ?_
  refine lv_icmp_eq (tgt := 2319) hx hb dL_law_2314 (by decide) (fun c_3 => ?_) (fun c_3 => ?_)
  · have hf := (if_pos c_3).symm.trans hf
    refine lv_iload hx hb dL_law_2319 (lv_at hl 1 rfl) ?_
    refine lv_if_ne (tgt := 2336) hx hb dL_law_2321 (by decide) (fun c_4 => ?_) (fun c_4 => ?_)
    · have hf := (if_neg c_4).symm.trans hf
      exact law_J2336 hL C0 hlt D cI cJ cD sa q hq hqA hE hXe N k h5 k28 ih Tn Ta Fn Fa Ba Rn2291 Ra2291 Rb2291 Rd2291 Ua Wg Wz Ww Wr Mh2303 Mn Mm2303 Mt Mk Ms2303 Me2303 Mp2303 Mw Ml My Oa2291 Od x5 hx5 hf _ _ hP hS _ (lv_sub hl [2, 3, 4, 5, 6, 7] rfl)
    · have hf := (if_pos c_4).symm.trans hf
      refine lv_aload_n hx hb dL_law_2324 rfl (lv_at hl 5 rfl) ?_
      refine lv_iconst (v := (0 : Int32)) hx hb dL_law_2325 (by decide) ?_
      obtain ⟨g_5, hf⟩ := gd_some hf
      refine va_lald hx hb hE.1 hP 23 1 rfl rfl (inb_in g_5) dL_law_2326 ?_
      refine lv_iload hx hb dL_law_2327 (lv_at hl 0 rfl) ?_
      refine lv_i2l (v := (r2303).toInt64) hx hb dL_law_2329 rfl ?_
      refine W.lcmp hx hb dL_law_2330 ?_
      refine lv_if_eq (tgt := 2336) hx hb dL_law_2331 (by decide) (fun c_6 => ?_) (fun c_6 => ?_)
      · have hf := (if_pos c_6).symm.trans hf
        exact law_J2336 hL C0 hlt D cI cJ cD sa q hq hqA hE hXe N k h5 k28 ih Tn Ta Fn Fa Ba Rn2291 Ra2291 Rb2291 Rd2291 Ua Wg Wz Ww Wr Mh2303 Mn Mm2303 Mt Mk Ms2303 Me2303 Mp2303 Mw Ml My Oa2291 Od x5 hx5 hf _ _ hP hS _ (lv_sub hl [2, 3, 4, 5, 6, 7] rfl)
      · have hf := (if_neg c_6).symm.trans hf
        exact law_J2334 hL C0 hlt D cI cJ cD sa q hq hqA hE hXe N k (by omega) Tn Ta Fn Fa Ba Rn2291 Ra2291 Rb2291 Rd2291 Ua Wg Wz Ww Wr Mh2303 Mn Mm2303 Mt Mk Ms2303 Me2303 Mp2303 Mw Ml My Oa2291 Od hf _ _ hP hS _ (lv_sub hl [] rfl)
  · have hf := (if_neg c_3).symm.trans hf
    exact law_J2317 hL C0 hlt D cI cJ cD sa q hq hqA hE hXe N k (by omega) Tn Ta Fn Fa Ba Rn2291 Ra2291 Rb2291 Rd2291 Ua Wg Wz Ww Wr Mh2303 Mn Mm2303 Mt Mk Ms2303 Me2303 Mp2303 Mw Ml My Oa2291 Od hf _ _ hP hS _ (lv_sub hl [] rfl)
set_option maxHeartbeats 4000000 in
set_option maxRecDepth 100000 in
theorem law_J2392 {p : Program} {l : Launch} {e : Env} {s : State} {m : MethodId} {below : List Frame} {meth : Method} {c : Code} {b L : Nat} {xs : Nat → Int32} (hL : L ≤ 2560) (C0 : lw_At p s m meth c b L xs) (hlt : l.stackTraces = false) (D : va_G) (cI cJ cD : ClassId) (sa : Nat → Nat) (q : Nat → Nat) (hq : gInj q) (hqA : ∀ k, k < 25 → s.heap.size ≤ q k) (hE : gEv D cI cJ cD s) (hXe : gXe sa (fun a => s.heap.size ≤ a) s s.heap) (N : Nat) (k : Nat) (h5 : 5 * k + 5 ≤ L) (k28 : Int32 → (Nat → Int32) → Int32 → (Nat → Int32) → (Nat → Int32) → Int32 → (Nat → Int32) → (Nat → Int32) → (Nat → Int32) → (Nat → Int32) → Int32 → Int32 → Int32 → Int32 → Int32 → Int32 → Int32 → (Nat → Int32) → (Nat → Int32) → (Nat → Int32) → (Nat → Int32) → (Nat → Int32) → (Nat → Int32) → (Nat → Int32) → (Nat → Int64) → (Nat → Int64) → (Nat → UInt64) → Int32 → Option Int32) (ih : lawIH p l e s m below meth c b D cI cJ cD q k k28) (Tn : Int32) (Ta : (Nat → Int32)) (Fn : Int32) (Fa : (Nat → Int32)) (Ba : (Nat → Int32)) (Rn : Int32) (Ra : (Nat → Int32)) (Rb : (Nat → Int32)) (Rd : (Nat → Int32)) (Ua : (Nat → Int32)) (Wg : Int32) (Wz : Int32) (Ww : Int32) (Wr : Int32) (Mh : Int32) (Mn : Int32) (Mm : Int32) (Mt : (Nat → Int32)) (Mk : (Nat → Int32)) (Ms : (Nat → Int32)) (Me : (Nat → Int32)) (Mp : (Nat → Int32)) (Mw : (Nat → Int32)) (Ml : (Nat → Int32)) (My : (Nat → Int64)) (Oa : (Nat → Int64)) (Od : (Nat → UInt64)) (x5 : Int32) (hx5 : x5 = nI (5 * k)) (hf : fL_law_J2392 N L xs k28 Tn Ta Fn Fa Ba Rn Ra Rb Rd Ua Wg Wz Ww Wr Mh Mn Mm Mt Mk Ms Me Mp Mw Ml My Oa Od x5 = some 1) : ∀ (H : Heap) (locs : List Loc), va_P D vwCl (w_0_1_2_3_4_5_6_7_8_9_10_11_12_13_14_15_16_17_18_19_20_21_22_23_24 q cI cJ cD Tn Ta Fn Fa Ba Rn Ra Rb Rd Ua Wg Wz Ww Wr Mh Mn Mm Mt Mk Ms Me Mp Mw Ml My Oa Od) H → va_S (fun a : Nat => s.heap.size ≤ a) s.heap H locs → ∀ ls : Array Slot, lv_has ls 10 [(0, .ref b), (1, .ref (q 0)), (2, .ref (q 14)), (3, .ref (q 23)), (4, .ref (q 24)), (5, .int x5)] → W p l e room_1 s m #[Value.ref b] below meth c H locs (25 + k + 1) (1025 + 6 * k + 6) (lw_Z below #[Value.ref b] s) (F0 m 2392 ls []) := by
  obtain ⟨hx, hb, hr, hml, hown, hts0, hX, hbl, hlocks, hgv⟩ := id C0
  have hown : s.vm.findClass RL = some m.cls := hown
  have hts : ∀ w ∈ wsL_law, w.before #[Value.ref b] s = true := fun w h => hts0 w (wsL_law_in w h)
  have hbA : ¬ (fun a : Nat => s.heap.size ≤ a) b := Nat.not_le.mpr hbl
  have hcm : 25 + k + 1 ≤ 1058 := by omega
  have hsm : 1025 + 6 * k + 6 ≤ 9271 := by omega
  have hc0 : 25 + k ≤ 1058 := by omega
  have hs0 : 1025 + 6 * k ≤ 9271 := by omega
  intro H locs hP hS ls hl
  unfold fL_law_J2392 at hf
  refine lv_goto (tgt := 2831) hx hb dL_law_2392 (by decide) ?_
  exact law_J2831 hL C0 hlt D cI cJ cD sa q hq hqA hE hXe N k h5 k28 ih Tn Ta Fn Fa Ba Rn Ra Rb Rd Ua Wg Wz Ww Wr Mh Mn Mm Mt Mk Ms Me Mp Mw Ml My Oa Od x5 hx5 hf _ _ hP hS _ (lv_sub hl [0, 1, 2, 3, 4, 5] rfl)
set_option maxHeartbeats 4000000 in
set_option maxRecDepth 100000 in
theorem law_J2339 {p : Program} {l : Launch} {e : Env} {s : State} {m : MethodId} {below : List Frame} {meth : Method} {c : Code} {b L : Nat} {xs : Nat → Int32} (hL : L ≤ 2560) (C0 : lw_At p s m meth c b L xs) (hlt : l.stackTraces = false) (D : va_G) (cI cJ cD : ClassId) (sa : Nat → Nat) (q : Nat → Nat) (hq : gInj q) (hqA : ∀ k, k < 25 → s.heap.size ≤ q k) (hE : gEv D cI cJ cD s) (hXe : gXe sa (fun a => s.heap.size ≤ a) s s.heap) (N : Nat) (k : Nat) (h5 : 5 * k + 5 ≤ L) (k28 : Int32 → (Nat → Int32) → Int32 → (Nat → Int32) → (Nat → Int32) → Int32 → (Nat → Int32) → (Nat → Int32) → (Nat → Int32) → (Nat → Int32) → Int32 → Int32 → Int32 → Int32 → Int32 → Int32 → Int32 → (Nat → Int32) → (Nat → Int32) → (Nat → Int32) → (Nat → Int32) → (Nat → Int32) → (Nat → Int32) → (Nat → Int32) → (Nat → Int64) → (Nat → Int64) → (Nat → UInt64) → Int32 → Option Int32) (ih : lawIH p l e s m below meth c b D cI cJ cD q k k28) (Tn : Int32) (Ta : (Nat → Int32)) (Fn : Int32) (Fa : (Nat → Int32)) (Ba : (Nat → Int32)) (Rn : Int32) (Ra : (Nat → Int32)) (Rb : (Nat → Int32)) (Rd : (Nat → Int32)) (Ua : (Nat → Int32)) (Wg : Int32) (Wz : Int32) (Ww : Int32) (Wr : Int32) (Mh : Int32) (Mn : Int32) (Mm : Int32) (Mt : (Nat → Int32)) (Mk : (Nat → Int32)) (Ms : (Nat → Int32)) (Me : (Nat → Int32)) (Mp : (Nat → Int32)) (Mw : (Nat → Int32)) (Ml : (Nat → Int32)) (My : (Nat → Int64)) (Oa : (Nat → Int64)) (Od : (Nat → UInt64)) (x5 : Int32) (hx5 : x5 = nI (5 * k)) (hf : fL_law_J2339 N L xs k28 Tn Ta Fn Fa Ba Rn Ra Rb Rd Ua Wg Wz Ww Wr Mh Mn Mm Mt Mk Ms Me Mp Mw Ml My Oa Od x5 = some 1) : ∀ (H : Heap) (locs : List Loc), va_P D vwCl (w_0_1_2_3_4_5_6_7_8_9_10_11_12_13_14_15_16_17_18_19_20_21_22_23_24 q cI cJ cD Tn Ta Fn Fa Ba Rn Ra Rb Rd Ua Wg Wz Ww Wr Mh Mn Mm Mt Mk Ms Me Mp Mw Ml My Oa Od) H → va_S (fun a : Nat => s.heap.size ≤ a) s.heap H locs → ∀ ls : Array Slot, lv_has ls 10 [(0, .ref b), (1, .ref (q 0)), (2, .ref (q 14)), (3, .ref (q 23)), (4, .ref (q 24)), (5, .int x5)] → W p l e room_1 s m #[Value.ref b] below meth c H locs (25 + k) (1025 + 6 * k) (lw_Z below #[Value.ref b] s) (F0 m 2339 ls []) := by
  obtain ⟨hx, hb, hr, hml, hown, hts0, hX, hbl, hlocks, hgv⟩ := id C0
  have hown : s.vm.findClass RL = some m.cls := hown
  have hts : ∀ w ∈ wsL_law, w.before #[Value.ref b] s = true := fun w h => hts0 w (wsL_law_in w h)
  have hbA : ¬ (fun a : Nat => s.heap.size ≤ a) b := Nat.not_le.mpr hbl
  have hcm : 25 + k + 1 ≤ 1058 := by omega
  have hsm : 1025 + 6 * k + 6 ≤ 9271 := by omega
  have hc0 : 25 + k ≤ 1058 := by omega
  have hs0 : 1025 + 6 * k ≤ 9271 := by omega
  intro H locs hP hS ls hl
  unfold fL_law_J2339 at hf
  refine lv_aload_n hx hb dL_law_2339 rfl (lv_at hl 1 rfl) ?_
  refine lv_aload_n hx hb dL_law_2340 rfl (lv_at hl 0 rfl) ?_
  refine lv_iload hx hb dL_law_2341 (lv_at hl 5 rfl) ?_
  refine lv_iconst (v := (1 : Int32)) hx hb dL_law_2343 (by decide) ?_
  refine lv_iadd hx hb dL_law_2344 ?_
  obtain ⟨g_1, hf⟩ := gd_some hf
  refine va_sld hx hb hX hbl hbA hS (inb_in g_1) dL_law_2345 ?_
  refine lv_aload_n hx hb dL_law_2346 rfl (lv_at hl 3 rfl) ?_
  obtain ⟨⟨r2347, Rn2347, Ra2347, Rb2347, Rd2347, Oa2347⟩, hc, hf⟩ := bn_some hf
  try dsimp only at hf
  refine g_call (mc := 1) (ms := 6) (ws' := (w_0_1_2_3_4_5_6_7_8_9_10_11_12_13_14_15_16_17_18_19_20_21_22_23_24 q cI cJ cD Tn Ta Fn Fa Ba Rn2347 Ra2347 Rb2347 Rd2347 Ua Wg Wz Ww Wr Mh Mn Mm Mt Mk Ms Me Mp Mw Ml My Oa2347 Od)) (st1 := [.int r2347]) hq [0, 1, 2, 3, 4, 5, 6, 7, 8, 9, 10, 11, 12, 13, 14, 15, 16, 17, 18, 19, 20, 21, 22, 23, 24] [0, 1, 2, 7, 8, 9, 10, 23] [.inl 0, .inl 1, .inl 2, .inr 3, .inr 4, .inr 5, .inr 6, .inl 3, .inl 4, .inl 5, .inl 6, .inr 11, .inr 12, .inr 13, .inr 14, .inr 15, .inr 16, .inr 17, .inr 18, .inr 19, .inr 20, .inr 21, .inr 22, .inl 7, .inr 24] (vx_runSW (As := [.ref (q 0), .int (xs ((x5 + (1 : Int32))).toNatClampNeg), .ref (q 23)]) (rest := []) ⟨hx, hb, hml, hown, hts⟩ (kL_runPeriod l hlt D cI cJ cD sa q hq N Tn Ta Rn Ra Rb Rd Oa (xs ((x5 + (1 : Int32))).toNatClampNeg) r2347 Rn2347 Ra2347 Rb2347 Rd2347 Oa2347 hc) (vx_cwSW 3 hts gL_law_L_runPeriod rfl rfl rfl (by decide +kernel) ⟨(Nat.le_of_ble_eq_true rfl), (Nat.le_of_ble_eq_true rfl)⟩) ⟨gPx_blind, fun U hU hW => ⟨rfl, by rw [hU]; exact hP.sub (ws' := (w_0_1_2_7_8_9_10_23 q cI cJ cD Tn Ta Rn Ra Rb Rd Oa)) [0, 1, 2, 7, 8, 9, 10, 23] rfl, gEv.warm hW hE, gXe.go hW hS (gMonoL hqA rfl) hXe hU⟩⟩ rfl rfl hl.1 rfl (lv_room (Nat.le_of_ble_eq_true rfl)) dL_law_2347 ⟨hcm, hsm⟩) hP hS (gSubL hqA rfl) rfl rfl rfl rfl rfl (fun H locs hP hS => ?_)
  refine lv_istore (lv' := [(6, .int r2347), (0, .ref b), (1, .ref (q 0)), (2, .ref (q 14)), (3, .ref (q 23)), (4, .ref (q 24)), (5, .int x5)]) hx hb dL_law_2350 hl (by decide) rfl (fun ls hl => ?_)
  refine lv_aload_n hx hb dL_law_2352 rfl (lv_at hl 3 rfl) ?_
  refine lv_aload_n hx hb dL_law_2353 rfl (lv_at hl 1 rfl) ?_
  refine lv_iload hx hb dL_law_2354 (lv_at hl 6 rfl) ?_
  refine lv_iconst (v := (1 : Int32)) hx hb dL_law_2356 (by decide) ?_
  refine lv_iadd hx hb dL_law_2357 ?_
  obtain ⟨g_2, hf⟩ := gd_some hf
  refine va_sld hx hb hX hbl hbA hS (inb_in g_2) dL_law_2358 ?_
  obtain ⟨⟨r2359, Mh2359, Mm2359, Ms2359, Me2359, Mp2359⟩, hc, hf⟩ := bn_some hf
  try dsimp only at hf
  refine g_call0 (ws' := (w_0_1_2_3_4_5_6_7_8_9_10_11_12_13_14_15_16_17_18_19_20_21_22_23_24 q cI cJ cD Tn Ta Fn Fa Ba Rn2347 Ra2347 Rb2347 Rd2347 Ua Wg Wz Ww Wr Mh2359 Mn Mm2359 Mt Mk Ms2359 Me2359 Mp2359 Mw Ml My Oa2347 Od)) (st1 := [.int r2359]) hq [0, 1, 2, 3, 4, 5, 6, 7, 8, 9, 10, 11, 12, 13, 14, 15, 16, 17, 18, 19, 20, 21, 22, 23, 24] [14, 15, 17, 18, 19] [.inr 0, .inr 1, .inr 2, .inr 3, .inr 4, .inr 5, .inr 6, .inr 7, .inr 8, .inr 9, .inr 10, .inr 11, .inr 12, .inr 13, .inl 0, .inl 1, .inr 16, .inl 2, .inl 3, .inl 4, .inr 20, .inr 21, .inr 22, .inr 23, .inr 24] (va_runV (As := [.int (xs ((x5 + (1 : Int32))).toNatClampNeg)]) (rest := []) ⟨hx, hb, hml, hown, hts⟩ (kX9_runPeriod l D cI cJ cD q hq N Mh Mn Mm Mt Ms Me Mp (xs ((x5 + (1 : Int32))).toNatClampNeg) r2359 Mh2359 Mm2359 Ms2359 Me2359 Mp2359 hc) (cwV 1 hts gL_law_X9_runPeriod rfl rfl rfl (by decide +kernel) ⟨(Nat.le_of_ble_eq_true rfl), (Nat.le_of_ble_eq_true rfl)⟩) ⟨gP_blind, va_recv hE.1 hP (ci := 7) (q0 := 14) rfl rfl, fun U hU hW => ⟨rfl, by rw [hU]; exact hP.sub (ws' := (w_14_15_17_18_19 q cI cJ cD Mh Mn Mm Mt Ms Me Mp)) [14, 15, 17, 18, 19] rfl, gEv.warm hW hE⟩⟩ rfl rfl hl.1 rfl (lv_room (Nat.le_of_ble_eq_true rfl)) dL_law_2359 ⟨hcm, hsm⟩) hP hS (gSubL hqA rfl) rfl rfl rfl rfl rfl (fun H locs hP hS => ?_)
  refine lv_istore (lv' := [(7, .int r2359), (6, .int r2347), (0, .ref b), (1, .ref (q 0)), (2, .ref (q 14)), (3, .ref (q 23)), (4, .ref (q 24)), (5, .int x5)]) hx hb dL_law_2362 hl (by decide) rfl (fun ls hl => ?_)
  refine lv_aload_n hx hb dL_law_2364 rfl (lv_at hl 4 rfl) ?_
  obtain ⟨r2365, hc, hf⟩ := bn_some hf
  try dsimp only at hf
  refine g_call0 (ws' := (w_0_1_2_3_4_5_6_7_8_9_10_11_12_13_14_15_16_17_18_19_20_21_22_23_24 q cI cJ cD Tn Ta Fn Fa Ba Rn2347 Ra2347 Rb2347 Rd2347 Ua Wg Wz Ww Wr Mh2359 Mn Mm2359 Mt Mk Ms2359 Me2359 Mp2359 Mw Ml My Oa2347 Od)) (st1 := [.int r2365]) hq [0, 1, 2, 3, 4, 5, 6, 7, 8, 9, 10, 11, 12, 13, 14, 15, 16, 17, 18, 19, 20, 21, 22, 23, 24] [14] [.inr 0, .inr 1, .inr 2, .inr 3, .inr 4, .inr 5, .inr 6, .inr 7, .inr 8, .inr 9, .inr 10, .inr 11, .inr 12, .inr 13, .inl 0, .inr 15, .inr 16, .inr 17, .inr 18, .inr 19, .inr 20, .inr 21, .inr 22, .inr 23, .inr 24] (va_runV (As := []) (rest := []) ⟨hx, hb, hml, hown, hts⟩ (kX9_thrown l D cI cJ cD q hq N Mh2359 Mn Mm2359 r2365 hc) (cwV 0 hts gL_law_X9_thrown rfl rfl rfl (by decide +kernel) ⟨(Nat.le_of_ble_eq_true rfl), (Nat.le_of_ble_eq_true rfl)⟩) ⟨gP_blind, va_recv hE.1 hP (ci := 7) (q0 := 14) rfl rfl, fun U hU hW => ⟨rfl, by rw [hU]; exact hP.sub (ws' := (w_14 q cI cJ cD Mh2359 Mn Mm2359)) [14] rfl, gEv.warm hW hE⟩⟩ rfl rfl hl.1 rfl (lv_room (Nat.le_of_ble_eq_true rfl)) dL_law_2365 ⟨hcm, hsm⟩) hP hS (gSubL hqA rfl) rfl rfl rfl rfl rfl (fun H locs hP hS => ?_)
  refine lv_iload hx hb dL_law_2368 (lv_at hl 1 rfl) ?_
  refine lv_icmp_eq (tgt := 2375) hx hb dL_law_2370 (by decide) (fun c_3 => ?_) (fun c_3 => ?_)
  · have hf := (if_pos c_3).symm.trans hf
    refine lv_iload hx hb dL_law_2375 (lv_at hl 1 rfl) ?_
    refine lv_if_ne (tgt := 2392) hx hb dL_law_2377 (by decide) (fun c_4 => ?_) (fun c_4 => ?_)
    · have hf := (if_neg c_4).symm.trans hf
      exact law_J2392 hL C0 hlt D cI cJ cD sa q hq hqA hE hXe N k h5 k28 ih Tn Ta Fn Fa Ba Rn2347 Ra2347 Rb2347 Rd2347 Ua Wg Wz Ww Wr Mh2359 Mn Mm2359 Mt Mk Ms2359 Me2359 Mp2359 Mw Ml My Oa2347 Od x5 hx5 hf _ _ hP hS _ (lv_sub hl [2, 3, 4, 5, 6, 7] rfl)
    · have hf := (if_pos c_4).symm.trans hf
      refine lv_aload_n hx hb dL_law_2380 rfl (lv_at hl 5 rfl) ?_
      refine lv_iconst (v := (0 : Int32)) hx hb dL_law_2381 (by decide) ?_
      obtain ⟨g_5, hf⟩ := gd_some hf
      refine va_lald hx hb hE.1 hP 23 1 rfl rfl (inb_in g_5) dL_law_2382 ?_
      refine lv_iload hx hb dL_law_2383 (lv_at hl 0 rfl) ?_
      refine lv_i2l (v := (r2359).toInt64) hx hb dL_law_2385 rfl ?_
      refine W.lcmp hx hb dL_law_2386 ?_
      refine lv_if_eq (tgt := 2392) hx hb dL_law_2387 (by decide) (fun c_6 => ?_) (fun c_6 => ?_)
      · have hf := (if_pos c_6).symm.trans hf
        exact law_J2392 hL C0 hlt D cI cJ cD sa q hq hqA hE hXe N k h5 k28 ih Tn Ta Fn Fa Ba Rn2347 Ra2347 Rb2347 Rd2347 Ua Wg Wz Ww Wr Mh2359 Mn Mm2359 Mt Mk Ms2359 Me2359 Mp2359 Mw Ml My Oa2347 Od x5 hx5 hf _ _ hP hS _ (lv_sub hl [2, 3, 4, 5, 6, 7] rfl)
      · have hf := (if_neg c_6).symm.trans hf
        exact law_J2390 hL C0 hlt D cI cJ cD sa q hq hqA hE hXe N k (by omega) Tn Ta Fn Fa Ba Rn2347 Ra2347 Rb2347 Rd2347 Ua Wg Wz Ww Wr Mh2359 Mn Mm2359 Mt Mk Ms2359 Me2359 Mp2359 Mw Ml My Oa2347 Od hf _ _ hP hS _ (lv_sub hl [] rfl)
  · have hf := (if_neg c_3).symm.trans hf
    exact law_J2373 hL C0 hlt D cI cJ cD sa q hq hqA hE hXe N k (by omega) Tn Ta Fn Fa Ba Rn2347 Ra2347 Rb2347 Rd2347 Ua Wg Wz Ww Wr Mh2359 Mn Mm2359 Mt Mk Ms2359 Me2359 Mp2359 Mw Ml My Oa2347 Od hf _ _ hP hS _ (lv_sub hl [] rfl)
set_option maxHeartbeats 4000000 in
set_option maxRecDepth 100000 in
theorem law_J2448 {p : Program} {l : Launch} {e : Env} {s : State} {m : MethodId} {below : List Frame} {meth : Method} {c : Code} {b L : Nat} {xs : Nat → Int32} (hL : L ≤ 2560) (C0 : lw_At p s m meth c b L xs) (hlt : l.stackTraces = false) (D : va_G) (cI cJ cD : ClassId) (sa : Nat → Nat) (q : Nat → Nat) (hq : gInj q) (hqA : ∀ k, k < 25 → s.heap.size ≤ q k) (hE : gEv D cI cJ cD s) (hXe : gXe sa (fun a => s.heap.size ≤ a) s s.heap) (N : Nat) (k : Nat) (h5 : 5 * k + 5 ≤ L) (k28 : Int32 → (Nat → Int32) → Int32 → (Nat → Int32) → (Nat → Int32) → Int32 → (Nat → Int32) → (Nat → Int32) → (Nat → Int32) → (Nat → Int32) → Int32 → Int32 → Int32 → Int32 → Int32 → Int32 → Int32 → (Nat → Int32) → (Nat → Int32) → (Nat → Int32) → (Nat → Int32) → (Nat → Int32) → (Nat → Int32) → (Nat → Int32) → (Nat → Int64) → (Nat → Int64) → (Nat → UInt64) → Int32 → Option Int32) (ih : lawIH p l e s m below meth c b D cI cJ cD q k k28) (Tn : Int32) (Ta : (Nat → Int32)) (Fn : Int32) (Fa : (Nat → Int32)) (Ba : (Nat → Int32)) (Rn : Int32) (Ra : (Nat → Int32)) (Rb : (Nat → Int32)) (Rd : (Nat → Int32)) (Ua : (Nat → Int32)) (Wg : Int32) (Wz : Int32) (Ww : Int32) (Wr : Int32) (Mh : Int32) (Mn : Int32) (Mm : Int32) (Mt : (Nat → Int32)) (Mk : (Nat → Int32)) (Ms : (Nat → Int32)) (Me : (Nat → Int32)) (Mp : (Nat → Int32)) (Mw : (Nat → Int32)) (Ml : (Nat → Int32)) (My : (Nat → Int64)) (Oa : (Nat → Int64)) (Od : (Nat → UInt64)) (x5 : Int32) (hx5 : x5 = nI (5 * k)) (hf : fL_law_J2448 N L xs k28 Tn Ta Fn Fa Ba Rn Ra Rb Rd Ua Wg Wz Ww Wr Mh Mn Mm Mt Mk Ms Me Mp Mw Ml My Oa Od x5 = some 1) : ∀ (H : Heap) (locs : List Loc), va_P D vwCl (w_0_1_2_3_4_5_6_7_8_9_10_11_12_13_14_15_16_17_18_19_20_21_22_23_24 q cI cJ cD Tn Ta Fn Fa Ba Rn Ra Rb Rd Ua Wg Wz Ww Wr Mh Mn Mm Mt Mk Ms Me Mp Mw Ml My Oa Od) H → va_S (fun a : Nat => s.heap.size ≤ a) s.heap H locs → ∀ ls : Array Slot, lv_has ls 10 [(0, .ref b), (1, .ref (q 0)), (2, .ref (q 14)), (3, .ref (q 23)), (4, .ref (q 24)), (5, .int x5)] → W p l e room_1 s m #[Value.ref b] below meth c H locs (25 + k + 1) (1025 + 6 * k + 6) (lw_Z below #[Value.ref b] s) (F0 m 2448 ls []) := by
  obtain ⟨hx, hb, hr, hml, hown, hts0, hX, hbl, hlocks, hgv⟩ := id C0
  have hown : s.vm.findClass RL = some m.cls := hown
  have hts : ∀ w ∈ wsL_law, w.before #[Value.ref b] s = true := fun w h => hts0 w (wsL_law_in w h)
  have hbA : ¬ (fun a : Nat => s.heap.size ≤ a) b := Nat.not_le.mpr hbl
  have hcm : 25 + k + 1 ≤ 1058 := by omega
  have hsm : 1025 + 6 * k + 6 ≤ 9271 := by omega
  have hc0 : 25 + k ≤ 1058 := by omega
  have hs0 : 1025 + 6 * k ≤ 9271 := by omega
  intro H locs hP hS ls hl
  unfold fL_law_J2448 at hf
  refine lv_goto (tgt := 2831) hx hb dL_law_2448 (by decide) ?_
  exact law_J2831 hL C0 hlt D cI cJ cD sa q hq hqA hE hXe N k h5 k28 ih Tn Ta Fn Fa Ba Rn Ra Rb Rd Ua Wg Wz Ww Wr Mh Mn Mm Mt Mk Ms Me Mp Mw Ml My Oa Od x5 hx5 hf _ _ hP hS _ (lv_sub hl [0, 1, 2, 3, 4, 5] rfl)
set_option maxHeartbeats 4000000 in
set_option maxRecDepth 100000 in
theorem law_J2395 {p : Program} {l : Launch} {e : Env} {s : State} {m : MethodId} {below : List Frame} {meth : Method} {c : Code} {b L : Nat} {xs : Nat → Int32} (hL : L ≤ 2560) (C0 : lw_At p s m meth c b L xs) (hlt : l.stackTraces = false) (D : va_G) (cI cJ cD : ClassId) (sa : Nat → Nat) (q : Nat → Nat) (hq : gInj q) (hqA : ∀ k, k < 25 → s.heap.size ≤ q k) (hE : gEv D cI cJ cD s) (hXe : gXe sa (fun a => s.heap.size ≤ a) s s.heap) (N : Nat) (k : Nat) (h5 : 5 * k + 5 ≤ L) (k28 : Int32 → (Nat → Int32) → Int32 → (Nat → Int32) → (Nat → Int32) → Int32 → (Nat → Int32) → (Nat → Int32) → (Nat → Int32) → (Nat → Int32) → Int32 → Int32 → Int32 → Int32 → Int32 → Int32 → Int32 → (Nat → Int32) → (Nat → Int32) → (Nat → Int32) → (Nat → Int32) → (Nat → Int32) → (Nat → Int32) → (Nat → Int32) → (Nat → Int64) → (Nat → Int64) → (Nat → UInt64) → Int32 → Option Int32) (ih : lawIH p l e s m below meth c b D cI cJ cD q k k28) (Tn : Int32) (Ta : (Nat → Int32)) (Fn : Int32) (Fa : (Nat → Int32)) (Ba : (Nat → Int32)) (Rn : Int32) (Ra : (Nat → Int32)) (Rb : (Nat → Int32)) (Rd : (Nat → Int32)) (Ua : (Nat → Int32)) (Wg : Int32) (Wz : Int32) (Ww : Int32) (Wr : Int32) (Mh : Int32) (Mn : Int32) (Mm : Int32) (Mt : (Nat → Int32)) (Mk : (Nat → Int32)) (Ms : (Nat → Int32)) (Me : (Nat → Int32)) (Mp : (Nat → Int32)) (Mw : (Nat → Int32)) (Ml : (Nat → Int32)) (My : (Nat → Int64)) (Oa : (Nat → Int64)) (Od : (Nat → UInt64)) (x5 : Int32) (hx5 : x5 = nI (5 * k)) (hf : fL_law_J2395 N L xs k28 Tn Ta Fn Fa Ba Rn Ra Rb Rd Ua Wg Wz Ww Wr Mh Mn Mm Mt Mk Ms Me Mp Mw Ml My Oa Od x5 = some 1) : ∀ (H : Heap) (locs : List Loc), va_P D vwCl (w_0_1_2_3_4_5_6_7_8_9_10_11_12_13_14_15_16_17_18_19_20_21_22_23_24 q cI cJ cD Tn Ta Fn Fa Ba Rn Ra Rb Rd Ua Wg Wz Ww Wr Mh Mn Mm Mt Mk Ms Me Mp Mw Ml My Oa Od) H → va_S (fun a : Nat => s.heap.size ≤ a) s.heap H locs → ∀ ls : Array Slot, lv_has ls 10 [(0, .ref b), (1, .ref (q 0)), (2, .ref (q 14)), (3, .ref (q 23)), (4, .ref (q 24)), (5, .int x5)] → W p l e room_1 s m #[Value.ref b] below meth c H locs (25 + k) (1025 + 6 * k) (lw_Z below #[Value.ref b] s) (F0 m 2395 ls []) := by
  obtain ⟨hx, hb, hr, hml, hown, hts0, hX, hbl, hlocks, hgv⟩ := id C0
  have hown : s.vm.findClass RL = some m.cls := hown
  have hts : ∀ w ∈ wsL_law, w.before #[Value.ref b] s = true := fun w h => hts0 w (wsL_law_in w h)
  have hbA : ¬ (fun a : Nat => s.heap.size ≤ a) b := Nat.not_le.mpr hbl
  have hcm : 25 + k + 1 ≤ 1058 := by omega
  have hsm : 1025 + 6 * k + 6 ≤ 9271 := by omega
  have hc0 : 25 + k ≤ 1058 := by omega
  have hs0 : 1025 + 6 * k ≤ 9271 := by omega
  intro H locs hP hS ls hl
  unfold fL_law_J2395 at hf
  refine lv_aload_n hx hb dL_law_2395 rfl (lv_at hl 1 rfl) ?_
  refine lv_aload_n hx hb dL_law_2396 rfl (lv_at hl 0 rfl) ?_
  refine lv_iload hx hb dL_law_2397 (lv_at hl 5 rfl) ?_
  refine lv_iconst (v := (1 : Int32)) hx hb dL_law_2399 (by decide) ?_
  refine lv_iadd hx hb dL_law_2400 ?_
  obtain ⟨g_1, hf⟩ := gd_some hf
  refine va_sld hx hb hX hbl hbA hS (inb_in g_1) dL_law_2401 ?_
  refine lv_aload_n hx hb dL_law_2402 rfl (lv_at hl 3 rfl) ?_
  obtain ⟨⟨r2403, Rn2403, Ra2403, Rb2403, Rd2403, Oa2403⟩, hc, hf⟩ := bn_some hf
  try dsimp only at hf
  refine g_call (mc := 1) (ms := 6) (ws' := (w_0_1_2_3_4_5_6_7_8_9_10_11_12_13_14_15_16_17_18_19_20_21_22_23_24 q cI cJ cD Tn Ta Fn Fa Ba Rn2403 Ra2403 Rb2403 Rd2403 Ua Wg Wz Ww Wr Mh Mn Mm Mt Mk Ms Me Mp Mw Ml My Oa2403 Od)) (st1 := [.int r2403]) hq [0, 1, 2, 3, 4, 5, 6, 7, 8, 9, 10, 11, 12, 13, 14, 15, 16, 17, 18, 19, 20, 21, 22, 23, 24] [0, 1, 2, 7, 8, 9, 10, 23] [.inl 0, .inl 1, .inl 2, .inr 3, .inr 4, .inr 5, .inr 6, .inl 3, .inl 4, .inl 5, .inl 6, .inr 11, .inr 12, .inr 13, .inr 14, .inr 15, .inr 16, .inr 17, .inr 18, .inr 19, .inr 20, .inr 21, .inr 22, .inl 7, .inr 24] (vx_runSW (As := [.ref (q 0), .int (xs ((x5 + (1 : Int32))).toNatClampNeg), .ref (q 23)]) (rest := []) ⟨hx, hb, hml, hown, hts⟩ (kL_runsOver l hlt D cI cJ cD sa q hq N Tn Ta Rn Ra Rb Rd Oa (xs ((x5 + (1 : Int32))).toNatClampNeg) r2403 Rn2403 Ra2403 Rb2403 Rd2403 Oa2403 hc) (vx_cwSW 3 hts gL_law_L_runsOver rfl rfl rfl (by decide +kernel) ⟨(Nat.le_of_ble_eq_true rfl), (Nat.le_of_ble_eq_true rfl)⟩) ⟨gPx_blind, fun U hU hW => ⟨rfl, by rw [hU]; exact hP.sub (ws' := (w_0_1_2_7_8_9_10_23 q cI cJ cD Tn Ta Rn Ra Rb Rd Oa)) [0, 1, 2, 7, 8, 9, 10, 23] rfl, gEv.warm hW hE, gXe.go hW hS (gMonoL hqA rfl) hXe hU⟩⟩ rfl rfl hl.1 rfl (lv_room (Nat.le_of_ble_eq_true rfl)) dL_law_2403 ⟨hcm, hsm⟩) hP hS (gSubL hqA rfl) rfl rfl rfl rfl rfl (fun H locs hP hS => ?_)
  refine lv_istore (lv' := [(6, .int r2403), (0, .ref b), (1, .ref (q 0)), (2, .ref (q 14)), (3, .ref (q 23)), (4, .ref (q 24)), (5, .int x5)]) hx hb dL_law_2406 hl (by decide) rfl (fun ls hl => ?_)
  refine lv_aload_n hx hb dL_law_2408 rfl (lv_at hl 3 rfl) ?_
  refine lv_aload_n hx hb dL_law_2409 rfl (lv_at hl 1 rfl) ?_
  refine lv_iload hx hb dL_law_2410 (lv_at hl 6 rfl) ?_
  refine lv_iconst (v := (1 : Int32)) hx hb dL_law_2412 (by decide) ?_
  refine lv_iadd hx hb dL_law_2413 ?_
  obtain ⟨g_2, hf⟩ := gd_some hf
  refine va_sld hx hb hX hbl hbA hS (inb_in g_2) dL_law_2414 ?_
  obtain ⟨⟨r2415, Mh2415, Mm2415, Ms2415, Me2415, Mp2415⟩, hc, hf⟩ := bn_some hf
  try dsimp only at hf
  refine g_call0 (ws' := (w_0_1_2_3_4_5_6_7_8_9_10_11_12_13_14_15_16_17_18_19_20_21_22_23_24 q cI cJ cD Tn Ta Fn Fa Ba Rn2403 Ra2403 Rb2403 Rd2403 Ua Wg Wz Ww Wr Mh2415 Mn Mm2415 Mt Mk Ms2415 Me2415 Mp2415 Mw Ml My Oa2403 Od)) (st1 := [.int r2415]) hq [0, 1, 2, 3, 4, 5, 6, 7, 8, 9, 10, 11, 12, 13, 14, 15, 16, 17, 18, 19, 20, 21, 22, 23, 24] [14, 15, 17, 18, 19] [.inr 0, .inr 1, .inr 2, .inr 3, .inr 4, .inr 5, .inr 6, .inr 7, .inr 8, .inr 9, .inr 10, .inr 11, .inr 12, .inr 13, .inl 0, .inl 1, .inr 16, .inl 2, .inl 3, .inl 4, .inr 20, .inr 21, .inr 22, .inr 23, .inr 24] (va_runV (As := [.int (xs ((x5 + (1 : Int32))).toNatClampNeg)]) (rest := []) ⟨hx, hb, hml, hown, hts⟩ (kX9_runsOver l D cI cJ cD q hq N Mh Mn Mm Mt Ms Me Mp (xs ((x5 + (1 : Int32))).toNatClampNeg) r2415 Mh2415 Mm2415 Ms2415 Me2415 Mp2415 hc) (cwV 1 hts gL_law_X9_runsOver rfl rfl rfl (by decide +kernel) ⟨(Nat.le_of_ble_eq_true rfl), (Nat.le_of_ble_eq_true rfl)⟩) ⟨gP_blind, va_recv hE.1 hP (ci := 7) (q0 := 14) rfl rfl, fun U hU hW => ⟨rfl, by rw [hU]; exact hP.sub (ws' := (w_14_15_17_18_19 q cI cJ cD Mh Mn Mm Mt Ms Me Mp)) [14, 15, 17, 18, 19] rfl, gEv.warm hW hE⟩⟩ rfl rfl hl.1 rfl (lv_room (Nat.le_of_ble_eq_true rfl)) dL_law_2415 ⟨hcm, hsm⟩) hP hS (gSubL hqA rfl) rfl rfl rfl rfl rfl (fun H locs hP hS => ?_)
  refine lv_istore (lv' := [(7, .int r2415), (6, .int r2403), (0, .ref b), (1, .ref (q 0)), (2, .ref (q 14)), (3, .ref (q 23)), (4, .ref (q 24)), (5, .int x5)]) hx hb dL_law_2418 hl (by decide) rfl (fun ls hl => ?_)
  refine lv_aload_n hx hb dL_law_2420 rfl (lv_at hl 4 rfl) ?_
  obtain ⟨r2421, hc, hf⟩ := bn_some hf
  try dsimp only at hf
  refine g_call0 (ws' := (w_0_1_2_3_4_5_6_7_8_9_10_11_12_13_14_15_16_17_18_19_20_21_22_23_24 q cI cJ cD Tn Ta Fn Fa Ba Rn2403 Ra2403 Rb2403 Rd2403 Ua Wg Wz Ww Wr Mh2415 Mn Mm2415 Mt Mk Ms2415 Me2415 Mp2415 Mw Ml My Oa2403 Od)) (st1 := [.int r2421]) hq [0, 1, 2, 3, 4, 5, 6, 7, 8, 9, 10, 11, 12, 13, 14, 15, 16, 17, 18, 19, 20, 21, 22, 23, 24] [14] [.inr 0, .inr 1, .inr 2, .inr 3, .inr 4, .inr 5, .inr 6, .inr 7, .inr 8, .inr 9, .inr 10, .inr 11, .inr 12, .inr 13, .inl 0, .inr 15, .inr 16, .inr 17, .inr 18, .inr 19, .inr 20, .inr 21, .inr 22, .inr 23, .inr 24] (va_runV (As := []) (rest := []) ⟨hx, hb, hml, hown, hts⟩ (kX9_thrown l D cI cJ cD q hq N Mh2415 Mn Mm2415 r2421 hc) (cwV 0 hts gL_law_X9_thrown rfl rfl rfl (by decide +kernel) ⟨(Nat.le_of_ble_eq_true rfl), (Nat.le_of_ble_eq_true rfl)⟩) ⟨gP_blind, va_recv hE.1 hP (ci := 7) (q0 := 14) rfl rfl, fun U hU hW => ⟨rfl, by rw [hU]; exact hP.sub (ws' := (w_14 q cI cJ cD Mh2415 Mn Mm2415)) [14] rfl, gEv.warm hW hE⟩⟩ rfl rfl hl.1 rfl (lv_room (Nat.le_of_ble_eq_true rfl)) dL_law_2421 ⟨hcm, hsm⟩) hP hS (gSubL hqA rfl) rfl rfl rfl rfl rfl (fun H locs hP hS => ?_)
  refine lv_iload hx hb dL_law_2424 (lv_at hl 1 rfl) ?_
  refine lv_icmp_eq (tgt := 2431) hx hb dL_law_2426 (by decide) (fun c_3 => ?_) (fun c_3 => ?_)
  · have hf := (if_pos c_3).symm.trans hf
    refine lv_iload hx hb dL_law_2431 (lv_at hl 1 rfl) ?_
    refine lv_if_ne (tgt := 2448) hx hb dL_law_2433 (by decide) (fun c_4 => ?_) (fun c_4 => ?_)
    · have hf := (if_neg c_4).symm.trans hf
      exact law_J2448 hL C0 hlt D cI cJ cD sa q hq hqA hE hXe N k h5 k28 ih Tn Ta Fn Fa Ba Rn2403 Ra2403 Rb2403 Rd2403 Ua Wg Wz Ww Wr Mh2415 Mn Mm2415 Mt Mk Ms2415 Me2415 Mp2415 Mw Ml My Oa2403 Od x5 hx5 hf _ _ hP hS _ (lv_sub hl [2, 3, 4, 5, 6, 7] rfl)
    · have hf := (if_pos c_4).symm.trans hf
      refine lv_aload_n hx hb dL_law_2436 rfl (lv_at hl 5 rfl) ?_
      refine lv_iconst (v := (0 : Int32)) hx hb dL_law_2437 (by decide) ?_
      obtain ⟨g_5, hf⟩ := gd_some hf
      refine va_lald hx hb hE.1 hP 23 1 rfl rfl (inb_in g_5) dL_law_2438 ?_
      refine lv_iload hx hb dL_law_2439 (lv_at hl 0 rfl) ?_
      refine lv_i2l (v := (r2415).toInt64) hx hb dL_law_2441 rfl ?_
      refine W.lcmp hx hb dL_law_2442 ?_
      refine lv_if_eq (tgt := 2448) hx hb dL_law_2443 (by decide) (fun c_6 => ?_) (fun c_6 => ?_)
      · have hf := (if_pos c_6).symm.trans hf
        exact law_J2448 hL C0 hlt D cI cJ cD sa q hq hqA hE hXe N k h5 k28 ih Tn Ta Fn Fa Ba Rn2403 Ra2403 Rb2403 Rd2403 Ua Wg Wz Ww Wr Mh2415 Mn Mm2415 Mt Mk Ms2415 Me2415 Mp2415 Mw Ml My Oa2403 Od x5 hx5 hf _ _ hP hS _ (lv_sub hl [2, 3, 4, 5, 6, 7] rfl)
      · have hf := (if_neg c_6).symm.trans hf
        exact law_J2446 hL C0 hlt D cI cJ cD sa q hq hqA hE hXe N k (by omega) Tn Ta Fn Fa Ba Rn2403 Ra2403 Rb2403 Rd2403 Ua Wg Wz Ww Wr Mh2415 Mn Mm2415 Mt Mk Ms2415 Me2415 Mp2415 Mw Ml My Oa2403 Od hf _ _ hP hS _ (lv_sub hl [] rfl)
  · have hf := (if_neg c_3).symm.trans hf
    exact law_J2429 hL C0 hlt D cI cJ cD sa q hq hqA hE hXe N k (by omega) Tn Ta Fn Fa Ba Rn2403 Ra2403 Rb2403 Rd2403 Ua Wg Wz Ww Wr Mh2415 Mn Mm2415 Mt Mk Ms2415 Me2415 Mp2415 Mw Ml My Oa2403 Od hf _ _ hP hS _ (lv_sub hl [] rfl)
set_option maxHeartbeats 4000000 in
set_option maxRecDepth 100000 in
theorem law_J2489 {p : Program} {l : Launch} {e : Env} {s : State} {m : MethodId} {below : List Frame} {meth : Method} {c : Code} {b L : Nat} {xs : Nat → Int32} (hL : L ≤ 2560) (C0 : lw_At p s m meth c b L xs) (hlt : l.stackTraces = false) (D : va_G) (cI cJ cD : ClassId) (sa : Nat → Nat) (q : Nat → Nat) (hq : gInj q) (hqA : ∀ k, k < 25 → s.heap.size ≤ q k) (hE : gEv D cI cJ cD s) (hXe : gXe sa (fun a => s.heap.size ≤ a) s s.heap) (N : Nat) (k : Nat) (h5 : 5 * k + 5 ≤ L) (k28 : Int32 → (Nat → Int32) → Int32 → (Nat → Int32) → (Nat → Int32) → Int32 → (Nat → Int32) → (Nat → Int32) → (Nat → Int32) → (Nat → Int32) → Int32 → Int32 → Int32 → Int32 → Int32 → Int32 → Int32 → (Nat → Int32) → (Nat → Int32) → (Nat → Int32) → (Nat → Int32) → (Nat → Int32) → (Nat → Int32) → (Nat → Int32) → (Nat → Int64) → (Nat → Int64) → (Nat → UInt64) → Int32 → Option Int32) (ih : lawIH p l e s m below meth c b D cI cJ cD q k k28) (Tn : Int32) (Ta : (Nat → Int32)) (Fn : Int32) (Fa : (Nat → Int32)) (Ba : (Nat → Int32)) (Rn : Int32) (Ra : (Nat → Int32)) (Rb : (Nat → Int32)) (Rd : (Nat → Int32)) (Ua : (Nat → Int32)) (Wg : Int32) (Wz : Int32) (Ww : Int32) (Wr : Int32) (Mh : Int32) (Mn : Int32) (Mm : Int32) (Mt : (Nat → Int32)) (Mk : (Nat → Int32)) (Ms : (Nat → Int32)) (Me : (Nat → Int32)) (Mp : (Nat → Int32)) (Mw : (Nat → Int32)) (Ml : (Nat → Int32)) (My : (Nat → Int64)) (Oa : (Nat → Int64)) (Od : (Nat → UInt64)) (x5 : Int32) (hx5 : x5 = nI (5 * k)) (hf : fL_law_J2489 N L xs k28 Tn Ta Fn Fa Ba Rn Ra Rb Rd Ua Wg Wz Ww Wr Mh Mn Mm Mt Mk Ms Me Mp Mw Ml My Oa Od x5 = some 1) : ∀ (H : Heap) (locs : List Loc), va_P D vwCl (w_0_1_2_3_4_5_6_7_8_9_10_11_12_13_14_15_16_17_18_19_20_21_22_23_24 q cI cJ cD Tn Ta Fn Fa Ba Rn Ra Rb Rd Ua Wg Wz Ww Wr Mh Mn Mm Mt Mk Ms Me Mp Mw Ml My Oa Od) H → va_S (fun a : Nat => s.heap.size ≤ a) s.heap H locs → ∀ ls : Array Slot, lv_has ls 10 [(0, .ref b), (1, .ref (q 0)), (2, .ref (q 14)), (3, .ref (q 23)), (4, .ref (q 24)), (5, .int x5)] → W p l e room_1 s m #[Value.ref b] below meth c H locs (25 + k) (1025 + 6 * k) (lw_Z below #[Value.ref b] s) (F0 m 2489 ls []) := by
  obtain ⟨hx, hb, hr, hml, hown, hts0, hX, hbl, hlocks, hgv⟩ := id C0
  have hown : s.vm.findClass RL = some m.cls := hown
  have hts : ∀ w ∈ wsL_law, w.before #[Value.ref b] s = true := fun w h => hts0 w (wsL_law_in w h)
  have hbA : ¬ (fun a : Nat => s.heap.size ≤ a) b := Nat.not_le.mpr hbl
  have hcm : 25 + k + 1 ≤ 1058 := by omega
  have hsm : 1025 + 6 * k + 6 ≤ 9271 := by omega
  have hc0 : 25 + k ≤ 1058 := by omega
  have hs0 : 1025 + 6 * k ≤ 9271 := by omega
  intro H locs hP hS ls hl
  unfold fL_law_J2489 at hf
  refine lv_goto (tgt := 2831) hx hb dL_law_2489 (by decide) ?_
  refine W.widen (k := 25 + k + 1) (n := 1025 + 6 * k + 6) (by omega) (by omega) ?_
  exact law_J2831 hL C0 hlt D cI cJ cD sa q hq hqA hE hXe N k h5 k28 ih Tn Ta Fn Fa Ba Rn Ra Rb Rd Ua Wg Wz Ww Wr Mh Mn Mm Mt Mk Ms Me Mp Mw Ml My Oa Od x5 hx5 hf _ _ hP hS _ (lv_sub hl [0, 1, 2, 3, 4, 5] rfl)
set_option maxHeartbeats 4000000 in
set_option maxRecDepth 100000 in
theorem law_J2451 {p : Program} {l : Launch} {e : Env} {s : State} {m : MethodId} {below : List Frame} {meth : Method} {c : Code} {b L : Nat} {xs : Nat → Int32} (hL : L ≤ 2560) (C0 : lw_At p s m meth c b L xs) (hlt : l.stackTraces = false) (D : va_G) (cI cJ cD : ClassId) (sa : Nat → Nat) (q : Nat → Nat) (hq : gInj q) (hqA : ∀ k, k < 25 → s.heap.size ≤ q k) (hE : gEv D cI cJ cD s) (hXe : gXe sa (fun a => s.heap.size ≤ a) s s.heap) (N : Nat) (k : Nat) (h5 : 5 * k + 5 ≤ L) (k28 : Int32 → (Nat → Int32) → Int32 → (Nat → Int32) → (Nat → Int32) → Int32 → (Nat → Int32) → (Nat → Int32) → (Nat → Int32) → (Nat → Int32) → Int32 → Int32 → Int32 → Int32 → Int32 → Int32 → Int32 → (Nat → Int32) → (Nat → Int32) → (Nat → Int32) → (Nat → Int32) → (Nat → Int32) → (Nat → Int32) → (Nat → Int32) → (Nat → Int64) → (Nat → Int64) → (Nat → UInt64) → Int32 → Option Int32) (ih : lawIH p l e s m below meth c b D cI cJ cD q k k28) (Tn : Int32) (Ta : (Nat → Int32)) (Fn : Int32) (Fa : (Nat → Int32)) (Ba : (Nat → Int32)) (Rn : Int32) (Ra : (Nat → Int32)) (Rb : (Nat → Int32)) (Rd : (Nat → Int32)) (Ua : (Nat → Int32)) (Wg : Int32) (Wz : Int32) (Ww : Int32) (Wr : Int32) (Mh : Int32) (Mn : Int32) (Mm : Int32) (Mt : (Nat → Int32)) (Mk : (Nat → Int32)) (Ms : (Nat → Int32)) (Me : (Nat → Int32)) (Mp : (Nat → Int32)) (Mw : (Nat → Int32)) (Ml : (Nat → Int32)) (My : (Nat → Int64)) (Oa : (Nat → Int64)) (Od : (Nat → UInt64)) (x5 : Int32) (hx5 : x5 = nI (5 * k)) (hf : fL_law_J2451 N L xs k28 Tn Ta Fn Fa Ba Rn Ra Rb Rd Ua Wg Wz Ww Wr Mh Mn Mm Mt Mk Ms Me Mp Mw Ml My Oa Od x5 = some 1) : ∀ (H : Heap) (locs : List Loc), va_P D vwCl (w_0_1_2_3_4_5_6_7_8_9_10_11_12_13_14_15_16_17_18_19_20_21_22_23_24 q cI cJ cD Tn Ta Fn Fa Ba Rn Ra Rb Rd Ua Wg Wz Ww Wr Mh Mn Mm Mt Mk Ms Me Mp Mw Ml My Oa Od) H → va_S (fun a : Nat => s.heap.size ≤ a) s.heap H locs → ∀ ls : Array Slot, lv_has ls 10 [(0, .ref b), (1, .ref (q 0)), (2, .ref (q 14)), (3, .ref (q 23)), (4, .ref (q 24)), (5, .int x5)] → W p l e room_1 s m #[Value.ref b] below meth c H locs (25 + k) (1025 + 6 * k) (lw_Z below #[Value.ref b] s) (F0 m 2451 ls []) := by
  obtain ⟨hx, hb, hr, hml, hown, hts0, hX, hbl, hlocks, hgv⟩ := id C0
  have hown : s.vm.findClass RL = some m.cls := hown
  have hts : ∀ w ∈ wsL_law, w.before #[Value.ref b] s = true := fun w h => hts0 w (wsL_law_in w h)
  have hbA : ¬ (fun a : Nat => s.heap.size ≤ a) b := Nat.not_le.mpr hbl
  have hcm : 25 + k + 1 ≤ 1058 := by omega
  have hsm : 1025 + 6 * k + 6 ≤ 9271 := by omega
  have hc0 : 25 + k ≤ 1058 := by omega
  have hs0 : 1025 + 6 * k ≤ 9271 := by omega
  intro H locs hP hS ls hl
  unfold fL_law_J2451 at hf
  refine lv_aload_n hx hb dL_law_2451 rfl (lv_at hl 1 rfl) ?_
  obtain ⟨⟨r2452, Rn2452, Ra2452, Rb2452, Rd2452⟩, hc, hf⟩ := bn_some hf
  try dsimp only at hf
  refine g_call0 (ws' := (w_0_1_2_3_4_5_6_7_8_9_10_11_12_13_14_15_16_17_18_19_20_21_22_23_24 q cI cJ cD Tn Ta Fn Fa Ba Rn2452 Ra2452 Rb2452 Rd2452 Ua Wg Wz Ww Wr Mh Mn Mm Mt Mk Ms Me Mp Mw Ml My Oa Od)) (st1 := [.double r2452]) hq [0, 1, 2, 3, 4, 5, 6, 7, 8, 9, 10, 11, 12, 13, 14, 15, 16, 17, 18, 19, 20, 21, 22, 23, 24] [0, 1, 2, 7, 8, 9, 10] [.inl 0, .inl 1, .inl 2, .inr 3, .inr 4, .inr 5, .inr 6, .inl 3, .inl 4, .inl 5, .inl 6, .inr 11, .inr 12, .inr 13, .inr 14, .inr 15, .inr 16, .inr 17, .inr 18, .inr 19, .inr 20, .inr 21, .inr 22, .inr 23, .inr 24] (va_runV (As := []) (rest := []) ⟨hx, hb, hml, hown, hts⟩ (kX8_exponentsOfRuns l D cI cJ cD q hq N Tn Ta Rn Ra Rb Rd r2452 Rn2452 Ra2452 Rb2452 Rd2452 hc) (cwV 0 hts gL_law_X8_exponentsOfRuns rfl rfl rfl (by decide +kernel) ⟨(Nat.le_of_ble_eq_true rfl), (Nat.le_of_ble_eq_true rfl)⟩) ⟨gP_blind, va_recv hE.1 hP (ci := 6) (q0 := 0) rfl rfl, fun U hU hW => ⟨rfl, by rw [hU]; exact hP.sub (ws' := (w_0_1_2_7_8_9_10 q cI cJ cD Tn Ta Rn Ra Rb Rd)) [0, 1, 2, 7, 8, 9, 10] rfl, gEv.warm hW hE⟩⟩ rfl rfl hl.1 rfl (lv_room (Nat.le_of_ble_eq_true rfl)) dL_law_2452 ⟨hc0, hs0⟩) hP hS (gSubL hqA rfl) rfl rfl rfl rfl rfl (fun H locs hP hS => ?_)
  refine lv_dstore (lv' := [(6, .double r2452), (0, .ref b), (1, .ref (q 0)), (2, .ref (q 14)), (3, .ref (q 23)), (4, .ref (q 24)), (5, .int x5)]) hx hb dL_law_2455 hl (by decide) rfl (fun ls hl => ?_)
  refine lv_aload_n hx hb dL_law_2457 rfl (lv_at hl 3 rfl) ?_
  obtain ⟨⟨r2458, Mh2458, Mm2458, Ms2458, Me2458, Mp2458⟩, hc, hf⟩ := bn_some hf
  try dsimp only at hf
  refine g_call0 (ws' := (w_0_1_2_3_4_5_6_7_8_9_10_11_12_13_14_15_16_17_18_19_20_21_22_23_24 q cI cJ cD Tn Ta Fn Fa Ba Rn2452 Ra2452 Rb2452 Rd2452 Ua Wg Wz Ww Wr Mh2458 Mn Mm2458 Mt Mk Ms2458 Me2458 Mp2458 Mw Ml My Oa Od)) (st1 := [.double r2458]) hq [0, 1, 2, 3, 4, 5, 6, 7, 8, 9, 10, 11, 12, 13, 14, 15, 16, 17, 18, 19, 20, 21, 22, 23, 24] [14, 15, 17, 18, 19] [.inr 0, .inr 1, .inr 2, .inr 3, .inr 4, .inr 5, .inr 6, .inr 7, .inr 8, .inr 9, .inr 10, .inr 11, .inr 12, .inr 13, .inl 0, .inl 1, .inr 16, .inl 2, .inl 3, .inl 4, .inr 20, .inr 21, .inr 22, .inr 23, .inr 24] (va_runV (As := []) (rest := []) ⟨hx, hb, hml, hown, hts⟩ (kX9_exponentsOfRuns l D cI cJ cD q hq N Mh Mn Mm Mt Ms Me Mp r2458 Mh2458 Mm2458 Ms2458 Me2458 Mp2458 hc) (cwV 0 hts gL_law_X9_exponentsOfRuns rfl rfl rfl (by decide +kernel) ⟨(Nat.le_of_ble_eq_true rfl), (Nat.le_of_ble_eq_true rfl)⟩) ⟨gP_blind, va_recv hE.1 hP (ci := 7) (q0 := 14) rfl rfl, fun U hU hW => ⟨rfl, by rw [hU]; exact hP.sub (ws' := (w_14_15_17_18_19 q cI cJ cD Mh Mn Mm Mt Ms Me Mp)) [14, 15, 17, 18, 19] rfl, gEv.warm hW hE⟩⟩ rfl rfl hl.1 rfl (lv_room (Nat.le_of_ble_eq_true rfl)) dL_law_2458 ⟨hc0, hs0⟩) hP hS (gSubL hqA rfl) rfl rfl rfl rfl rfl (fun H locs hP hS => ?_)
  refine lv_dstore (lv' := [(8, .double r2458), (6, .double r2452), (0, .ref b), (1, .ref (q 0)), (2, .ref (q 14)), (3, .ref (q 23)), (4, .ref (q 24)), (5, .int x5)]) hx hb dL_law_2461 hl (by decide) rfl (fun ls hl => ?_)
  refine lv_dload hx hb dL_law_2463 (lv_at hl 1 rfl) ?_
  refine lv_dload hx hb dL_law_2465 (lv_at hl 0 rfl) ?_
  refine lv_dcmp hx hb dL_law_2467 ?_
  refine lv_if_eq (tgt := 2489) hx hb dL_law_2468 (by decide) (fun c_1 => ?_) (fun c_1 => ?_)
  · have hf := (if_pos c_1).symm.trans hf
    exact law_J2489 hL C0 hlt D cI cJ cD sa q hq hqA hE hXe N k h5 k28 ih Tn Ta Fn Fa Ba Rn2452 Ra2452 Rb2452 Rd2452 Ua Wg Wz Ww Wr Mh2458 Mn Mm2458 Mt Mk Ms2458 Me2458 Mp2458 Mw Ml My Oa Od x5 hx5 hf _ _ hP hS _ (lv_sub hl [2, 3, 4, 5, 6, 7] rfl)
  · have hf := (if_neg c_1).symm.trans hf
    refine lv_dload hx hb dL_law_2471 (lv_at hl 1 rfl) ?_
    refine lv_dload hx hb dL_law_2473 (lv_at hl 1 rfl) ?_
    refine lv_dcmp hx hb dL_law_2475 ?_
    refine lv_if_eq (tgt := 2487) hx hb dL_law_2476 (by decide) (fun c_2 => ?_) (fun c_2 => ?_)
    · have hf := (if_pos c_2).symm.trans hf
      exact law_J2487 hL C0 hlt D cI cJ cD sa q hq hqA hE hXe N k (by omega) Tn Ta Fn Fa Ba Rn2452 Ra2452 Rb2452 Rd2452 Ua Wg Wz Ww Wr Mh2458 Mn Mm2458 Mt Mk Ms2458 Me2458 Mp2458 Mw Ml My Oa Od hf _ _ hP hS _ (lv_sub hl [] rfl)
    · have hf := (if_neg c_2).symm.trans hf
      refine lv_dload hx hb dL_law_2479 (lv_at hl 0 rfl) ?_
      refine lv_dload hx hb dL_law_2481 (lv_at hl 0 rfl) ?_
      refine lv_dcmp hx hb dL_law_2483 ?_
      refine lv_if_ne (tgt := 2489) hx hb dL_law_2484 (by decide) (fun c_3 => ?_) (fun c_3 => ?_)
      · have hf := (if_neg c_3).symm.trans hf
        exact law_J2489 hL C0 hlt D cI cJ cD sa q hq hqA hE hXe N k h5 k28 ih Tn Ta Fn Fa Ba Rn2452 Ra2452 Rb2452 Rd2452 Ua Wg Wz Ww Wr Mh2458 Mn Mm2458 Mt Mk Ms2458 Me2458 Mp2458 Mw Ml My Oa Od x5 hx5 hf _ _ hP hS _ (lv_sub hl [2, 3, 4, 5, 6, 7] rfl)
      · have hf := (if_pos c_3).symm.trans hf
        exact law_J2487 hL C0 hlt D cI cJ cD sa q hq hqA hE hXe N k (by omega) Tn Ta Fn Fa Ba Rn2452 Ra2452 Rb2452 Rd2452 Ua Wg Wz Ww Wr Mh2458 Mn Mm2458 Mt Mk Ms2458 Me2458 Mp2458 Mw Ml My Oa Od hf _ _ hP hS _ (lv_sub hl [] rfl)
set_option maxHeartbeats 4000000 in
set_option maxRecDepth 100000 in
theorem law_J2492 {p : Program} {l : Launch} {e : Env} {s : State} {m : MethodId} {below : List Frame} {meth : Method} {c : Code} {b L : Nat} {xs : Nat → Int32} (hL : L ≤ 2560) (C0 : lw_At p s m meth c b L xs) (hlt : l.stackTraces = false) (D : va_G) (cI cJ cD : ClassId) (sa : Nat → Nat) (q : Nat → Nat) (hq : gInj q) (hqA : ∀ k, k < 25 → s.heap.size ≤ q k) (hE : gEv D cI cJ cD s) (hXe : gXe sa (fun a => s.heap.size ≤ a) s s.heap) (N : Nat) (k : Nat) (h5 : 5 * k + 5 ≤ L) (k28 : Int32 → (Nat → Int32) → Int32 → (Nat → Int32) → (Nat → Int32) → Int32 → (Nat → Int32) → (Nat → Int32) → (Nat → Int32) → (Nat → Int32) → Int32 → Int32 → Int32 → Int32 → Int32 → Int32 → Int32 → (Nat → Int32) → (Nat → Int32) → (Nat → Int32) → (Nat → Int32) → (Nat → Int32) → (Nat → Int32) → (Nat → Int32) → (Nat → Int64) → (Nat → Int64) → (Nat → UInt64) → Int32 → Option Int32) (ih : lawIH p l e s m below meth c b D cI cJ cD q k k28) (Tn : Int32) (Ta : (Nat → Int32)) (Fn : Int32) (Fa : (Nat → Int32)) (Ba : (Nat → Int32)) (Rn : Int32) (Ra : (Nat → Int32)) (Rb : (Nat → Int32)) (Rd : (Nat → Int32)) (Ua : (Nat → Int32)) (Wg : Int32) (Wz : Int32) (Ww : Int32) (Wr : Int32) (Mh : Int32) (Mn : Int32) (Mm : Int32) (Mt : (Nat → Int32)) (Mk : (Nat → Int32)) (Ms : (Nat → Int32)) (Me : (Nat → Int32)) (Mp : (Nat → Int32)) (Mw : (Nat → Int32)) (Ml : (Nat → Int32)) (My : (Nat → Int64)) (Oa : (Nat → Int64)) (Od : (Nat → UInt64)) (x5 : Int32) (hx5 : x5 = nI (5 * k)) (hf : fL_law_J2492 N L xs k28 Tn Ta Fn Fa Ba Rn Ra Rb Rd Ua Wg Wz Ww Wr Mh Mn Mm Mt Mk Ms Me Mp Mw Ml My Oa Od x5 = some 1) : ∀ (H : Heap) (locs : List Loc), va_P D vwCl (w_0_1_2_3_4_5_6_7_8_9_10_11_12_13_14_15_16_17_18_19_20_21_22_23_24 q cI cJ cD Tn Ta Fn Fa Ba Rn Ra Rb Rd Ua Wg Wz Ww Wr Mh Mn Mm Mt Mk Ms Me Mp Mw Ml My Oa Od) H → va_S (fun a : Nat => s.heap.size ≤ a) s.heap H locs → ∀ ls : Array Slot, lv_has ls 10 [(0, .ref b), (1, .ref (q 0)), (2, .ref (q 14)), (3, .ref (q 23)), (4, .ref (q 24)), (5, .int x5)] → W p l e room_1 s m #[Value.ref b] below meth c H locs (25 + k) (1025 + 6 * k) (lw_Z below #[Value.ref b] s) (F0 m 2492 ls []) := by
  obtain ⟨hx, hb, hr, hml, hown, hts0, hX, hbl, hlocks, hgv⟩ := id C0
  have hown : s.vm.findClass RL = some m.cls := hown
  have hts : ∀ w ∈ wsL_law, w.before #[Value.ref b] s = true := fun w h => hts0 w (wsL_law_in w h)
  have hbA : ¬ (fun a : Nat => s.heap.size ≤ a) b := Nat.not_le.mpr hbl
  have hcm : 25 + k + 1 ≤ 1058 := by omega
  have hsm : 1025 + 6 * k + 6 ≤ 9271 := by omega
  have hc0 : 25 + k ≤ 1058 := by omega
  have hs0 : 1025 + 6 * k ≤ 9271 := by omega
  intro H locs hP hS ls hl
  unfold fL_law_J2492 at hf
  refine lv_aload_n hx hb dL_law_2492 rfl (lv_at hl 1 rfl) ?_
  obtain ⟨⟨r2493, Rn2493, Ra2493, Rb2493, Rd2493⟩, hc, hf⟩ := bn_some hf
  try dsimp only at hf
  refine g_call0 (ws' := (w_0_1_2_3_4_5_6_7_8_9_10_11_12_13_14_15_16_17_18_19_20_21_22_23_24 q cI cJ cD Tn Ta Fn Fa Ba Rn2493 Ra2493 Rb2493 Rd2493 Ua Wg Wz Ww Wr Mh Mn Mm Mt Mk Ms Me Mp Mw Ml My Oa Od)) (st1 := [.int r2493]) hq [0, 1, 2, 3, 4, 5, 6, 7, 8, 9, 10, 11, 12, 13, 14, 15, 16, 17, 18, 19, 20, 21, 22, 23, 24] [0, 1, 2, 7, 8, 9, 10] [.inl 0, .inl 1, .inl 2, .inr 3, .inr 4, .inr 5, .inr 6, .inl 3, .inl 4, .inl 5, .inl 6, .inr 11, .inr 12, .inr 13, .inr 14, .inr 15, .inr 16, .inr 17, .inr 18, .inr 19, .inr 20, .inr 21, .inr 22, .inr 23, .inr 24] (va_runV (As := []) (rest := []) ⟨hx, hb, hml, hown, hts⟩ (kX8_squares l D cI cJ cD q hq N Tn Ta Rn Ra Rb Rd r2493 Rn2493 Ra2493 Rb2493 Rd2493 hc) (cwV 0 hts gL_law_X8_squares rfl rfl rfl (by decide +kernel) ⟨(Nat.le_of_ble_eq_true rfl), (Nat.le_of_ble_eq_true rfl)⟩) ⟨gP_blind, va_recv hE.1 hP (ci := 6) (q0 := 0) rfl rfl, fun U hU hW => ⟨rfl, by rw [hU]; exact hP.sub (ws' := (w_0_1_2_7_8_9_10 q cI cJ cD Tn Ta Rn Ra Rb Rd)) [0, 1, 2, 7, 8, 9, 10] rfl, gEv.warm hW hE⟩⟩ rfl rfl hl.1 rfl (lv_room (Nat.le_of_ble_eq_true rfl)) dL_law_2493 ⟨hc0, hs0⟩) hP hS (gSubL hqA rfl) rfl rfl rfl rfl rfl (fun H locs hP hS => ?_)
  refine lv_aload_n hx hb dL_law_2496 rfl (lv_at hl 2 rfl) ?_
  obtain ⟨⟨r2497, Mh2497⟩, hc, hf⟩ := bn_some hf
  try dsimp only at hf
  refine g_call0 (ws' := (w_0_1_2_3_4_5_6_7_8_9_10_11_12_13_14_15_16_17_18_19_20_21_22_23_24 q cI cJ cD Tn Ta Fn Fa Ba Rn2493 Ra2493 Rb2493 Rd2493 Ua Wg Wz Ww Wr Mh2497 Mn Mm Mt Mk Ms Me Mp Mw Ml My Oa Od)) (st1 := [.int r2497, .int r2493]) hq [0, 1, 2, 3, 4, 5, 6, 7, 8, 9, 10, 11, 12, 13, 14, 15, 16, 17, 18, 19, 20, 21, 22, 23, 24] [14, 15] [.inr 0, .inr 1, .inr 2, .inr 3, .inr 4, .inr 5, .inr 6, .inr 7, .inr 8, .inr 9, .inr 10, .inr 11, .inr 12, .inr 13, .inl 0, .inl 1, .inr 16, .inr 17, .inr 18, .inr 19, .inr 20, .inr 21, .inr 22, .inr 23, .inr 24] (va_runV (As := []) (rest := [.int r2493]) ⟨hx, hb, hml, hown, hts⟩ (kX9_squares l D cI cJ cD q hq N Mh Mn Mm Mt r2497 Mh2497 hc) (cwV 0 hts gL_law_X9_squares rfl rfl rfl (by decide +kernel) ⟨(Nat.le_of_ble_eq_true rfl), (Nat.le_of_ble_eq_true rfl)⟩) ⟨gP_blind, va_recv hE.1 hP (ci := 7) (q0 := 14) rfl rfl, fun U hU hW => ⟨rfl, by rw [hU]; exact hP.sub (ws' := (w_14_15 q cI cJ cD Mh Mn Mm Mt)) [14, 15] rfl, gEv.warm hW hE⟩⟩ rfl rfl hl.1 rfl (lv_room (Nat.le_of_ble_eq_true rfl)) dL_law_2497 ⟨hc0, hs0⟩) hP hS (gSubL hqA rfl) rfl rfl rfl rfl rfl (fun H locs hP hS => ?_)
  refine lv_icmp_eq (tgt := 2831) hx hb dL_law_2500 (by decide) (fun c_1 => ?_) (fun c_1 => ?_)
  · have hf := (if_pos c_1).symm.trans hf
    refine W.widen (k := 25 + k + 1) (n := 1025 + 6 * k + 6) (by omega) (by omega) ?_
    exact law_J2831 hL C0 hlt D cI cJ cD sa q hq hqA hE hXe N k h5 k28 ih Tn Ta Fn Fa Ba Rn2493 Ra2493 Rb2493 Rd2493 Ua Wg Wz Ww Wr Mh2497 Mn Mm Mt Mk Ms Me Mp Mw Ml My Oa Od x5 hx5 hf _ _ hP hS _ (lv_sub hl [0, 1, 2, 3, 4, 5] rfl)
  · have hf := (if_neg c_1).symm.trans hf
    exact law_J2503 hL C0 hlt D cI cJ cD sa q hq hqA hE hXe N k (by omega) Tn Ta Fn Fa Ba Rn2493 Ra2493 Rb2493 Rd2493 Ua Wg Wz Ww Wr Mh2497 Mn Mm Mt Mk Ms Me Mp Mw Ml My Oa Od hf _ _ hP hS _ (lv_sub hl [] rfl)
set_option maxHeartbeats 4000000 in
set_option maxRecDepth 100000 in
theorem law_J2558 {p : Program} {l : Launch} {e : Env} {s : State} {m : MethodId} {below : List Frame} {meth : Method} {c : Code} {b L : Nat} {xs : Nat → Int32} (hL : L ≤ 2560) (C0 : lw_At p s m meth c b L xs) (hlt : l.stackTraces = false) (D : va_G) (cI cJ cD : ClassId) (sa : Nat → Nat) (q : Nat → Nat) (hq : gInj q) (hqA : ∀ k, k < 25 → s.heap.size ≤ q k) (hE : gEv D cI cJ cD s) (hXe : gXe sa (fun a => s.heap.size ≤ a) s s.heap) (N : Nat) (k : Nat) (h5 : 5 * k + 5 ≤ L) (k28 : Int32 → (Nat → Int32) → Int32 → (Nat → Int32) → (Nat → Int32) → Int32 → (Nat → Int32) → (Nat → Int32) → (Nat → Int32) → (Nat → Int32) → Int32 → Int32 → Int32 → Int32 → Int32 → Int32 → Int32 → (Nat → Int32) → (Nat → Int32) → (Nat → Int32) → (Nat → Int32) → (Nat → Int32) → (Nat → Int32) → (Nat → Int32) → (Nat → Int64) → (Nat → Int64) → (Nat → UInt64) → Int32 → Option Int32) (ih : lawIH p l e s m below meth c b D cI cJ cD q k k28) (Tn : Int32) (Ta : (Nat → Int32)) (Fn : Int32) (Fa : (Nat → Int32)) (Ba : (Nat → Int32)) (Rn : Int32) (Ra : (Nat → Int32)) (Rb : (Nat → Int32)) (Rd : (Nat → Int32)) (Ua : (Nat → Int32)) (Wg : Int32) (Wz : Int32) (Ww : Int32) (Wr : Int32) (Mh : Int32) (Mn : Int32) (Mm : Int32) (Mt : (Nat → Int32)) (Mk : (Nat → Int32)) (Ms : (Nat → Int32)) (Me : (Nat → Int32)) (Mp : (Nat → Int32)) (Mw : (Nat → Int32)) (Ml : (Nat → Int32)) (My : (Nat → Int64)) (Oa : (Nat → Int64)) (Od : (Nat → UInt64)) (x5 : Int32) (hx5 : x5 = nI (5 * k)) (hf : fL_law_J2558 N L xs k28 Tn Ta Fn Fa Ba Rn Ra Rb Rd Ua Wg Wz Ww Wr Mh Mn Mm Mt Mk Ms Me Mp Mw Ml My Oa Od x5 = some 1) : ∀ (H : Heap) (locs : List Loc), va_P D vwCl (w_0_1_2_3_4_5_6_7_8_9_10_11_12_13_14_15_16_17_18_19_20_21_22_23_24 q cI cJ cD Tn Ta Fn Fa Ba Rn Ra Rb Rd Ua Wg Wz Ww Wr Mh Mn Mm Mt Mk Ms Me Mp Mw Ml My Oa Od) H → va_S (fun a : Nat => s.heap.size ≤ a) s.heap H locs → ∀ ls : Array Slot, lv_has ls 10 [(0, .ref b), (1, .ref (q 0)), (2, .ref (q 14)), (3, .ref (q 23)), (4, .ref (q 24)), (5, .int x5)] → W p l e room_1 s m #[Value.ref b] below meth c H locs (25 + k + 1) (1025 + 6 * k + 6) (lw_Z below #[Value.ref b] s) (F0 m 2558 ls []) := by
  obtain ⟨hx, hb, hr, hml, hown, hts0, hX, hbl, hlocks, hgv⟩ := id C0
  have hown : s.vm.findClass RL = some m.cls := hown
  have hts : ∀ w ∈ wsL_law, w.before #[Value.ref b] s = true := fun w h => hts0 w (wsL_law_in w h)
  have hbA : ¬ (fun a : Nat => s.heap.size ≤ a) b := Nat.not_le.mpr hbl
  have hcm : 25 + k + 1 ≤ 1058 := by omega
  have hsm : 1025 + 6 * k + 6 ≤ 9271 := by omega
  have hc0 : 25 + k ≤ 1058 := by omega
  have hs0 : 1025 + 6 * k ≤ 9271 := by omega
  intro H locs hP hS ls hl
  unfold fL_law_J2558 at hf
  refine lv_goto (tgt := 2831) hx hb dL_law_2558 (by decide) ?_
  exact law_J2831 hL C0 hlt D cI cJ cD sa q hq hqA hE hXe N k h5 k28 ih Tn Ta Fn Fa Ba Rn Ra Rb Rd Ua Wg Wz Ww Wr Mh Mn Mm Mt Mk Ms Me Mp Mw Ml My Oa Od x5 hx5 hf _ _ hP hS _ (lv_sub hl [0, 1, 2, 3, 4, 5] rfl)
set_option maxHeartbeats 4000000 in
set_option maxRecDepth 100000 in
theorem law_J2505 {p : Program} {l : Launch} {e : Env} {s : State} {m : MethodId} {below : List Frame} {meth : Method} {c : Code} {b L : Nat} {xs : Nat → Int32} (hL : L ≤ 2560) (C0 : lw_At p s m meth c b L xs) (hlt : l.stackTraces = false) (D : va_G) (cI cJ cD : ClassId) (sa : Nat → Nat) (q : Nat → Nat) (hq : gInj q) (hqA : ∀ k, k < 25 → s.heap.size ≤ q k) (hE : gEv D cI cJ cD s) (hXe : gXe sa (fun a => s.heap.size ≤ a) s s.heap) (N : Nat) (k : Nat) (h5 : 5 * k + 5 ≤ L) (k28 : Int32 → (Nat → Int32) → Int32 → (Nat → Int32) → (Nat → Int32) → Int32 → (Nat → Int32) → (Nat → Int32) → (Nat → Int32) → (Nat → Int32) → Int32 → Int32 → Int32 → Int32 → Int32 → Int32 → Int32 → (Nat → Int32) → (Nat → Int32) → (Nat → Int32) → (Nat → Int32) → (Nat → Int32) → (Nat → Int32) → (Nat → Int32) → (Nat → Int64) → (Nat → Int64) → (Nat → UInt64) → Int32 → Option Int32) (ih : lawIH p l e s m below meth c b D cI cJ cD q k k28) (Tn : Int32) (Ta : (Nat → Int32)) (Fn : Int32) (Fa : (Nat → Int32)) (Ba : (Nat → Int32)) (Rn : Int32) (Ra : (Nat → Int32)) (Rb : (Nat → Int32)) (Rd : (Nat → Int32)) (Ua : (Nat → Int32)) (Wg : Int32) (Wz : Int32) (Ww : Int32) (Wr : Int32) (Mh : Int32) (Mn : Int32) (Mm : Int32) (Mt : (Nat → Int32)) (Mk : (Nat → Int32)) (Ms : (Nat → Int32)) (Me : (Nat → Int32)) (Mp : (Nat → Int32)) (Mw : (Nat → Int32)) (Ml : (Nat → Int32)) (My : (Nat → Int64)) (Oa : (Nat → Int64)) (Od : (Nat → UInt64)) (x5 : Int32) (hx5 : x5 = nI (5 * k)) (hf : fL_law_J2505 N L xs k28 Tn Ta Fn Fa Ba Rn Ra Rb Rd Ua Wg Wz Ww Wr Mh Mn Mm Mt Mk Ms Me Mp Mw Ml My Oa Od x5 = some 1) : ∀ (H : Heap) (locs : List Loc), va_P D vwCl (w_0_1_2_3_4_5_6_7_8_9_10_11_12_13_14_15_16_17_18_19_20_21_22_23_24 q cI cJ cD Tn Ta Fn Fa Ba Rn Ra Rb Rd Ua Wg Wz Ww Wr Mh Mn Mm Mt Mk Ms Me Mp Mw Ml My Oa Od) H → va_S (fun a : Nat => s.heap.size ≤ a) s.heap H locs → ∀ ls : Array Slot, lv_has ls 10 [(0, .ref b), (1, .ref (q 0)), (2, .ref (q 14)), (3, .ref (q 23)), (4, .ref (q 24)), (5, .int x5)] → W p l e room_1 s m #[Value.ref b] below meth c H locs (25 + k) (1025 + 6 * k) (lw_Z below #[Value.ref b] s) (F0 m 2505 ls []) := by
  obtain ⟨hx, hb, hr, hml, hown, hts0, hX, hbl, hlocks, hgv⟩ := id C0
  have hown : s.vm.findClass RL = some m.cls := hown
  have hts : ∀ w ∈ wsL_law, w.before #[Value.ref b] s = true := fun w h => hts0 w (wsL_law_in w h)
  have hbA : ¬ (fun a : Nat => s.heap.size ≤ a) b := Nat.not_le.mpr hbl
  have hcm : 25 + k + 1 ≤ 1058 := by omega
  have hsm : 1025 + 6 * k + 6 ≤ 9271 := by omega
  have hc0 : 25 + k ≤ 1058 := by omega
  have hs0 : 1025 + 6 * k ≤ 9271 := by omega
  intro H locs hP hS ls hl
  unfold fL_law_J2505 at hf
  refine lv_aload_n hx hb dL_law_2505 rfl (lv_at hl 1 rfl) ?_
  refine lv_aload_n hx hb dL_law_2506 rfl (lv_at hl 0 rfl) ?_
  refine lv_iload hx hb dL_law_2507 (lv_at hl 5 rfl) ?_
  refine lv_iconst (v := (1 : Int32)) hx hb dL_law_2509 (by decide) ?_
  refine lv_iadd hx hb dL_law_2510 ?_
  obtain ⟨g_1, hf⟩ := gd_some hf
  refine va_sld hx hb hX hbl hbA hS (inb_in g_1) dL_law_2511 ?_
  refine lv_aload_n hx hb dL_law_2512 rfl (lv_at hl 3 rfl) ?_
  obtain ⟨⟨r2513, Ua2513, Oa2513⟩, hc, hf⟩ := bn_some hf
  try dsimp only at hf
  refine g_call (mc := 1) (ms := 6) (ws' := (w_0_1_2_3_4_5_6_7_8_9_10_11_12_13_14_15_16_17_18_19_20_21_22_23_24 q cI cJ cD Tn Ta Fn Fa Ba Rn Ra Rb Rd Ua2513 Wg Wz Ww Wr Mh Mn Mm Mt Mk Ms Me Mp Mw Ml My Oa2513 Od)) (st1 := [.int r2513]) hq [0, 1, 2, 3, 4, 5, 6, 7, 8, 9, 10, 11, 12, 13, 14, 15, 16, 17, 18, 19, 20, 21, 22, 23, 24] [0, 1, 2, 11, 12, 23] [.inl 0, .inl 1, .inl 2, .inr 3, .inr 4, .inr 5, .inr 6, .inr 7, .inr 8, .inr 9, .inr 10, .inl 3, .inl 4, .inr 13, .inr 14, .inr 15, .inr 16, .inr 17, .inr 18, .inr 19, .inr 20, .inr 21, .inr 22, .inl 5, .inr 24] (vx_runSW (As := [.ref (q 0), .int (xs ((x5 + (1 : Int32))).toNatClampNeg), .ref (q 23)]) (rest := []) ⟨hx, hb, hml, hown, hts⟩ (kL_suffixAt l hlt D cI cJ cD sa q hq N Tn Ta Ua Oa (xs ((x5 + (1 : Int32))).toNatClampNeg) r2513 Ua2513 Oa2513 hc) (vx_cwSW 3 hts gL_law_L_suffixAt rfl rfl rfl (by decide +kernel) ⟨(Nat.le_of_ble_eq_true rfl), (Nat.le_of_ble_eq_true rfl)⟩) ⟨gPx_blind, fun U hU hW => ⟨rfl, by rw [hU]; exact hP.sub (ws' := (w_0_1_2_11_12_23 q cI cJ cD Tn Ta Ua Oa)) [0, 1, 2, 11, 12, 23] rfl, gEv.warm hW hE, gXe.go hW hS (gMonoL hqA rfl) hXe hU⟩⟩ rfl rfl hl.1 rfl (lv_room (Nat.le_of_ble_eq_true rfl)) dL_law_2513 ⟨hcm, hsm⟩) hP hS (gSubL hqA rfl) rfl rfl rfl rfl rfl (fun H locs hP hS => ?_)
  refine lv_istore (lv' := [(6, .int r2513), (0, .ref b), (1, .ref (q 0)), (2, .ref (q 14)), (3, .ref (q 23)), (4, .ref (q 24)), (5, .int x5)]) hx hb dL_law_2516 hl (by decide) rfl (fun ls hl => ?_)
  refine lv_aload_n hx hb dL_law_2518 rfl (lv_at hl 3 rfl) ?_
  refine lv_aload_n hx hb dL_law_2519 rfl (lv_at hl 1 rfl) ?_
  refine lv_iload hx hb dL_law_2520 (lv_at hl 6 rfl) ?_
  refine lv_iconst (v := (1 : Int32)) hx hb dL_law_2522 (by decide) ?_
  refine lv_iadd hx hb dL_law_2523 ?_
  obtain ⟨g_2, hf⟩ := gd_some hf
  refine va_sld hx hb hX hbl hbA hS (inb_in g_2) dL_law_2524 ?_
  obtain ⟨⟨r2525, Mh2525⟩, hc, hf⟩ := bn_some hf
  try dsimp only at hf
  refine g_call0 (ws' := (w_0_1_2_3_4_5_6_7_8_9_10_11_12_13_14_15_16_17_18_19_20_21_22_23_24 q cI cJ cD Tn Ta Fn Fa Ba Rn Ra Rb Rd Ua2513 Wg Wz Ww Wr Mh2525 Mn Mm Mt Mk Ms Me Mp Mw Ml My Oa2513 Od)) (st1 := [.int r2525]) hq [0, 1, 2, 3, 4, 5, 6, 7, 8, 9, 10, 11, 12, 13, 14, 15, 16, 17, 18, 19, 20, 21, 22, 23, 24] [14, 15] [.inr 0, .inr 1, .inr 2, .inr 3, .inr 4, .inr 5, .inr 6, .inr 7, .inr 8, .inr 9, .inr 10, .inr 11, .inr 12, .inr 13, .inl 0, .inl 1, .inr 16, .inr 17, .inr 18, .inr 19, .inr 20, .inr 21, .inr 22, .inr 23, .inr 24] (va_runV (As := [.int (xs ((x5 + (1 : Int32))).toNatClampNeg)]) (rest := []) ⟨hx, hb, hml, hown, hts⟩ (kX9_suffixAt l D cI cJ cD q hq N Mh Mn Mm Mt (xs ((x5 + (1 : Int32))).toNatClampNeg) r2525 Mh2525 hc) (cwV 1 hts gL_law_X9_suffixAt rfl rfl rfl (by decide +kernel) ⟨(Nat.le_of_ble_eq_true rfl), (Nat.le_of_ble_eq_true rfl)⟩) ⟨gP_blind, va_recv hE.1 hP (ci := 7) (q0 := 14) rfl rfl, fun U hU hW => ⟨rfl, by rw [hU]; exact hP.sub (ws' := (w_14_15 q cI cJ cD Mh Mn Mm Mt)) [14, 15] rfl, gEv.warm hW hE⟩⟩ rfl rfl hl.1 rfl (lv_room (Nat.le_of_ble_eq_true rfl)) dL_law_2525 ⟨hcm, hsm⟩) hP hS (gSubL hqA rfl) rfl rfl rfl rfl rfl (fun H locs hP hS => ?_)
  refine lv_istore (lv' := [(7, .int r2525), (6, .int r2513), (0, .ref b), (1, .ref (q 0)), (2, .ref (q 14)), (3, .ref (q 23)), (4, .ref (q 24)), (5, .int x5)]) hx hb dL_law_2528 hl (by decide) rfl (fun ls hl => ?_)
  refine lv_aload_n hx hb dL_law_2530 rfl (lv_at hl 4 rfl) ?_
  obtain ⟨r2531, hc, hf⟩ := bn_some hf
  try dsimp only at hf
  refine g_call0 (ws' := (w_0_1_2_3_4_5_6_7_8_9_10_11_12_13_14_15_16_17_18_19_20_21_22_23_24 q cI cJ cD Tn Ta Fn Fa Ba Rn Ra Rb Rd Ua2513 Wg Wz Ww Wr Mh2525 Mn Mm Mt Mk Ms Me Mp Mw Ml My Oa2513 Od)) (st1 := [.int r2531]) hq [0, 1, 2, 3, 4, 5, 6, 7, 8, 9, 10, 11, 12, 13, 14, 15, 16, 17, 18, 19, 20, 21, 22, 23, 24] [14] [.inr 0, .inr 1, .inr 2, .inr 3, .inr 4, .inr 5, .inr 6, .inr 7, .inr 8, .inr 9, .inr 10, .inr 11, .inr 12, .inr 13, .inl 0, .inr 15, .inr 16, .inr 17, .inr 18, .inr 19, .inr 20, .inr 21, .inr 22, .inr 23, .inr 24] (va_runV (As := []) (rest := []) ⟨hx, hb, hml, hown, hts⟩ (kX9_thrown l D cI cJ cD q hq N Mh2525 Mn Mm r2531 hc) (cwV 0 hts gL_law_X9_thrown rfl rfl rfl (by decide +kernel) ⟨(Nat.le_of_ble_eq_true rfl), (Nat.le_of_ble_eq_true rfl)⟩) ⟨gP_blind, va_recv hE.1 hP (ci := 7) (q0 := 14) rfl rfl, fun U hU hW => ⟨rfl, by rw [hU]; exact hP.sub (ws' := (w_14 q cI cJ cD Mh2525 Mn Mm)) [14] rfl, gEv.warm hW hE⟩⟩ rfl rfl hl.1 rfl (lv_room (Nat.le_of_ble_eq_true rfl)) dL_law_2531 ⟨hcm, hsm⟩) hP hS (gSubL hqA rfl) rfl rfl rfl rfl rfl (fun H locs hP hS => ?_)
  refine lv_iload hx hb dL_law_2534 (lv_at hl 1 rfl) ?_
  refine lv_icmp_eq (tgt := 2541) hx hb dL_law_2536 (by decide) (fun c_3 => ?_) (fun c_3 => ?_)
  · have hf := (if_pos c_3).symm.trans hf
    refine lv_iload hx hb dL_law_2541 (lv_at hl 1 rfl) ?_
    refine lv_if_ne (tgt := 2558) hx hb dL_law_2543 (by decide) (fun c_4 => ?_) (fun c_4 => ?_)
    · have hf := (if_neg c_4).symm.trans hf
      exact law_J2558 hL C0 hlt D cI cJ cD sa q hq hqA hE hXe N k h5 k28 ih Tn Ta Fn Fa Ba Rn Ra Rb Rd Ua2513 Wg Wz Ww Wr Mh2525 Mn Mm Mt Mk Ms Me Mp Mw Ml My Oa2513 Od x5 hx5 hf _ _ hP hS _ (lv_sub hl [2, 3, 4, 5, 6, 7] rfl)
    · have hf := (if_pos c_4).symm.trans hf
      refine lv_aload_n hx hb dL_law_2546 rfl (lv_at hl 5 rfl) ?_
      refine lv_iconst (v := (0 : Int32)) hx hb dL_law_2547 (by decide) ?_
      obtain ⟨g_5, hf⟩ := gd_some hf
      refine va_lald hx hb hE.1 hP 23 1 rfl rfl (inb_in g_5) dL_law_2548 ?_
      refine lv_iload hx hb dL_law_2549 (lv_at hl 0 rfl) ?_
      refine lv_i2l (v := (r2525).toInt64) hx hb dL_law_2551 rfl ?_
      refine W.lcmp hx hb dL_law_2552 ?_
      refine lv_if_eq (tgt := 2558) hx hb dL_law_2553 (by decide) (fun c_6 => ?_) (fun c_6 => ?_)
      · have hf := (if_pos c_6).symm.trans hf
        exact law_J2558 hL C0 hlt D cI cJ cD sa q hq hqA hE hXe N k h5 k28 ih Tn Ta Fn Fa Ba Rn Ra Rb Rd Ua2513 Wg Wz Ww Wr Mh2525 Mn Mm Mt Mk Ms Me Mp Mw Ml My Oa2513 Od x5 hx5 hf _ _ hP hS _ (lv_sub hl [2, 3, 4, 5, 6, 7] rfl)
      · have hf := (if_neg c_6).symm.trans hf
        exact law_J2556 hL C0 hlt D cI cJ cD sa q hq hqA hE hXe N k (by omega) Tn Ta Fn Fa Ba Rn Ra Rb Rd Ua2513 Wg Wz Ww Wr Mh2525 Mn Mm Mt Mk Ms Me Mp Mw Ml My Oa2513 Od hf _ _ hP hS _ (lv_sub hl [] rfl)
  · have hf := (if_neg c_3).symm.trans hf
    exact law_J2539 hL C0 hlt D cI cJ cD sa q hq hqA hE hXe N k (by omega) Tn Ta Fn Fa Ba Rn Ra Rb Rd Ua2513 Wg Wz Ww Wr Mh2525 Mn Mm Mt Mk Ms Me Mp Mw Ml My Oa2513 Od hf _ _ hP hS _ (lv_sub hl [] rfl)
set_option maxHeartbeats 4000000 in
set_option maxRecDepth 100000 in
theorem law_J2614 {p : Program} {l : Launch} {e : Env} {s : State} {m : MethodId} {below : List Frame} {meth : Method} {c : Code} {b L : Nat} {xs : Nat → Int32} (hL : L ≤ 2560) (C0 : lw_At p s m meth c b L xs) (hlt : l.stackTraces = false) (D : va_G) (cI cJ cD : ClassId) (sa : Nat → Nat) (q : Nat → Nat) (hq : gInj q) (hqA : ∀ k, k < 25 → s.heap.size ≤ q k) (hE : gEv D cI cJ cD s) (hXe : gXe sa (fun a => s.heap.size ≤ a) s s.heap) (N : Nat) (k : Nat) (h5 : 5 * k + 5 ≤ L) (k28 : Int32 → (Nat → Int32) → Int32 → (Nat → Int32) → (Nat → Int32) → Int32 → (Nat → Int32) → (Nat → Int32) → (Nat → Int32) → (Nat → Int32) → Int32 → Int32 → Int32 → Int32 → Int32 → Int32 → Int32 → (Nat → Int32) → (Nat → Int32) → (Nat → Int32) → (Nat → Int32) → (Nat → Int32) → (Nat → Int32) → (Nat → Int32) → (Nat → Int64) → (Nat → Int64) → (Nat → UInt64) → Int32 → Option Int32) (ih : lawIH p l e s m below meth c b D cI cJ cD q k k28) (Tn : Int32) (Ta : (Nat → Int32)) (Fn : Int32) (Fa : (Nat → Int32)) (Ba : (Nat → Int32)) (Rn : Int32) (Ra : (Nat → Int32)) (Rb : (Nat → Int32)) (Rd : (Nat → Int32)) (Ua : (Nat → Int32)) (Wg : Int32) (Wz : Int32) (Ww : Int32) (Wr : Int32) (Mh : Int32) (Mn : Int32) (Mm : Int32) (Mt : (Nat → Int32)) (Mk : (Nat → Int32)) (Ms : (Nat → Int32)) (Me : (Nat → Int32)) (Mp : (Nat → Int32)) (Mw : (Nat → Int32)) (Ml : (Nat → Int32)) (My : (Nat → Int64)) (Oa : (Nat → Int64)) (Od : (Nat → UInt64)) (x5 : Int32) (hx5 : x5 = nI (5 * k)) (hf : fL_law_J2614 N L xs k28 Tn Ta Fn Fa Ba Rn Ra Rb Rd Ua Wg Wz Ww Wr Mh Mn Mm Mt Mk Ms Me Mp Mw Ml My Oa Od x5 = some 1) : ∀ (H : Heap) (locs : List Loc), va_P D vwCl (w_0_1_2_3_4_5_6_7_8_9_10_11_12_13_14_15_16_17_18_19_20_21_22_23_24 q cI cJ cD Tn Ta Fn Fa Ba Rn Ra Rb Rd Ua Wg Wz Ww Wr Mh Mn Mm Mt Mk Ms Me Mp Mw Ml My Oa Od) H → va_S (fun a : Nat => s.heap.size ≤ a) s.heap H locs → ∀ ls : Array Slot, lv_has ls 10 [(0, .ref b), (1, .ref (q 0)), (2, .ref (q 14)), (3, .ref (q 23)), (4, .ref (q 24)), (5, .int x5)] → W p l e room_1 s m #[Value.ref b] below meth c H locs (25 + k + 1) (1025 + 6 * k + 6) (lw_Z below #[Value.ref b] s) (F0 m 2614 ls []) := by
  obtain ⟨hx, hb, hr, hml, hown, hts0, hX, hbl, hlocks, hgv⟩ := id C0
  have hown : s.vm.findClass RL = some m.cls := hown
  have hts : ∀ w ∈ wsL_law, w.before #[Value.ref b] s = true := fun w h => hts0 w (wsL_law_in w h)
  have hbA : ¬ (fun a : Nat => s.heap.size ≤ a) b := Nat.not_le.mpr hbl
  have hcm : 25 + k + 1 ≤ 1058 := by omega
  have hsm : 1025 + 6 * k + 6 ≤ 9271 := by omega
  have hc0 : 25 + k ≤ 1058 := by omega
  have hs0 : 1025 + 6 * k ≤ 9271 := by omega
  intro H locs hP hS ls hl
  unfold fL_law_J2614 at hf
  refine lv_goto (tgt := 2831) hx hb dL_law_2614 (by decide) ?_
  exact law_J2831 hL C0 hlt D cI cJ cD sa q hq hqA hE hXe N k h5 k28 ih Tn Ta Fn Fa Ba Rn Ra Rb Rd Ua Wg Wz Ww Wr Mh Mn Mm Mt Mk Ms Me Mp Mw Ml My Oa Od x5 hx5 hf _ _ hP hS _ (lv_sub hl [0, 1, 2, 3, 4, 5] rfl)
set_option maxHeartbeats 4000000 in
set_option maxRecDepth 100000 in
theorem law_J2561 {p : Program} {l : Launch} {e : Env} {s : State} {m : MethodId} {below : List Frame} {meth : Method} {c : Code} {b L : Nat} {xs : Nat → Int32} (hL : L ≤ 2560) (C0 : lw_At p s m meth c b L xs) (hlt : l.stackTraces = false) (D : va_G) (cI cJ cD : ClassId) (sa : Nat → Nat) (q : Nat → Nat) (hq : gInj q) (hqA : ∀ k, k < 25 → s.heap.size ≤ q k) (hE : gEv D cI cJ cD s) (hXe : gXe sa (fun a => s.heap.size ≤ a) s s.heap) (N : Nat) (k : Nat) (h5 : 5 * k + 5 ≤ L) (k28 : Int32 → (Nat → Int32) → Int32 → (Nat → Int32) → (Nat → Int32) → Int32 → (Nat → Int32) → (Nat → Int32) → (Nat → Int32) → (Nat → Int32) → Int32 → Int32 → Int32 → Int32 → Int32 → Int32 → Int32 → (Nat → Int32) → (Nat → Int32) → (Nat → Int32) → (Nat → Int32) → (Nat → Int32) → (Nat → Int32) → (Nat → Int32) → (Nat → Int64) → (Nat → Int64) → (Nat → UInt64) → Int32 → Option Int32) (ih : lawIH p l e s m below meth c b D cI cJ cD q k k28) (Tn : Int32) (Ta : (Nat → Int32)) (Fn : Int32) (Fa : (Nat → Int32)) (Ba : (Nat → Int32)) (Rn : Int32) (Ra : (Nat → Int32)) (Rb : (Nat → Int32)) (Rd : (Nat → Int32)) (Ua : (Nat → Int32)) (Wg : Int32) (Wz : Int32) (Ww : Int32) (Wr : Int32) (Mh : Int32) (Mn : Int32) (Mm : Int32) (Mt : (Nat → Int32)) (Mk : (Nat → Int32)) (Ms : (Nat → Int32)) (Me : (Nat → Int32)) (Mp : (Nat → Int32)) (Mw : (Nat → Int32)) (Ml : (Nat → Int32)) (My : (Nat → Int64)) (Oa : (Nat → Int64)) (Od : (Nat → UInt64)) (x5 : Int32) (hx5 : x5 = nI (5 * k)) (hf : fL_law_J2561 N L xs k28 Tn Ta Fn Fa Ba Rn Ra Rb Rd Ua Wg Wz Ww Wr Mh Mn Mm Mt Mk Ms Me Mp Mw Ml My Oa Od x5 = some 1) : ∀ (H : Heap) (locs : List Loc), va_P D vwCl (w_0_1_2_3_4_5_6_7_8_9_10_11_12_13_14_15_16_17_18_19_20_21_22_23_24 q cI cJ cD Tn Ta Fn Fa Ba Rn Ra Rb Rd Ua Wg Wz Ww Wr Mh Mn Mm Mt Mk Ms Me Mp Mw Ml My Oa Od) H → va_S (fun a : Nat => s.heap.size ≤ a) s.heap H locs → ∀ ls : Array Slot, lv_has ls 10 [(0, .ref b), (1, .ref (q 0)), (2, .ref (q 14)), (3, .ref (q 23)), (4, .ref (q 24)), (5, .int x5)] → W p l e room_1 s m #[Value.ref b] below meth c H locs (25 + k) (1025 + 6 * k) (lw_Z below #[Value.ref b] s) (F0 m 2561 ls []) := by
  obtain ⟨hx, hb, hr, hml, hown, hts0, hX, hbl, hlocks, hgv⟩ := id C0
  have hown : s.vm.findClass RL = some m.cls := hown
  have hts : ∀ w ∈ wsL_law, w.before #[Value.ref b] s = true := fun w h => hts0 w (wsL_law_in w h)
  have hbA : ¬ (fun a : Nat => s.heap.size ≤ a) b := Nat.not_le.mpr hbl
  have hcm : 25 + k + 1 ≤ 1058 := by omega
  have hsm : 1025 + 6 * k + 6 ≤ 9271 := by omega
  have hc0 : 25 + k ≤ 1058 := by omega
  have hs0 : 1025 + 6 * k ≤ 9271 := by omega
  intro H locs hP hS ls hl
  unfold fL_law_J2561 at hf
  refine lv_aload_n hx hb dL_law_2561 rfl (lv_at hl 1 rfl) ?_
  refine lv_aload_n hx hb dL_law_2562 rfl (lv_at hl 0 rfl) ?_
  refine lv_iload hx hb dL_law_2563 (lv_at hl 5 rfl) ?_
  refine lv_iconst (v := (1 : Int32)) hx hb dL_law_2565 (by decide) ?_
  refine lv_iadd hx hb dL_law_2566 ?_
  obtain ⟨g_1, hf⟩ := gd_some hf
  refine va_sld hx hb hX hbl hbA hS (inb_in g_1) dL_law_2567 ?_
  refine lv_aload_n hx hb dL_law_2568 rfl (lv_at hl 3 rfl) ?_
  obtain ⟨⟨r2569, Ua2569, Oa2569⟩, hc, hf⟩ := bn_some hf
  try dsimp only at hf
  refine g_call (mc := 1) (ms := 6) (ws' := (w_0_1_2_3_4_5_6_7_8_9_10_11_12_13_14_15_16_17_18_19_20_21_22_23_24 q cI cJ cD Tn Ta Fn Fa Ba Rn Ra Rb Rd Ua2569 Wg Wz Ww Wr Mh Mn Mm Mt Mk Ms Me Mp Mw Ml My Oa2569 Od)) (st1 := [.int r2569]) hq [0, 1, 2, 3, 4, 5, 6, 7, 8, 9, 10, 11, 12, 13, 14, 15, 16, 17, 18, 19, 20, 21, 22, 23, 24] [0, 1, 2, 11, 12, 23] [.inl 0, .inl 1, .inl 2, .inr 3, .inr 4, .inr 5, .inr 6, .inr 7, .inr 8, .inr 9, .inr 10, .inl 3, .inl 4, .inr 13, .inr 14, .inr 15, .inr 16, .inr 17, .inr 18, .inr 19, .inr 20, .inr 21, .inr 22, .inl 5, .inr 24] (vx_runSW (As := [.ref (q 0), .int (xs ((x5 + (1 : Int32))).toNatClampNeg), .ref (q 23)]) (rest := []) ⟨hx, hb, hml, hown, hts⟩ (kL_rankOf l hlt D cI cJ cD sa q hq N Tn Ta Ua Oa (xs ((x5 + (1 : Int32))).toNatClampNeg) r2569 Ua2569 Oa2569 hc) (vx_cwSW 3 hts gL_law_L_rankOf rfl rfl rfl (by decide +kernel) ⟨(Nat.le_of_ble_eq_true rfl), (Nat.le_of_ble_eq_true rfl)⟩) ⟨gPx_blind, fun U hU hW => ⟨rfl, by rw [hU]; exact hP.sub (ws' := (w_0_1_2_11_12_23 q cI cJ cD Tn Ta Ua Oa)) [0, 1, 2, 11, 12, 23] rfl, gEv.warm hW hE, gXe.go hW hS (gMonoL hqA rfl) hXe hU⟩⟩ rfl rfl hl.1 rfl (lv_room (Nat.le_of_ble_eq_true rfl)) dL_law_2569 ⟨hcm, hsm⟩) hP hS (gSubL hqA rfl) rfl rfl rfl rfl rfl (fun H locs hP hS => ?_)
  refine lv_istore (lv' := [(6, .int r2569), (0, .ref b), (1, .ref (q 0)), (2, .ref (q 14)), (3, .ref (q 23)), (4, .ref (q 24)), (5, .int x5)]) hx hb dL_law_2572 hl (by decide) rfl (fun ls hl => ?_)
  refine lv_aload_n hx hb dL_law_2574 rfl (lv_at hl 3 rfl) ?_
  refine lv_aload_n hx hb dL_law_2575 rfl (lv_at hl 1 rfl) ?_
  refine lv_iload hx hb dL_law_2576 (lv_at hl 6 rfl) ?_
  refine lv_iconst (v := (1 : Int32)) hx hb dL_law_2578 (by decide) ?_
  refine lv_iadd hx hb dL_law_2579 ?_
  obtain ⟨g_2, hf⟩ := gd_some hf
  refine va_sld hx hb hX hbl hbA hS (inb_in g_2) dL_law_2580 ?_
  obtain ⟨⟨r2581, Mh2581⟩, hc, hf⟩ := bn_some hf
  try dsimp only at hf
  refine g_call0 (ws' := (w_0_1_2_3_4_5_6_7_8_9_10_11_12_13_14_15_16_17_18_19_20_21_22_23_24 q cI cJ cD Tn Ta Fn Fa Ba Rn Ra Rb Rd Ua2569 Wg Wz Ww Wr Mh2581 Mn Mm Mt Mk Ms Me Mp Mw Ml My Oa2569 Od)) (st1 := [.int r2581]) hq [0, 1, 2, 3, 4, 5, 6, 7, 8, 9, 10, 11, 12, 13, 14, 15, 16, 17, 18, 19, 20, 21, 22, 23, 24] [14, 15] [.inr 0, .inr 1, .inr 2, .inr 3, .inr 4, .inr 5, .inr 6, .inr 7, .inr 8, .inr 9, .inr 10, .inr 11, .inr 12, .inr 13, .inl 0, .inl 1, .inr 16, .inr 17, .inr 18, .inr 19, .inr 20, .inr 21, .inr 22, .inr 23, .inr 24] (va_runV (As := [.int (xs ((x5 + (1 : Int32))).toNatClampNeg)]) (rest := []) ⟨hx, hb, hml, hown, hts⟩ (kX9_rankOf l D cI cJ cD q hq N Mh Mn Mm Mt (xs ((x5 + (1 : Int32))).toNatClampNeg) r2581 Mh2581 hc) (cwV 1 hts gL_law_X9_rankOf rfl rfl rfl (by decide +kernel) ⟨(Nat.le_of_ble_eq_true rfl), (Nat.le_of_ble_eq_true rfl)⟩) ⟨gP_blind, va_recv hE.1 hP (ci := 7) (q0 := 14) rfl rfl, fun U hU hW => ⟨rfl, by rw [hU]; exact hP.sub (ws' := (w_14_15 q cI cJ cD Mh Mn Mm Mt)) [14, 15] rfl, gEv.warm hW hE⟩⟩ rfl rfl hl.1 rfl (lv_room (Nat.le_of_ble_eq_true rfl)) dL_law_2581 ⟨hcm, hsm⟩) hP hS (gSubL hqA rfl) rfl rfl rfl rfl rfl (fun H locs hP hS => ?_)
  refine lv_istore (lv' := [(7, .int r2581), (6, .int r2569), (0, .ref b), (1, .ref (q 0)), (2, .ref (q 14)), (3, .ref (q 23)), (4, .ref (q 24)), (5, .int x5)]) hx hb dL_law_2584 hl (by decide) rfl (fun ls hl => ?_)
  refine lv_aload_n hx hb dL_law_2586 rfl (lv_at hl 4 rfl) ?_
  obtain ⟨r2587, hc, hf⟩ := bn_some hf
  try dsimp only at hf
  refine g_call0 (ws' := (w_0_1_2_3_4_5_6_7_8_9_10_11_12_13_14_15_16_17_18_19_20_21_22_23_24 q cI cJ cD Tn Ta Fn Fa Ba Rn Ra Rb Rd Ua2569 Wg Wz Ww Wr Mh2581 Mn Mm Mt Mk Ms Me Mp Mw Ml My Oa2569 Od)) (st1 := [.int r2587]) hq [0, 1, 2, 3, 4, 5, 6, 7, 8, 9, 10, 11, 12, 13, 14, 15, 16, 17, 18, 19, 20, 21, 22, 23, 24] [14] [.inr 0, .inr 1, .inr 2, .inr 3, .inr 4, .inr 5, .inr 6, .inr 7, .inr 8, .inr 9, .inr 10, .inr 11, .inr 12, .inr 13, .inl 0, .inr 15, .inr 16, .inr 17, .inr 18, .inr 19, .inr 20, .inr 21, .inr 22, .inr 23, .inr 24] (va_runV (As := []) (rest := []) ⟨hx, hb, hml, hown, hts⟩ (kX9_thrown l D cI cJ cD q hq N Mh2581 Mn Mm r2587 hc) (cwV 0 hts gL_law_X9_thrown rfl rfl rfl (by decide +kernel) ⟨(Nat.le_of_ble_eq_true rfl), (Nat.le_of_ble_eq_true rfl)⟩) ⟨gP_blind, va_recv hE.1 hP (ci := 7) (q0 := 14) rfl rfl, fun U hU hW => ⟨rfl, by rw [hU]; exact hP.sub (ws' := (w_14 q cI cJ cD Mh2581 Mn Mm)) [14] rfl, gEv.warm hW hE⟩⟩ rfl rfl hl.1 rfl (lv_room (Nat.le_of_ble_eq_true rfl)) dL_law_2587 ⟨hcm, hsm⟩) hP hS (gSubL hqA rfl) rfl rfl rfl rfl rfl (fun H locs hP hS => ?_)
  refine lv_iload hx hb dL_law_2590 (lv_at hl 1 rfl) ?_
  refine lv_icmp_eq (tgt := 2597) hx hb dL_law_2592 (by decide) (fun c_3 => ?_) (fun c_3 => ?_)
  · have hf := (if_pos c_3).symm.trans hf
    refine lv_iload hx hb dL_law_2597 (lv_at hl 1 rfl) ?_
    refine lv_if_ne (tgt := 2614) hx hb dL_law_2599 (by decide) (fun c_4 => ?_) (fun c_4 => ?_)
    · have hf := (if_neg c_4).symm.trans hf
      exact law_J2614 hL C0 hlt D cI cJ cD sa q hq hqA hE hXe N k h5 k28 ih Tn Ta Fn Fa Ba Rn Ra Rb Rd Ua2569 Wg Wz Ww Wr Mh2581 Mn Mm Mt Mk Ms Me Mp Mw Ml My Oa2569 Od x5 hx5 hf _ _ hP hS _ (lv_sub hl [2, 3, 4, 5, 6, 7] rfl)
    · have hf := (if_pos c_4).symm.trans hf
      refine lv_aload_n hx hb dL_law_2602 rfl (lv_at hl 5 rfl) ?_
      refine lv_iconst (v := (0 : Int32)) hx hb dL_law_2603 (by decide) ?_
      obtain ⟨g_5, hf⟩ := gd_some hf
      refine va_lald hx hb hE.1 hP 23 1 rfl rfl (inb_in g_5) dL_law_2604 ?_
      refine lv_iload hx hb dL_law_2605 (lv_at hl 0 rfl) ?_
      refine lv_i2l (v := (r2581).toInt64) hx hb dL_law_2607 rfl ?_
      refine W.lcmp hx hb dL_law_2608 ?_
      refine lv_if_eq (tgt := 2614) hx hb dL_law_2609 (by decide) (fun c_6 => ?_) (fun c_6 => ?_)
      · have hf := (if_pos c_6).symm.trans hf
        exact law_J2614 hL C0 hlt D cI cJ cD sa q hq hqA hE hXe N k h5 k28 ih Tn Ta Fn Fa Ba Rn Ra Rb Rd Ua2569 Wg Wz Ww Wr Mh2581 Mn Mm Mt Mk Ms Me Mp Mw Ml My Oa2569 Od x5 hx5 hf _ _ hP hS _ (lv_sub hl [2, 3, 4, 5, 6, 7] rfl)
      · have hf := (if_neg c_6).symm.trans hf
        exact law_J2612 hL C0 hlt D cI cJ cD sa q hq hqA hE hXe N k (by omega) Tn Ta Fn Fa Ba Rn Ra Rb Rd Ua2569 Wg Wz Ww Wr Mh2581 Mn Mm Mt Mk Ms Me Mp Mw Ml My Oa2569 Od hf _ _ hP hS _ (lv_sub hl [] rfl)
  · have hf := (if_neg c_3).symm.trans hf
    exact law_J2595 hL C0 hlt D cI cJ cD sa q hq hqA hE hXe N k (by omega) Tn Ta Fn Fa Ba Rn Ra Rb Rd Ua2569 Wg Wz Ww Wr Mh2581 Mn Mm Mt Mk Ms Me Mp Mw Ml My Oa2569 Od hf _ _ hP hS _ (lv_sub hl [] rfl)
set_option maxHeartbeats 4000000 in
set_option maxRecDepth 100000 in
theorem law_J2681 {p : Program} {l : Launch} {e : Env} {s : State} {m : MethodId} {below : List Frame} {meth : Method} {c : Code} {b L : Nat} {xs : Nat → Int32} (hL : L ≤ 2560) (C0 : lw_At p s m meth c b L xs) (hlt : l.stackTraces = false) (D : va_G) (cI cJ cD : ClassId) (sa : Nat → Nat) (q : Nat → Nat) (hq : gInj q) (hqA : ∀ k, k < 25 → s.heap.size ≤ q k) (hE : gEv D cI cJ cD s) (hXe : gXe sa (fun a => s.heap.size ≤ a) s s.heap) (N : Nat) (k : Nat) (h5 : 5 * k + 5 ≤ L) (k28 : Int32 → (Nat → Int32) → Int32 → (Nat → Int32) → (Nat → Int32) → Int32 → (Nat → Int32) → (Nat → Int32) → (Nat → Int32) → (Nat → Int32) → Int32 → Int32 → Int32 → Int32 → Int32 → Int32 → Int32 → (Nat → Int32) → (Nat → Int32) → (Nat → Int32) → (Nat → Int32) → (Nat → Int32) → (Nat → Int32) → (Nat → Int32) → (Nat → Int64) → (Nat → Int64) → (Nat → UInt64) → Int32 → Option Int32) (ih : lawIH p l e s m below meth c b D cI cJ cD q k k28) (Tn : Int32) (Ta : (Nat → Int32)) (Fn : Int32) (Fa : (Nat → Int32)) (Ba : (Nat → Int32)) (Rn : Int32) (Ra : (Nat → Int32)) (Rb : (Nat → Int32)) (Rd : (Nat → Int32)) (Ua : (Nat → Int32)) (Wg : Int32) (Wz : Int32) (Ww : Int32) (Wr : Int32) (Mh : Int32) (Mn : Int32) (Mm : Int32) (Mt : (Nat → Int32)) (Mk : (Nat → Int32)) (Ms : (Nat → Int32)) (Me : (Nat → Int32)) (Mp : (Nat → Int32)) (Mw : (Nat → Int32)) (Ml : (Nat → Int32)) (My : (Nat → Int64)) (Oa : (Nat → Int64)) (Od : (Nat → UInt64)) (x5 : Int32) (hx5 : x5 = nI (5 * k)) (hf : fL_law_J2681 N L xs k28 Tn Ta Fn Fa Ba Rn Ra Rb Rd Ua Wg Wz Ww Wr Mh Mn Mm Mt Mk Ms Me Mp Mw Ml My Oa Od x5 = some 1) : ∀ (H : Heap) (locs : List Loc), va_P D vwCl (w_0_1_2_3_4_5_6_7_8_9_10_11_12_13_14_15_16_17_18_19_20_21_22_23_24 q cI cJ cD Tn Ta Fn Fa Ba Rn Ra Rb Rd Ua Wg Wz Ww Wr Mh Mn Mm Mt Mk Ms Me Mp Mw Ml My Oa Od) H → va_S (fun a : Nat => s.heap.size ≤ a) s.heap H locs → ∀ ls : Array Slot, lv_has ls 10 [(0, .ref b), (1, .ref (q 0)), (2, .ref (q 14)), (3, .ref (q 23)), (4, .ref (q 24)), (5, .int x5)] → W p l e room_1 s m #[Value.ref b] below meth c H locs (25 + k + 1) (1025 + 6 * k + 6) (lw_Z below #[Value.ref b] s) (F0 m 2681 ls []) := by
  obtain ⟨hx, hb, hr, hml, hown, hts0, hX, hbl, hlocks, hgv⟩ := id C0
  have hown : s.vm.findClass RL = some m.cls := hown
  have hts : ∀ w ∈ wsL_law, w.before #[Value.ref b] s = true := fun w h => hts0 w (wsL_law_in w h)
  have hbA : ¬ (fun a : Nat => s.heap.size ≤ a) b := Nat.not_le.mpr hbl
  have hcm : 25 + k + 1 ≤ 1058 := by omega
  have hsm : 1025 + 6 * k + 6 ≤ 9271 := by omega
  have hc0 : 25 + k ≤ 1058 := by omega
  have hs0 : 1025 + 6 * k ≤ 9271 := by omega
  intro H locs hP hS ls hl
  unfold fL_law_J2681 at hf
  refine lv_goto (tgt := 2831) hx hb dL_law_2681 (by decide) ?_
  exact law_J2831 hL C0 hlt D cI cJ cD sa q hq hqA hE hXe N k h5 k28 ih Tn Ta Fn Fa Ba Rn Ra Rb Rd Ua Wg Wz Ww Wr Mh Mn Mm Mt Mk Ms Me Mp Mw Ml My Oa Od x5 hx5 hf _ _ hP hS _ (lv_sub hl [0, 1, 2, 3, 4, 5] rfl)
set_option maxHeartbeats 4000000 in
set_option maxRecDepth 100000 in
theorem law_J2617 {p : Program} {l : Launch} {e : Env} {s : State} {m : MethodId} {below : List Frame} {meth : Method} {c : Code} {b L : Nat} {xs : Nat → Int32} (hL : L ≤ 2560) (C0 : lw_At p s m meth c b L xs) (hlt : l.stackTraces = false) (D : va_G) (cI cJ cD : ClassId) (sa : Nat → Nat) (q : Nat → Nat) (hq : gInj q) (hqA : ∀ k, k < 25 → s.heap.size ≤ q k) (hE : gEv D cI cJ cD s) (hXe : gXe sa (fun a => s.heap.size ≤ a) s s.heap) (N : Nat) (k : Nat) (h5 : 5 * k + 5 ≤ L) (k28 : Int32 → (Nat → Int32) → Int32 → (Nat → Int32) → (Nat → Int32) → Int32 → (Nat → Int32) → (Nat → Int32) → (Nat → Int32) → (Nat → Int32) → Int32 → Int32 → Int32 → Int32 → Int32 → Int32 → Int32 → (Nat → Int32) → (Nat → Int32) → (Nat → Int32) → (Nat → Int32) → (Nat → Int32) → (Nat → Int32) → (Nat → Int32) → (Nat → Int64) → (Nat → Int64) → (Nat → UInt64) → Int32 → Option Int32) (ih : lawIH p l e s m below meth c b D cI cJ cD q k k28) (Tn : Int32) (Ta : (Nat → Int32)) (Fn : Int32) (Fa : (Nat → Int32)) (Ba : (Nat → Int32)) (Rn : Int32) (Ra : (Nat → Int32)) (Rb : (Nat → Int32)) (Rd : (Nat → Int32)) (Ua : (Nat → Int32)) (Wg : Int32) (Wz : Int32) (Ww : Int32) (Wr : Int32) (Mh : Int32) (Mn : Int32) (Mm : Int32) (Mt : (Nat → Int32)) (Mk : (Nat → Int32)) (Ms : (Nat → Int32)) (Me : (Nat → Int32)) (Mp : (Nat → Int32)) (Mw : (Nat → Int32)) (Ml : (Nat → Int32)) (My : (Nat → Int64)) (Oa : (Nat → Int64)) (Od : (Nat → UInt64)) (x5 : Int32) (hx5 : x5 = nI (5 * k)) (hf : fL_law_J2617 N L xs k28 Tn Ta Fn Fa Ba Rn Ra Rb Rd Ua Wg Wz Ww Wr Mh Mn Mm Mt Mk Ms Me Mp Mw Ml My Oa Od x5 = some 1) : ∀ (H : Heap) (locs : List Loc), va_P D vwCl (w_0_1_2_3_4_5_6_7_8_9_10_11_12_13_14_15_16_17_18_19_20_21_22_23_24 q cI cJ cD Tn Ta Fn Fa Ba Rn Ra Rb Rd Ua Wg Wz Ww Wr Mh Mn Mm Mt Mk Ms Me Mp Mw Ml My Oa Od) H → va_S (fun a : Nat => s.heap.size ≤ a) s.heap H locs → ∀ ls : Array Slot, lv_has ls 10 [(0, .ref b), (1, .ref (q 0)), (2, .ref (q 14)), (3, .ref (q 23)), (4, .ref (q 24)), (5, .int x5)] → W p l e room_1 s m #[Value.ref b] below meth c H locs (25 + k) (1025 + 6 * k) (lw_Z below #[Value.ref b] s) (F0 m 2617 ls []) := by
  obtain ⟨hx, hb, hr, hml, hown, hts0, hX, hbl, hlocks, hgv⟩ := id C0
  have hown : s.vm.findClass RL = some m.cls := hown
  have hts : ∀ w ∈ wsL_law, w.before #[Value.ref b] s = true := fun w h => hts0 w (wsL_law_in w h)
  have hbA : ¬ (fun a : Nat => s.heap.size ≤ a) b := Nat.not_le.mpr hbl
  have hcm : 25 + k + 1 ≤ 1058 := by omega
  have hsm : 1025 + 6 * k + 6 ≤ 9271 := by omega
  have hc0 : 25 + k ≤ 1058 := by omega
  have hs0 : 1025 + 6 * k ≤ 9271 := by omega
  intro H locs hP hS ls hl
  unfold fL_law_J2617 at hf
  refine lv_aload_n hx hb dL_law_2617 rfl (lv_at hl 1 rfl) ?_
  refine lv_aload_n hx hb dL_law_2618 rfl (lv_at hl 0 rfl) ?_
  refine lv_iload hx hb dL_law_2619 (lv_at hl 5 rfl) ?_
  refine lv_iconst (v := (1 : Int32)) hx hb dL_law_2621 (by decide) ?_
  refine lv_iadd hx hb dL_law_2622 ?_
  obtain ⟨g_1, hf⟩ := gd_some hf
  refine va_sld hx hb hX hbl hbA hS (inb_in g_1) dL_law_2623 ?_
  refine lv_aload_n hx hb dL_law_2624 rfl (lv_at hl 0 rfl) ?_
  refine lv_iload hx hb dL_law_2625 (lv_at hl 5 rfl) ?_
  refine lv_iconst (v := (2 : Int32)) hx hb dL_law_2627 (by decide) ?_
  refine lv_iadd hx hb dL_law_2628 ?_
  obtain ⟨g_2, hf⟩ := gd_some hf
  refine va_sld hx hb hX hbl hbA hS (inb_in g_2) dL_law_2629 ?_
  refine lv_aload_n hx hb dL_law_2630 rfl (lv_at hl 3 rfl) ?_
  obtain ⟨⟨r2631, Oa2631⟩, hc, hf⟩ := bn_some hf
  try dsimp only at hf
  refine g_call (mc := 1) (ms := 6) (ws' := (w_0_1_2_3_4_5_6_7_8_9_10_11_12_13_14_15_16_17_18_19_20_21_22_23_24 q cI cJ cD Tn Ta Fn Fa Ba Rn Ra Rb Rd Ua Wg Wz Ww Wr Mh Mn Mm Mt Mk Ms Me Mp Mw Ml My Oa2631 Od)) (st1 := [.int r2631]) hq [0, 1, 2, 3, 4, 5, 6, 7, 8, 9, 10, 11, 12, 13, 14, 15, 16, 17, 18, 19, 20, 21, 22, 23, 24] [0, 23] [.inl 0, .inr 1, .inr 2, .inr 3, .inr 4, .inr 5, .inr 6, .inr 7, .inr 8, .inr 9, .inr 10, .inr 11, .inr 12, .inr 13, .inr 14, .inr 15, .inr 16, .inr 17, .inr 18, .inr 19, .inr 20, .inr 21, .inr 22, .inl 1, .inr 24] (vx_runSW (As := [.ref (q 0), .int (xs ((x5 + (1 : Int32))).toNatClampNeg), .int (xs ((x5 + (2 : Int32))).toNatClampNeg), .ref (q 23)]) (rest := []) ⟨hx, hb, hml, hown, hts⟩ (kL_necklaces l hlt D cI cJ cD sa q hq N Oa (xs ((x5 + (1 : Int32))).toNatClampNeg) (xs ((x5 + (2 : Int32))).toNatClampNeg) r2631 Oa2631 hc) (vx_cwSW 4 hts gL_law_L_necklaces rfl rfl rfl (by decide +kernel) ⟨(Nat.le_of_ble_eq_true rfl), (Nat.le_of_ble_eq_true rfl)⟩) ⟨gPx_blind, fun U hU hW => ⟨rfl, by rw [hU]; exact hP.sub (ws' := (w_0_23 q cI cJ cD Oa)) [0, 23] rfl, gEv.warm hW hE, gXe.go hW hS (gMonoL hqA rfl) hXe hU⟩⟩ rfl rfl hl.1 rfl (lv_room (Nat.le_of_ble_eq_true rfl)) dL_law_2631 ⟨hcm, hsm⟩) hP hS (gSubL hqA rfl) rfl rfl rfl rfl rfl (fun H locs hP hS => ?_)
  refine lv_istore (lv' := [(6, .int r2631), (0, .ref b), (1, .ref (q 0)), (2, .ref (q 14)), (3, .ref (q 23)), (4, .ref (q 24)), (5, .int x5)]) hx hb dL_law_2634 hl (by decide) rfl (fun ls hl => ?_)
  refine lv_aload_n hx hb dL_law_2636 rfl (lv_at hl 3 rfl) ?_
  refine lv_aload_n hx hb dL_law_2637 rfl (lv_at hl 1 rfl) ?_
  refine lv_iload hx hb dL_law_2638 (lv_at hl 6 rfl) ?_
  refine lv_iconst (v := (1 : Int32)) hx hb dL_law_2640 (by decide) ?_
  refine lv_iadd hx hb dL_law_2641 ?_
  obtain ⟨g_3, hf⟩ := gd_some hf
  refine va_sld hx hb hX hbl hbA hS (inb_in g_3) dL_law_2642 ?_
  refine lv_aload_n hx hb dL_law_2643 rfl (lv_at hl 1 rfl) ?_
  refine lv_iload hx hb dL_law_2644 (lv_at hl 6 rfl) ?_
  refine lv_iconst (v := (2 : Int32)) hx hb dL_law_2646 (by decide) ?_
  refine lv_iadd hx hb dL_law_2647 ?_
  obtain ⟨g_4, hf⟩ := gd_some hf
  refine va_sld hx hb hX hbl hbA hS (inb_in g_4) dL_law_2648 ?_
  obtain ⟨⟨r2649, Mh2649, My2649⟩, hc, hf⟩ := bn_some hf
  try dsimp only at hf
  refine g_call0 (ws' := (w_0_1_2_3_4_5_6_7_8_9_10_11_12_13_14_15_16_17_18_19_20_21_22_23_24 q cI cJ cD Tn Ta Fn Fa Ba Rn Ra Rb Rd Ua Wg Wz Ww Wr Mh2649 Mn Mm Mt Mk Ms Me Mp Mw Ml My2649 Oa2631 Od)) (st1 := [.long r2649]) hq [0, 1, 2, 3, 4, 5, 6, 7, 8, 9, 10, 11, 12, 13, 14, 15, 16, 17, 18, 19, 20, 21, 22, 23, 24] [14, 22] [.inr 0, .inr 1, .inr 2, .inr 3, .inr 4, .inr 5, .inr 6, .inr 7, .inr 8, .inr 9, .inr 10, .inr 11, .inr 12, .inr 13, .inl 0, .inr 15, .inr 16, .inr 17, .inr 18, .inr 19, .inr 20, .inr 21, .inl 1, .inr 23, .inr 24] (va_runV (As := [.int (xs ((x5 + (1 : Int32))).toNatClampNeg), .int (xs ((x5 + (2 : Int32))).toNatClampNeg)]) (rest := []) ⟨hx, hb, hml, hown, hts⟩ (kX9_necklaces l D cI cJ cD q hq N Mh Mn Mm My (xs ((x5 + (1 : Int32))).toNatClampNeg) (xs ((x5 + (2 : Int32))).toNatClampNeg) r2649 Mh2649 My2649 hc) (cwV 2 hts gL_law_X9_necklaces rfl rfl rfl (by decide +kernel) ⟨(Nat.le_of_ble_eq_true rfl), (Nat.le_of_ble_eq_true rfl)⟩) ⟨gP_blind, va_recv hE.1 hP (ci := 7) (q0 := 14) rfl rfl, fun U hU hW => ⟨rfl, by rw [hU]; exact hP.sub (ws' := (w_14_22 q cI cJ cD Mh Mn Mm My)) [14, 22] rfl, gEv.warm hW hE⟩⟩ rfl rfl hl.1 rfl (lv_room (Nat.le_of_ble_eq_true rfl)) dL_law_2649 ⟨hcm, hsm⟩) hP hS (gSubL hqA rfl) rfl rfl rfl rfl rfl (fun H locs hP hS => ?_)
  refine lv_lstore (lv' := [(7, .long r2649), (6, .int r2631), (0, .ref b), (1, .ref (q 0)), (2, .ref (q 14)), (3, .ref (q 23)), (4, .ref (q 24)), (5, .int x5)]) hx hb dL_law_2652 hl (by decide) rfl (fun ls hl => ?_)
  refine lv_aload_n hx hb dL_law_2654 rfl (lv_at hl 4 rfl) ?_
  obtain ⟨r2655, hc, hf⟩ := bn_some hf
  try dsimp only at hf
  refine g_call0 (ws' := (w_0_1_2_3_4_5_6_7_8_9_10_11_12_13_14_15_16_17_18_19_20_21_22_23_24 q cI cJ cD Tn Ta Fn Fa Ba Rn Ra Rb Rd Ua Wg Wz Ww Wr Mh2649 Mn Mm Mt Mk Ms Me Mp Mw Ml My2649 Oa2631 Od)) (st1 := [.int r2655]) hq [0, 1, 2, 3, 4, 5, 6, 7, 8, 9, 10, 11, 12, 13, 14, 15, 16, 17, 18, 19, 20, 21, 22, 23, 24] [14] [.inr 0, .inr 1, .inr 2, .inr 3, .inr 4, .inr 5, .inr 6, .inr 7, .inr 8, .inr 9, .inr 10, .inr 11, .inr 12, .inr 13, .inl 0, .inr 15, .inr 16, .inr 17, .inr 18, .inr 19, .inr 20, .inr 21, .inr 22, .inr 23, .inr 24] (va_runV (As := []) (rest := []) ⟨hx, hb, hml, hown, hts⟩ (kX9_thrown l D cI cJ cD q hq N Mh2649 Mn Mm r2655 hc) (cwV 0 hts gL_law_X9_thrown rfl rfl rfl (by decide +kernel) ⟨(Nat.le_of_ble_eq_true rfl), (Nat.le_of_ble_eq_true rfl)⟩) ⟨gP_blind, va_recv hE.1 hP (ci := 7) (q0 := 14) rfl rfl, fun U hU hW => ⟨rfl, by rw [hU]; exact hP.sub (ws' := (w_14 q cI cJ cD Mh2649 Mn Mm)) [14] rfl, gEv.warm hW hE⟩⟩ rfl rfl hl.1 rfl (lv_room (Nat.le_of_ble_eq_true rfl)) dL_law_2655 ⟨hcm, hsm⟩) hP hS (gSubL hqA rfl) rfl rfl rfl rfl rfl (fun H locs hP hS => ?_)
  refine lv_iload hx hb dL_law_2658 (lv_at hl 1 rfl) ?_
  refine lv_icmp_eq (tgt := 2665) hx hb dL_law_2660 (by decide) (fun c_5 => ?_) (fun c_5 => ?_)
  · have hf := (if_pos c_5).symm.trans hf
    refine lv_iload hx hb dL_law_2665 (lv_at hl 1 rfl) ?_
    refine lv_if_ne (tgt := 2681) hx hb dL_law_2667 (by decide) (fun c_6 => ?_) (fun c_6 => ?_)
    · have hf := (if_neg c_6).symm.trans hf
      exact law_J2681 hL C0 hlt D cI cJ cD sa q hq hqA hE hXe N k h5 k28 ih Tn Ta Fn Fa Ba Rn Ra Rb Rd Ua Wg Wz Ww Wr Mh2649 Mn Mm Mt Mk Ms Me Mp Mw Ml My2649 Oa2631 Od x5 hx5 hf _ _ hP hS _ (lv_sub hl [2, 3, 4, 5, 6, 7] rfl)
    · have hf := (if_pos c_6).symm.trans hf
      refine lv_aload_n hx hb dL_law_2670 rfl (lv_at hl 5 rfl) ?_
      refine lv_iconst (v := (0 : Int32)) hx hb dL_law_2671 (by decide) ?_
      obtain ⟨g_7, hf⟩ := gd_some hf
      refine va_lald hx hb hE.1 hP 23 1 rfl rfl (inb_in g_7) dL_law_2672 ?_
      refine lv_lload hx hb dL_law_2673 (lv_at hl 0 rfl) ?_
      refine W.lcmp hx hb dL_law_2675 ?_
      refine lv_if_eq (tgt := 2681) hx hb dL_law_2676 (by decide) (fun c_8 => ?_) (fun c_8 => ?_)
      · have hf := (if_pos c_8).symm.trans hf
        exact law_J2681 hL C0 hlt D cI cJ cD sa q hq hqA hE hXe N k h5 k28 ih Tn Ta Fn Fa Ba Rn Ra Rb Rd Ua Wg Wz Ww Wr Mh2649 Mn Mm Mt Mk Ms Me Mp Mw Ml My2649 Oa2631 Od x5 hx5 hf _ _ hP hS _ (lv_sub hl [2, 3, 4, 5, 6, 7] rfl)
      · have hf := (if_neg c_8).symm.trans hf
        exact law_J2679 hL C0 hlt D cI cJ cD sa q hq hqA hE hXe N k (by omega) Tn Ta Fn Fa Ba Rn Ra Rb Rd Ua Wg Wz Ww Wr Mh2649 Mn Mm Mt Mk Ms Me Mp Mw Ml My2649 Oa2631 Od hf _ _ hP hS _ (lv_sub hl [] rfl)
  · have hf := (if_neg c_5).symm.trans hf
    exact law_J2663 hL C0 hlt D cI cJ cD sa q hq hqA hE hXe N k (by omega) Tn Ta Fn Fa Ba Rn Ra Rb Rd Ua Wg Wz Ww Wr Mh2649 Mn Mm Mt Mk Ms Me Mp Mw Ml My2649 Oa2631 Od hf _ _ hP hS _ (lv_sub hl [] rfl)
set_option maxHeartbeats 4000000 in
set_option maxRecDepth 100000 in
theorem law_J2748 {p : Program} {l : Launch} {e : Env} {s : State} {m : MethodId} {below : List Frame} {meth : Method} {c : Code} {b L : Nat} {xs : Nat → Int32} (hL : L ≤ 2560) (C0 : lw_At p s m meth c b L xs) (hlt : l.stackTraces = false) (D : va_G) (cI cJ cD : ClassId) (sa : Nat → Nat) (q : Nat → Nat) (hq : gInj q) (hqA : ∀ k, k < 25 → s.heap.size ≤ q k) (hE : gEv D cI cJ cD s) (hXe : gXe sa (fun a => s.heap.size ≤ a) s s.heap) (N : Nat) (k : Nat) (h5 : 5 * k + 5 ≤ L) (k28 : Int32 → (Nat → Int32) → Int32 → (Nat → Int32) → (Nat → Int32) → Int32 → (Nat → Int32) → (Nat → Int32) → (Nat → Int32) → (Nat → Int32) → Int32 → Int32 → Int32 → Int32 → Int32 → Int32 → Int32 → (Nat → Int32) → (Nat → Int32) → (Nat → Int32) → (Nat → Int32) → (Nat → Int32) → (Nat → Int32) → (Nat → Int32) → (Nat → Int64) → (Nat → Int64) → (Nat → UInt64) → Int32 → Option Int32) (ih : lawIH p l e s m below meth c b D cI cJ cD q k k28) (Tn : Int32) (Ta : (Nat → Int32)) (Fn : Int32) (Fa : (Nat → Int32)) (Ba : (Nat → Int32)) (Rn : Int32) (Ra : (Nat → Int32)) (Rb : (Nat → Int32)) (Rd : (Nat → Int32)) (Ua : (Nat → Int32)) (Wg : Int32) (Wz : Int32) (Ww : Int32) (Wr : Int32) (Mh : Int32) (Mn : Int32) (Mm : Int32) (Mt : (Nat → Int32)) (Mk : (Nat → Int32)) (Ms : (Nat → Int32)) (Me : (Nat → Int32)) (Mp : (Nat → Int32)) (Mw : (Nat → Int32)) (Ml : (Nat → Int32)) (My : (Nat → Int64)) (Oa : (Nat → Int64)) (Od : (Nat → UInt64)) (x5 : Int32) (hx5 : x5 = nI (5 * k)) (hf : fL_law_J2748 N L xs k28 Tn Ta Fn Fa Ba Rn Ra Rb Rd Ua Wg Wz Ww Wr Mh Mn Mm Mt Mk Ms Me Mp Mw Ml My Oa Od x5 = some 1) : ∀ (H : Heap) (locs : List Loc), va_P D vwCl (w_0_1_2_3_4_5_6_7_8_9_10_11_12_13_14_15_16_17_18_19_20_21_22_23_24 q cI cJ cD Tn Ta Fn Fa Ba Rn Ra Rb Rd Ua Wg Wz Ww Wr Mh Mn Mm Mt Mk Ms Me Mp Mw Ml My Oa Od) H → va_S (fun a : Nat => s.heap.size ≤ a) s.heap H locs → ∀ ls : Array Slot, lv_has ls 10 [(0, .ref b), (1, .ref (q 0)), (2, .ref (q 14)), (3, .ref (q 23)), (4, .ref (q 24)), (5, .int x5)] → W p l e room_1 s m #[Value.ref b] below meth c H locs (25 + k + 1) (1025 + 6 * k + 6) (lw_Z below #[Value.ref b] s) (F0 m 2748 ls []) := by
  obtain ⟨hx, hb, hr, hml, hown, hts0, hX, hbl, hlocks, hgv⟩ := id C0
  have hown : s.vm.findClass RL = some m.cls := hown
  have hts : ∀ w ∈ wsL_law, w.before #[Value.ref b] s = true := fun w h => hts0 w (wsL_law_in w h)
  have hbA : ¬ (fun a : Nat => s.heap.size ≤ a) b := Nat.not_le.mpr hbl
  have hcm : 25 + k + 1 ≤ 1058 := by omega
  have hsm : 1025 + 6 * k + 6 ≤ 9271 := by omega
  have hc0 : 25 + k ≤ 1058 := by omega
  have hs0 : 1025 + 6 * k ≤ 9271 := by omega
  intro H locs hP hS ls hl
  unfold fL_law_J2748 at hf
  refine lv_goto (tgt := 2831) hx hb dL_law_2748 (by decide) ?_
  exact law_J2831 hL C0 hlt D cI cJ cD sa q hq hqA hE hXe N k h5 k28 ih Tn Ta Fn Fa Ba Rn Ra Rb Rd Ua Wg Wz Ww Wr Mh Mn Mm Mt Mk Ms Me Mp Mw Ml My Oa Od x5 hx5 hf _ _ hP hS _ (lv_sub hl [0, 1, 2, 3, 4, 5] rfl)
set_option maxHeartbeats 4000000 in
set_option maxRecDepth 100000 in
theorem law_J2684 {p : Program} {l : Launch} {e : Env} {s : State} {m : MethodId} {below : List Frame} {meth : Method} {c : Code} {b L : Nat} {xs : Nat → Int32} (hL : L ≤ 2560) (C0 : lw_At p s m meth c b L xs) (hlt : l.stackTraces = false) (D : va_G) (cI cJ cD : ClassId) (sa : Nat → Nat) (q : Nat → Nat) (hq : gInj q) (hqA : ∀ k, k < 25 → s.heap.size ≤ q k) (hE : gEv D cI cJ cD s) (hXe : gXe sa (fun a => s.heap.size ≤ a) s s.heap) (N : Nat) (k : Nat) (h5 : 5 * k + 5 ≤ L) (k28 : Int32 → (Nat → Int32) → Int32 → (Nat → Int32) → (Nat → Int32) → Int32 → (Nat → Int32) → (Nat → Int32) → (Nat → Int32) → (Nat → Int32) → Int32 → Int32 → Int32 → Int32 → Int32 → Int32 → Int32 → (Nat → Int32) → (Nat → Int32) → (Nat → Int32) → (Nat → Int32) → (Nat → Int32) → (Nat → Int32) → (Nat → Int32) → (Nat → Int64) → (Nat → Int64) → (Nat → UInt64) → Int32 → Option Int32) (ih : lawIH p l e s m below meth c b D cI cJ cD q k k28) (Tn : Int32) (Ta : (Nat → Int32)) (Fn : Int32) (Fa : (Nat → Int32)) (Ba : (Nat → Int32)) (Rn : Int32) (Ra : (Nat → Int32)) (Rb : (Nat → Int32)) (Rd : (Nat → Int32)) (Ua : (Nat → Int32)) (Wg : Int32) (Wz : Int32) (Ww : Int32) (Wr : Int32) (Mh : Int32) (Mn : Int32) (Mm : Int32) (Mt : (Nat → Int32)) (Mk : (Nat → Int32)) (Ms : (Nat → Int32)) (Me : (Nat → Int32)) (Mp : (Nat → Int32)) (Mw : (Nat → Int32)) (Ml : (Nat → Int32)) (My : (Nat → Int64)) (Oa : (Nat → Int64)) (Od : (Nat → UInt64)) (x5 : Int32) (hx5 : x5 = nI (5 * k)) (hf : fL_law_J2684 N L xs k28 Tn Ta Fn Fa Ba Rn Ra Rb Rd Ua Wg Wz Ww Wr Mh Mn Mm Mt Mk Ms Me Mp Mw Ml My Oa Od x5 = some 1) : ∀ (H : Heap) (locs : List Loc), va_P D vwCl (w_0_1_2_3_4_5_6_7_8_9_10_11_12_13_14_15_16_17_18_19_20_21_22_23_24 q cI cJ cD Tn Ta Fn Fa Ba Rn Ra Rb Rd Ua Wg Wz Ww Wr Mh Mn Mm Mt Mk Ms Me Mp Mw Ml My Oa Od) H → va_S (fun a : Nat => s.heap.size ≤ a) s.heap H locs → ∀ ls : Array Slot, lv_has ls 10 [(0, .ref b), (1, .ref (q 0)), (2, .ref (q 14)), (3, .ref (q 23)), (4, .ref (q 24)), (5, .int x5)] → W p l e room_1 s m #[Value.ref b] below meth c H locs (25 + k) (1025 + 6 * k) (lw_Z below #[Value.ref b] s) (F0 m 2684 ls []) := by
  obtain ⟨hx, hb, hr, hml, hown, hts0, hX, hbl, hlocks, hgv⟩ := id C0
  have hown : s.vm.findClass RL = some m.cls := hown
  have hts : ∀ w ∈ wsL_law, w.before #[Value.ref b] s = true := fun w h => hts0 w (wsL_law_in w h)
  have hbA : ¬ (fun a : Nat => s.heap.size ≤ a) b := Nat.not_le.mpr hbl
  have hcm : 25 + k + 1 ≤ 1058 := by omega
  have hsm : 1025 + 6 * k + 6 ≤ 9271 := by omega
  have hc0 : 25 + k ≤ 1058 := by omega
  have hs0 : 1025 + 6 * k ≤ 9271 := by omega
  intro H locs hP hS ls hl
  unfold fL_law_J2684 at hf
  refine lv_aload_n hx hb dL_law_2684 rfl (lv_at hl 1 rfl) ?_
  refine lv_aload_n hx hb dL_law_2685 rfl (lv_at hl 0 rfl) ?_
  refine lv_iload hx hb dL_law_2686 (lv_at hl 5 rfl) ?_
  refine lv_iconst (v := (1 : Int32)) hx hb dL_law_2688 (by decide) ?_
  refine lv_iadd hx hb dL_law_2689 ?_
  obtain ⟨g_1, hf⟩ := gd_some hf
  refine va_sld hx hb hX hbl hbA hS (inb_in g_1) dL_law_2690 ?_
  refine lv_aload_n hx hb dL_law_2691 rfl (lv_at hl 0 rfl) ?_
  refine lv_iload hx hb dL_law_2692 (lv_at hl 5 rfl) ?_
  refine lv_iconst (v := (2 : Int32)) hx hb dL_law_2694 (by decide) ?_
  refine lv_iadd hx hb dL_law_2695 ?_
  obtain ⟨g_2, hf⟩ := gd_some hf
  refine va_sld hx hb hX hbl hbA hS (inb_in g_2) dL_law_2696 ?_
  refine lv_aload_n hx hb dL_law_2697 rfl (lv_at hl 3 rfl) ?_
  obtain ⟨⟨r2698, Oa2698⟩, hc, hf⟩ := bn_some hf
  try dsimp only at hf
  refine g_call (mc := 1) (ms := 6) (ws' := (w_0_1_2_3_4_5_6_7_8_9_10_11_12_13_14_15_16_17_18_19_20_21_22_23_24 q cI cJ cD Tn Ta Fn Fa Ba Rn Ra Rb Rd Ua Wg Wz Ww Wr Mh Mn Mm Mt Mk Ms Me Mp Mw Ml My Oa2698 Od)) (st1 := [.int r2698]) hq [0, 1, 2, 3, 4, 5, 6, 7, 8, 9, 10, 11, 12, 13, 14, 15, 16, 17, 18, 19, 20, 21, 22, 23, 24] [0, 23] [.inl 0, .inr 1, .inr 2, .inr 3, .inr 4, .inr 5, .inr 6, .inr 7, .inr 8, .inr 9, .inr 10, .inr 11, .inr 12, .inr 13, .inr 14, .inr 15, .inr 16, .inr 17, .inr 18, .inr 19, .inr 20, .inr 21, .inr 22, .inl 1, .inr 24] (vx_runSW (As := [.ref (q 0), .int (xs ((x5 + (1 : Int32))).toNatClampNeg), .int (xs ((x5 + (2 : Int32))).toNatClampNeg), .ref (q 23)]) (rest := []) ⟨hx, hb, hml, hown, hts⟩ (kL_lyndonWords l hlt D cI cJ cD sa q hq N Oa (xs ((x5 + (1 : Int32))).toNatClampNeg) (xs ((x5 + (2 : Int32))).toNatClampNeg) r2698 Oa2698 hc) (vx_cwSW 4 hts gL_law_L_lyndonWords rfl rfl rfl (by decide +kernel) ⟨(Nat.le_of_ble_eq_true rfl), (Nat.le_of_ble_eq_true rfl)⟩) ⟨gPx_blind, fun U hU hW => ⟨rfl, by rw [hU]; exact hP.sub (ws' := (w_0_23 q cI cJ cD Oa)) [0, 23] rfl, gEv.warm hW hE, gXe.go hW hS (gMonoL hqA rfl) hXe hU⟩⟩ rfl rfl hl.1 rfl (lv_room (Nat.le_of_ble_eq_true rfl)) dL_law_2698 ⟨hcm, hsm⟩) hP hS (gSubL hqA rfl) rfl rfl rfl rfl rfl (fun H locs hP hS => ?_)
  refine lv_istore (lv' := [(6, .int r2698), (0, .ref b), (1, .ref (q 0)), (2, .ref (q 14)), (3, .ref (q 23)), (4, .ref (q 24)), (5, .int x5)]) hx hb dL_law_2701 hl (by decide) rfl (fun ls hl => ?_)
  refine lv_aload_n hx hb dL_law_2703 rfl (lv_at hl 3 rfl) ?_
  refine lv_aload_n hx hb dL_law_2704 rfl (lv_at hl 1 rfl) ?_
  refine lv_iload hx hb dL_law_2705 (lv_at hl 6 rfl) ?_
  refine lv_iconst (v := (1 : Int32)) hx hb dL_law_2707 (by decide) ?_
  refine lv_iadd hx hb dL_law_2708 ?_
  obtain ⟨g_3, hf⟩ := gd_some hf
  refine va_sld hx hb hX hbl hbA hS (inb_in g_3) dL_law_2709 ?_
  refine lv_aload_n hx hb dL_law_2710 rfl (lv_at hl 1 rfl) ?_
  refine lv_iload hx hb dL_law_2711 (lv_at hl 6 rfl) ?_
  refine lv_iconst (v := (2 : Int32)) hx hb dL_law_2713 (by decide) ?_
  refine lv_iadd hx hb dL_law_2714 ?_
  obtain ⟨g_4, hf⟩ := gd_some hf
  refine va_sld hx hb hX hbl hbA hS (inb_in g_4) dL_law_2715 ?_
  obtain ⟨⟨r2716, Mh2716, My2716⟩, hc, hf⟩ := bn_some hf
  try dsimp only at hf
  refine g_call0 (ws' := (w_0_1_2_3_4_5_6_7_8_9_10_11_12_13_14_15_16_17_18_19_20_21_22_23_24 q cI cJ cD Tn Ta Fn Fa Ba Rn Ra Rb Rd Ua Wg Wz Ww Wr Mh2716 Mn Mm Mt Mk Ms Me Mp Mw Ml My2716 Oa2698 Od)) (st1 := [.long r2716]) hq [0, 1, 2, 3, 4, 5, 6, 7, 8, 9, 10, 11, 12, 13, 14, 15, 16, 17, 18, 19, 20, 21, 22, 23, 24] [14, 22] [.inr 0, .inr 1, .inr 2, .inr 3, .inr 4, .inr 5, .inr 6, .inr 7, .inr 8, .inr 9, .inr 10, .inr 11, .inr 12, .inr 13, .inl 0, .inr 15, .inr 16, .inr 17, .inr 18, .inr 19, .inr 20, .inr 21, .inl 1, .inr 23, .inr 24] (va_runV (As := [.int (xs ((x5 + (1 : Int32))).toNatClampNeg), .int (xs ((x5 + (2 : Int32))).toNatClampNeg)]) (rest := []) ⟨hx, hb, hml, hown, hts⟩ (kX9_lyndonWords l D cI cJ cD q hq N Mh Mn Mm My (xs ((x5 + (1 : Int32))).toNatClampNeg) (xs ((x5 + (2 : Int32))).toNatClampNeg) r2716 Mh2716 My2716 hc) (cwV 2 hts gL_law_X9_lyndonWords rfl rfl rfl (by decide +kernel) ⟨(Nat.le_of_ble_eq_true rfl), (Nat.le_of_ble_eq_true rfl)⟩) ⟨gP_blind, va_recv hE.1 hP (ci := 7) (q0 := 14) rfl rfl, fun U hU hW => ⟨rfl, by rw [hU]; exact hP.sub (ws' := (w_14_22 q cI cJ cD Mh Mn Mm My)) [14, 22] rfl, gEv.warm hW hE⟩⟩ rfl rfl hl.1 rfl (lv_room (Nat.le_of_ble_eq_true rfl)) dL_law_2716 ⟨hcm, hsm⟩) hP hS (gSubL hqA rfl) rfl rfl rfl rfl rfl (fun H locs hP hS => ?_)
  refine lv_lstore (lv' := [(7, .long r2716), (6, .int r2698), (0, .ref b), (1, .ref (q 0)), (2, .ref (q 14)), (3, .ref (q 23)), (4, .ref (q 24)), (5, .int x5)]) hx hb dL_law_2719 hl (by decide) rfl (fun ls hl => ?_)
  refine lv_aload_n hx hb dL_law_2721 rfl (lv_at hl 4 rfl) ?_
  obtain ⟨r2722, hc, hf⟩ := bn_some hf
  try dsimp only at hf
  refine g_call0 (ws' := (w_0_1_2_3_4_5_6_7_8_9_10_11_12_13_14_15_16_17_18_19_20_21_22_23_24 q cI cJ cD Tn Ta Fn Fa Ba Rn Ra Rb Rd Ua Wg Wz Ww Wr Mh2716 Mn Mm Mt Mk Ms Me Mp Mw Ml My2716 Oa2698 Od)) (st1 := [.int r2722]) hq [0, 1, 2, 3, 4, 5, 6, 7, 8, 9, 10, 11, 12, 13, 14, 15, 16, 17, 18, 19, 20, 21, 22, 23, 24] [14] [.inr 0, .inr 1, .inr 2, .inr 3, .inr 4, .inr 5, .inr 6, .inr 7, .inr 8, .inr 9, .inr 10, .inr 11, .inr 12, .inr 13, .inl 0, .inr 15, .inr 16, .inr 17, .inr 18, .inr 19, .inr 20, .inr 21, .inr 22, .inr 23, .inr 24] (va_runV (As := []) (rest := []) ⟨hx, hb, hml, hown, hts⟩ (kX9_thrown l D cI cJ cD q hq N Mh2716 Mn Mm r2722 hc) (cwV 0 hts gL_law_X9_thrown rfl rfl rfl (by decide +kernel) ⟨(Nat.le_of_ble_eq_true rfl), (Nat.le_of_ble_eq_true rfl)⟩) ⟨gP_blind, va_recv hE.1 hP (ci := 7) (q0 := 14) rfl rfl, fun U hU hW => ⟨rfl, by rw [hU]; exact hP.sub (ws' := (w_14 q cI cJ cD Mh2716 Mn Mm)) [14] rfl, gEv.warm hW hE⟩⟩ rfl rfl hl.1 rfl (lv_room (Nat.le_of_ble_eq_true rfl)) dL_law_2722 ⟨hcm, hsm⟩) hP hS (gSubL hqA rfl) rfl rfl rfl rfl rfl (fun H locs hP hS => ?_)
  refine lv_iload hx hb dL_law_2725 (lv_at hl 1 rfl) ?_
  refine lv_icmp_eq (tgt := 2732) hx hb dL_law_2727 (by decide) (fun c_5 => ?_) (fun c_5 => ?_)
  · have hf := (if_pos c_5).symm.trans hf
    refine lv_iload hx hb dL_law_2732 (lv_at hl 1 rfl) ?_
    refine lv_if_ne (tgt := 2748) hx hb dL_law_2734 (by decide) (fun c_6 => ?_) (fun c_6 => ?_)
    · have hf := (if_neg c_6).symm.trans hf
      exact law_J2748 hL C0 hlt D cI cJ cD sa q hq hqA hE hXe N k h5 k28 ih Tn Ta Fn Fa Ba Rn Ra Rb Rd Ua Wg Wz Ww Wr Mh2716 Mn Mm Mt Mk Ms Me Mp Mw Ml My2716 Oa2698 Od x5 hx5 hf _ _ hP hS _ (lv_sub hl [2, 3, 4, 5, 6, 7] rfl)
    · have hf := (if_pos c_6).symm.trans hf
      refine lv_aload_n hx hb dL_law_2737 rfl (lv_at hl 5 rfl) ?_
      refine lv_iconst (v := (0 : Int32)) hx hb dL_law_2738 (by decide) ?_
      obtain ⟨g_7, hf⟩ := gd_some hf
      refine va_lald hx hb hE.1 hP 23 1 rfl rfl (inb_in g_7) dL_law_2739 ?_
      refine lv_lload hx hb dL_law_2740 (lv_at hl 0 rfl) ?_
      refine W.lcmp hx hb dL_law_2742 ?_
      refine lv_if_eq (tgt := 2748) hx hb dL_law_2743 (by decide) (fun c_8 => ?_) (fun c_8 => ?_)
      · have hf := (if_pos c_8).symm.trans hf
        exact law_J2748 hL C0 hlt D cI cJ cD sa q hq hqA hE hXe N k h5 k28 ih Tn Ta Fn Fa Ba Rn Ra Rb Rd Ua Wg Wz Ww Wr Mh2716 Mn Mm Mt Mk Ms Me Mp Mw Ml My2716 Oa2698 Od x5 hx5 hf _ _ hP hS _ (lv_sub hl [2, 3, 4, 5, 6, 7] rfl)
      · have hf := (if_neg c_8).symm.trans hf
        exact law_J2746 hL C0 hlt D cI cJ cD sa q hq hqA hE hXe N k (by omega) Tn Ta Fn Fa Ba Rn Ra Rb Rd Ua Wg Wz Ww Wr Mh2716 Mn Mm Mt Mk Ms Me Mp Mw Ml My2716 Oa2698 Od hf _ _ hP hS _ (lv_sub hl [] rfl)
  · have hf := (if_neg c_5).symm.trans hf
    exact law_J2730 hL C0 hlt D cI cJ cD sa q hq hqA hE hXe N k (by omega) Tn Ta Fn Fa Ba Rn Ra Rb Rd Ua Wg Wz Ww Wr Mh2716 Mn Mm Mt Mk Ms Me Mp Mw Ml My2716 Oa2698 Od hf _ _ hP hS _ (lv_sub hl [] rfl)
set_option maxHeartbeats 4000000 in
set_option maxRecDepth 100000 in
theorem law_J2828 {p : Program} {l : Launch} {e : Env} {s : State} {m : MethodId} {below : List Frame} {meth : Method} {c : Code} {b L : Nat} {xs : Nat → Int32} (hL : L ≤ 2560) (C0 : lw_At p s m meth c b L xs) (hlt : l.stackTraces = false) (D : va_G) (cI cJ cD : ClassId) (sa : Nat → Nat) (q : Nat → Nat) (hq : gInj q) (hqA : ∀ k, k < 25 → s.heap.size ≤ q k) (hE : gEv D cI cJ cD s) (hXe : gXe sa (fun a => s.heap.size ≤ a) s s.heap) (N : Nat) (k : Nat) (h5 : 5 * k + 5 ≤ L) (k28 : Int32 → (Nat → Int32) → Int32 → (Nat → Int32) → (Nat → Int32) → Int32 → (Nat → Int32) → (Nat → Int32) → (Nat → Int32) → (Nat → Int32) → Int32 → Int32 → Int32 → Int32 → Int32 → Int32 → Int32 → (Nat → Int32) → (Nat → Int32) → (Nat → Int32) → (Nat → Int32) → (Nat → Int32) → (Nat → Int32) → (Nat → Int32) → (Nat → Int64) → (Nat → Int64) → (Nat → UInt64) → Int32 → Option Int32) (ih : lawIH p l e s m below meth c b D cI cJ cD q k k28) (Tn : Int32) (Ta : (Nat → Int32)) (Fn : Int32) (Fa : (Nat → Int32)) (Ba : (Nat → Int32)) (Rn : Int32) (Ra : (Nat → Int32)) (Rb : (Nat → Int32)) (Rd : (Nat → Int32)) (Ua : (Nat → Int32)) (Wg : Int32) (Wz : Int32) (Ww : Int32) (Wr : Int32) (Mh : Int32) (Mn : Int32) (Mm : Int32) (Mt : (Nat → Int32)) (Mk : (Nat → Int32)) (Ms : (Nat → Int32)) (Me : (Nat → Int32)) (Mp : (Nat → Int32)) (Mw : (Nat → Int32)) (Ml : (Nat → Int32)) (My : (Nat → Int64)) (Oa : (Nat → Int64)) (Od : (Nat → UInt64)) (x5 : Int32) (hx5 : x5 = nI (5 * k)) (hf : fL_law_J2828 N L xs k28 Tn Ta Fn Fa Ba Rn Ra Rb Rd Ua Wg Wz Ww Wr Mh Mn Mm Mt Mk Ms Me Mp Mw Ml My Oa Od x5 = some 1) : ∀ (H : Heap) (locs : List Loc), va_P D vwCl (w_0_1_2_3_4_5_6_7_8_9_10_11_12_13_14_15_16_17_18_19_20_21_22_23_24 q cI cJ cD Tn Ta Fn Fa Ba Rn Ra Rb Rd Ua Wg Wz Ww Wr Mh Mn Mm Mt Mk Ms Me Mp Mw Ml My Oa Od) H → va_S (fun a : Nat => s.heap.size ≤ a) s.heap H locs → ∀ ls : Array Slot, lv_has ls 10 [(0, .ref b), (1, .ref (q 0)), (2, .ref (q 14)), (3, .ref (q 23)), (4, .ref (q 24)), (5, .int x5)] → W p l e room_1 s m #[Value.ref b] below meth c H locs (25 + k + 1) (1025 + 6 * k + 6) (lw_Z below #[Value.ref b] s) (F0 m 2828 ls []) := by
  obtain ⟨hx, hb, hr, hml, hown, hts0, hX, hbl, hlocks, hgv⟩ := id C0
  have hown : s.vm.findClass RL = some m.cls := hown
  have hts : ∀ w ∈ wsL_law, w.before #[Value.ref b] s = true := fun w h => hts0 w (wsL_law_in w h)
  have hbA : ¬ (fun a : Nat => s.heap.size ≤ a) b := Nat.not_le.mpr hbl
  have hcm : 25 + k + 1 ≤ 1058 := by omega
  have hsm : 1025 + 6 * k + 6 ≤ 9271 := by omega
  have hc0 : 25 + k ≤ 1058 := by omega
  have hs0 : 1025 + 6 * k ≤ 9271 := by omega
  intro H locs hP hS ls hl
  unfold fL_law_J2828 at hf
  refine lv_goto (tgt := 2831) hx hb dL_law_2828 (by decide) ?_
  exact law_J2831 hL C0 hlt D cI cJ cD sa q hq hqA hE hXe N k h5 k28 ih Tn Ta Fn Fa Ba Rn Ra Rb Rd Ua Wg Wz Ww Wr Mh Mn Mm Mt Mk Ms Me Mp Mw Ml My Oa Od x5 hx5 hf _ _ hP hS _ (lv_sub hl [0, 1, 2, 3, 4, 5] rfl)
set_option maxHeartbeats 4000000 in
set_option maxRecDepth 100000 in
theorem law_J2751 {p : Program} {l : Launch} {e : Env} {s : State} {m : MethodId} {below : List Frame} {meth : Method} {c : Code} {b L : Nat} {xs : Nat → Int32} (hL : L ≤ 2560) (C0 : lw_At p s m meth c b L xs) (hlt : l.stackTraces = false) (D : va_G) (cI cJ cD : ClassId) (sa : Nat → Nat) (q : Nat → Nat) (hq : gInj q) (hqA : ∀ k, k < 25 → s.heap.size ≤ q k) (hE : gEv D cI cJ cD s) (hXe : gXe sa (fun a => s.heap.size ≤ a) s s.heap) (N : Nat) (k : Nat) (h5 : 5 * k + 5 ≤ L) (k28 : Int32 → (Nat → Int32) → Int32 → (Nat → Int32) → (Nat → Int32) → Int32 → (Nat → Int32) → (Nat → Int32) → (Nat → Int32) → (Nat → Int32) → Int32 → Int32 → Int32 → Int32 → Int32 → Int32 → Int32 → (Nat → Int32) → (Nat → Int32) → (Nat → Int32) → (Nat → Int32) → (Nat → Int32) → (Nat → Int32) → (Nat → Int32) → (Nat → Int64) → (Nat → Int64) → (Nat → UInt64) → Int32 → Option Int32) (ih : lawIH p l e s m below meth c b D cI cJ cD q k k28) (Tn : Int32) (Ta : (Nat → Int32)) (Fn : Int32) (Fa : (Nat → Int32)) (Ba : (Nat → Int32)) (Rn : Int32) (Ra : (Nat → Int32)) (Rb : (Nat → Int32)) (Rd : (Nat → Int32)) (Ua : (Nat → Int32)) (Wg : Int32) (Wz : Int32) (Ww : Int32) (Wr : Int32) (Mh : Int32) (Mn : Int32) (Mm : Int32) (Mt : (Nat → Int32)) (Mk : (Nat → Int32)) (Ms : (Nat → Int32)) (Me : (Nat → Int32)) (Mp : (Nat → Int32)) (Mw : (Nat → Int32)) (Ml : (Nat → Int32)) (My : (Nat → Int64)) (Oa : (Nat → Int64)) (Od : (Nat → UInt64)) (x5 : Int32) (hx5 : x5 = nI (5 * k)) (hf : fL_law_J2751 N L xs k28 Tn Ta Fn Fa Ba Rn Ra Rb Rd Ua Wg Wz Ww Wr Mh Mn Mm Mt Mk Ms Me Mp Mw Ml My Oa Od x5 = some 1) : ∀ (H : Heap) (locs : List Loc), va_P D vwCl (w_0_1_2_3_4_5_6_7_8_9_10_11_12_13_14_15_16_17_18_19_20_21_22_23_24 q cI cJ cD Tn Ta Fn Fa Ba Rn Ra Rb Rd Ua Wg Wz Ww Wr Mh Mn Mm Mt Mk Ms Me Mp Mw Ml My Oa Od) H → va_S (fun a : Nat => s.heap.size ≤ a) s.heap H locs → ∀ ls : Array Slot, lv_has ls 10 [(0, .ref b), (1, .ref (q 0)), (2, .ref (q 14)), (3, .ref (q 23)), (4, .ref (q 24)), (5, .int x5)] → W p l e room_1 s m #[Value.ref b] below meth c H locs (25 + k) (1025 + 6 * k) (lw_Z below #[Value.ref b] s) (F0 m 2751 ls []) := by
  obtain ⟨hx, hb, hr, hml, hown, hts0, hX, hbl, hlocks, hgv⟩ := id C0
  have hown : s.vm.findClass RL = some m.cls := hown
  have hts : ∀ w ∈ wsL_law, w.before #[Value.ref b] s = true := fun w h => hts0 w (wsL_law_in w h)
  have hbA : ¬ (fun a : Nat => s.heap.size ≤ a) b := Nat.not_le.mpr hbl
  have hcm : 25 + k + 1 ≤ 1058 := by omega
  have hsm : 1025 + 6 * k + 6 ≤ 9271 := by omega
  have hc0 : 25 + k ≤ 1058 := by omega
  have hs0 : 1025 + 6 * k ≤ 9271 := by omega
  intro H locs hP hS ls hl
  unfold fL_law_J2751 at hf
  refine lv_aload_n hx hb dL_law_2751 rfl (lv_at hl 1 rfl) ?_
  refine lv_aload_n hx hb dL_law_2752 rfl (lv_at hl 0 rfl) ?_
  refine lv_iload hx hb dL_law_2753 (lv_at hl 5 rfl) ?_
  refine lv_iconst (v := (1 : Int32)) hx hb dL_law_2755 (by decide) ?_
  refine lv_iadd hx hb dL_law_2756 ?_
  obtain ⟨g_1, hf⟩ := gd_some hf
  refine va_sld hx hb hX hbl hbA hS (inb_in g_1) dL_law_2757 ?_
  refine lv_aload_n hx hb dL_law_2758 rfl (lv_at hl 0 rfl) ?_
  refine lv_iload hx hb dL_law_2759 (lv_at hl 5 rfl) ?_
  refine lv_iconst (v := (2 : Int32)) hx hb dL_law_2761 (by decide) ?_
  refine lv_iadd hx hb dL_law_2762 ?_
  obtain ⟨g_2, hf⟩ := gd_some hf
  refine va_sld hx hb hX hbl hbA hS (inb_in g_2) dL_law_2763 ?_
  refine lv_aload_n hx hb dL_law_2764 rfl (lv_at hl 0 rfl) ?_
  refine lv_iload hx hb dL_law_2765 (lv_at hl 5 rfl) ?_
  refine lv_iconst (v := (3 : Int32)) hx hb dL_law_2767 (by decide) ?_
  refine lv_iadd hx hb dL_law_2768 ?_
  obtain ⟨g_3, hf⟩ := gd_some hf
  refine va_sld hx hb hX hbl hbA hS (inb_in g_3) dL_law_2769 ?_
  refine lv_aload_n hx hb dL_law_2770 rfl (lv_at hl 3 rfl) ?_
  obtain ⟨⟨r2771, Wg2771, Wz2771, Ww2771, Wr2771, Oa2771⟩, hc, hf⟩ := bn_some hf
  try dsimp only at hf
  refine g_call (mc := 1) (ms := 6) (ws' := (w_0_1_2_3_4_5_6_7_8_9_10_11_12_13_14_15_16_17_18_19_20_21_22_23_24 q cI cJ cD Tn Ta Fn Fa Ba Rn Ra Rb Rd Ua Wg2771 Wz2771 Ww2771 Wr2771 Mh Mn Mm Mt Mk Ms Me Mp Mw Ml My Oa2771 Od)) (st1 := [.int r2771]) hq [0, 1, 2, 3, 4, 5, 6, 7, 8, 9, 10, 11, 12, 13, 14, 15, 16, 17, 18, 19, 20, 21, 22, 23, 24] [0, 1, 2, 13, 23] [.inl 0, .inl 1, .inl 2, .inr 3, .inr 4, .inr 5, .inr 6, .inr 7, .inr 8, .inr 9, .inr 10, .inr 11, .inr 12, .inl 3, .inr 14, .inr 15, .inr 16, .inr 17, .inr 18, .inr 19, .inr 20, .inr 21, .inr 22, .inl 4, .inr 24] (vx_runSW (As := [.ref (q 0), .int (xs ((x5 + (1 : Int32))).toNatClampNeg), .int (xs ((x5 + (2 : Int32))).toNatClampNeg), .int (xs ((x5 + (3 : Int32))).toNatClampNeg), .ref (q 23)]) (rest := []) ⟨hx, hb, hml, hown, hts⟩ (kL_necklaceNumber l hlt D cI cJ cD sa q hq N Tn Ta Wg Wz Ww Wr Oa (xs ((x5 + (1 : Int32))).toNatClampNeg) (xs ((x5 + (2 : Int32))).toNatClampNeg) (xs ((x5 + (3 : Int32))).toNatClampNeg) r2771 Wg2771 Wz2771 Ww2771 Wr2771 Oa2771 hc) (vx_cwSW 5 hts gL_law_L_necklaceNumber rfl rfl rfl (by decide +kernel) ⟨(Nat.le_of_ble_eq_true rfl), (Nat.le_of_ble_eq_true rfl)⟩) ⟨gPx_blind, fun U hU hW => ⟨rfl, by rw [hU]; exact hP.sub (ws' := (w_0_1_2_13_23 q cI cJ cD Tn Ta Wg Wz Ww Wr Oa)) [0, 1, 2, 13, 23] rfl, gEv.warm hW hE, gXe.go hW hS (gMonoL hqA rfl) hXe hU⟩⟩ rfl rfl hl.1 rfl (lv_room (Nat.le_of_ble_eq_true rfl)) dL_law_2771 ⟨hcm, hsm⟩) hP hS (gSubL hqA rfl) rfl rfl rfl rfl rfl (fun H locs hP hS => ?_)
  refine lv_istore (lv' := [(6, .int r2771), (0, .ref b), (1, .ref (q 0)), (2, .ref (q 14)), (3, .ref (q 23)), (4, .ref (q 24)), (5, .int x5)]) hx hb dL_law_2774 hl (by decide) rfl (fun ls hl => ?_)
  refine lv_aload_n hx hb dL_law_2776 rfl (lv_at hl 3 rfl) ?_
  refine lv_aload_n hx hb dL_law_2777 rfl (lv_at hl 1 rfl) ?_
  refine lv_iload hx hb dL_law_2778 (lv_at hl 6 rfl) ?_
  refine lv_iconst (v := (1 : Int32)) hx hb dL_law_2780 (by decide) ?_
  refine lv_iadd hx hb dL_law_2781 ?_
  obtain ⟨g_4, hf⟩ := gd_some hf
  refine va_sld hx hb hX hbl hbA hS (inb_in g_4) dL_law_2782 ?_
  refine lv_aload_n hx hb dL_law_2783 rfl (lv_at hl 1 rfl) ?_
  refine lv_iload hx hb dL_law_2784 (lv_at hl 6 rfl) ?_
  refine lv_iconst (v := (2 : Int32)) hx hb dL_law_2786 (by decide) ?_
  refine lv_iadd hx hb dL_law_2787 ?_
  obtain ⟨g_5, hf⟩ := gd_some hf
  refine va_sld hx hb hX hbl hbA hS (inb_in g_5) dL_law_2788 ?_
  refine lv_aload_n hx hb dL_law_2789 rfl (lv_at hl 1 rfl) ?_
  refine lv_iload hx hb dL_law_2790 (lv_at hl 6 rfl) ?_
  refine lv_iconst (v := (3 : Int32)) hx hb dL_law_2792 (by decide) ?_
  refine lv_iadd hx hb dL_law_2793 ?_
  obtain ⟨g_6, hf⟩ := gd_some hf
  refine va_sld hx hb hX hbl hbA hS (inb_in g_6) dL_law_2794 ?_
  obtain ⟨⟨r2795, Mh2795, Mw2795⟩, hc, hf⟩ := bn_some hf
  try dsimp only at hf
  refine g_call0 (ws' := (w_0_1_2_3_4_5_6_7_8_9_10_11_12_13_14_15_16_17_18_19_20_21_22_23_24 q cI cJ cD Tn Ta Fn Fa Ba Rn Ra Rb Rd Ua Wg2771 Wz2771 Ww2771 Wr2771 Mh2795 Mn Mm Mt Mk Ms Me Mp Mw2795 Ml My Oa2771 Od)) (st1 := [.int r2795]) hq [0, 1, 2, 3, 4, 5, 6, 7, 8, 9, 10, 11, 12, 13, 14, 15, 16, 17, 18, 19, 20, 21, 22, 23, 24] [14, 15, 20] [.inr 0, .inr 1, .inr 2, .inr 3, .inr 4, .inr 5, .inr 6, .inr 7, .inr 8, .inr 9, .inr 10, .inr 11, .inr 12, .inr 13, .inl 0, .inl 1, .inr 16, .inr 17, .inr 18, .inr 19, .inl 2, .inr 21, .inr 22, .inr 23, .inr 24] (va_runV (As := [.int (xs ((x5 + (1 : Int32))).toNatClampNeg), .int (xs ((x5 + (2 : Int32))).toNatClampNeg), .int (xs ((x5 + (3 : Int32))).toNatClampNeg)]) (rest := []) ⟨hx, hb, hml, hown, hts⟩ (kX9_necklaceNumber l D cI cJ cD q hq N Mh Mn Mm Mt Mw (xs ((x5 + (1 : Int32))).toNatClampNeg) (xs ((x5 + (2 : Int32))).toNatClampNeg) (xs ((x5 + (3 : Int32))).toNatClampNeg) r2795 Mh2795 Mw2795 hc) (cwV 3 hts gL_law_X9_necklaceNumber rfl rfl rfl (by decide +kernel) ⟨(Nat.le_of_ble_eq_true rfl), (Nat.le_of_ble_eq_true rfl)⟩) ⟨gP_blind, va_recv hE.1 hP (ci := 7) (q0 := 14) rfl rfl, fun U hU hW => ⟨rfl, by rw [hU]; exact hP.sub (ws' := (w_14_15_20 q cI cJ cD Mh Mn Mm Mt Mw)) [14, 15, 20] rfl, gEv.warm hW hE⟩⟩ rfl rfl hl.1 rfl (lv_room (Nat.le_of_ble_eq_true rfl)) dL_law_2795 ⟨hcm, hsm⟩) hP hS (gSubL hqA rfl) rfl rfl rfl rfl rfl (fun H locs hP hS => ?_)
  refine lv_istore (lv' := [(7, .int r2795), (6, .int r2771), (0, .ref b), (1, .ref (q 0)), (2, .ref (q 14)), (3, .ref (q 23)), (4, .ref (q 24)), (5, .int x5)]) hx hb dL_law_2798 hl (by decide) rfl (fun ls hl => ?_)
  refine lv_aload_n hx hb dL_law_2800 rfl (lv_at hl 4 rfl) ?_
  obtain ⟨r2801, hc, hf⟩ := bn_some hf
  try dsimp only at hf
  refine g_call0 (ws' := (w_0_1_2_3_4_5_6_7_8_9_10_11_12_13_14_15_16_17_18_19_20_21_22_23_24 q cI cJ cD Tn Ta Fn Fa Ba Rn Ra Rb Rd Ua Wg2771 Wz2771 Ww2771 Wr2771 Mh2795 Mn Mm Mt Mk Ms Me Mp Mw2795 Ml My Oa2771 Od)) (st1 := [.int r2801]) hq [0, 1, 2, 3, 4, 5, 6, 7, 8, 9, 10, 11, 12, 13, 14, 15, 16, 17, 18, 19, 20, 21, 22, 23, 24] [14] [.inr 0, .inr 1, .inr 2, .inr 3, .inr 4, .inr 5, .inr 6, .inr 7, .inr 8, .inr 9, .inr 10, .inr 11, .inr 12, .inr 13, .inl 0, .inr 15, .inr 16, .inr 17, .inr 18, .inr 19, .inr 20, .inr 21, .inr 22, .inr 23, .inr 24] (va_runV (As := []) (rest := []) ⟨hx, hb, hml, hown, hts⟩ (kX9_thrown l D cI cJ cD q hq N Mh2795 Mn Mm r2801 hc) (cwV 0 hts gL_law_X9_thrown rfl rfl rfl (by decide +kernel) ⟨(Nat.le_of_ble_eq_true rfl), (Nat.le_of_ble_eq_true rfl)⟩) ⟨gP_blind, va_recv hE.1 hP (ci := 7) (q0 := 14) rfl rfl, fun U hU hW => ⟨rfl, by rw [hU]; exact hP.sub (ws' := (w_14 q cI cJ cD Mh2795 Mn Mm)) [14] rfl, gEv.warm hW hE⟩⟩ rfl rfl hl.1 rfl (lv_room (Nat.le_of_ble_eq_true rfl)) dL_law_2801 ⟨hcm, hsm⟩) hP hS (gSubL hqA rfl) rfl rfl rfl rfl rfl (fun H locs hP hS => ?_)
  refine lv_iload hx hb dL_law_2804 (lv_at hl 1 rfl) ?_
  refine lv_icmp_eq (tgt := 2811) hx hb dL_law_2806 (by decide) (fun c_7 => ?_) (fun c_7 => ?_)
  · have hf := (if_pos c_7).symm.trans hf
    refine lv_iload hx hb dL_law_2811 (lv_at hl 1 rfl) ?_
    refine lv_if_ne (tgt := 2828) hx hb dL_law_2813 (by decide) (fun c_8 => ?_) (fun c_8 => ?_)
    · have hf := (if_neg c_8).symm.trans hf
      exact law_J2828 hL C0 hlt D cI cJ cD sa q hq hqA hE hXe N k h5 k28 ih Tn Ta Fn Fa Ba Rn Ra Rb Rd Ua Wg2771 Wz2771 Ww2771 Wr2771 Mh2795 Mn Mm Mt Mk Ms Me Mp Mw2795 Ml My Oa2771 Od x5 hx5 hf _ _ hP hS _ (lv_sub hl [2, 3, 4, 5, 6, 7] rfl)
    · have hf := (if_pos c_8).symm.trans hf
      refine lv_aload_n hx hb dL_law_2816 rfl (lv_at hl 5 rfl) ?_
      refine lv_iconst (v := (0 : Int32)) hx hb dL_law_2817 (by decide) ?_
      obtain ⟨g_9, hf⟩ := gd_some hf
      refine va_lald hx hb hE.1 hP 23 1 rfl rfl (inb_in g_9) dL_law_2818 ?_
      refine lv_iload hx hb dL_law_2819 (lv_at hl 0 rfl) ?_
      refine lv_i2l (v := (r2795).toInt64) hx hb dL_law_2821 rfl ?_
      refine W.lcmp hx hb dL_law_2822 ?_
      refine lv_if_eq (tgt := 2828) hx hb dL_law_2823 (by decide) (fun c_10 => ?_) (fun c_10 => ?_)
      · have hf := (if_pos c_10).symm.trans hf
        exact law_J2828 hL C0 hlt D cI cJ cD sa q hq hqA hE hXe N k h5 k28 ih Tn Ta Fn Fa Ba Rn Ra Rb Rd Ua Wg2771 Wz2771 Ww2771 Wr2771 Mh2795 Mn Mm Mt Mk Ms Me Mp Mw2795 Ml My Oa2771 Od x5 hx5 hf _ _ hP hS _ (lv_sub hl [2, 3, 4, 5, 6, 7] rfl)
      · have hf := (if_neg c_10).symm.trans hf
        exact law_J2826 hL C0 hlt D cI cJ cD sa q hq hqA hE hXe N k (by omega) Tn Ta Fn Fa Ba Rn Ra Rb Rd Ua Wg2771 Wz2771 Ww2771 Wr2771 Mh2795 Mn Mm Mt Mk Ms Me Mp Mw2795 Ml My Oa2771 Od hf _ _ hP hS _ (lv_sub hl [] rfl)
  · have hf := (if_neg c_7).symm.trans hf
    exact law_J2809 hL C0 hlt D cI cJ cD sa q hq hqA hE hXe N k (by omega) Tn Ta Fn Fa Ba Rn Ra Rb Rd Ua Wg2771 Wz2771 Ww2771 Wr2771 Mh2795 Mn Mm Mt Mk Ms Me Mp Mw2795 Ml My Oa2771 Od hf _ _ hP hS _ (lv_sub hl [] rfl)
set_option maxHeartbeats 4000000 in
set_option maxRecDepth 100000 in
theorem law_B28 {p : Program} {l : Launch} {e : Env} {s : State} {m : MethodId} {below : List Frame} {meth : Method} {c : Code} {b L : Nat} {xs : Nat → Int32} (hL : L ≤ 2560) (C0 : lw_At p s m meth c b L xs) (hlt : l.stackTraces = false) (D : va_G) (cI cJ cD : ClassId) (sa : Nat → Nat) (q : Nat → Nat) (hq : gInj q) (hqA : ∀ k, k < 25 → s.heap.size ≤ q k) (hE : gEv D cI cJ cD s) (hXe : gXe sa (fun a => s.heap.size ≤ a) s s.heap) (N : Nat) (k : Nat) (hk : 5 * k ≤ L) (k28 : Int32 → (Nat → Int32) → Int32 → (Nat → Int32) → (Nat → Int32) → Int32 → (Nat → Int32) → (Nat → Int32) → (Nat → Int32) → (Nat → Int32) → Int32 → Int32 → Int32 → Int32 → Int32 → Int32 → Int32 → (Nat → Int32) → (Nat → Int32) → (Nat → Int32) → (Nat → Int32) → (Nat → Int32) → (Nat → Int32) → (Nat → Int32) → (Nat → Int64) → (Nat → Int64) → (Nat → UInt64) → Int32 → Option Int32) (ih0 : 5 * k + 5 ≤ L → lawIH p l e s m below meth c b D cI cJ cD q k k28) (Tn : Int32) (Ta : (Nat → Int32)) (Fn : Int32) (Fa : (Nat → Int32)) (Ba : (Nat → Int32)) (Rn : Int32) (Ra : (Nat → Int32)) (Rb : (Nat → Int32)) (Rd : (Nat → Int32)) (Ua : (Nat → Int32)) (Wg : Int32) (Wz : Int32) (Ww : Int32) (Wr : Int32) (Mh : Int32) (Mn : Int32) (Mm : Int32) (Mt : (Nat → Int32)) (Mk : (Nat → Int32)) (Ms : (Nat → Int32)) (Me : (Nat → Int32)) (Mp : (Nat → Int32)) (Mw : (Nat → Int32)) (Ml : (Nat → Int32)) (My : (Nat → Int64)) (Oa : (Nat → Int64)) (Od : (Nat → UInt64)) (x5 : Int32) (hx5 : x5 = nI (5 * k)) (hf : fL_law_B28 N L xs k28 Tn Ta Fn Fa Ba Rn Ra Rb Rd Ua Wg Wz Ww Wr Mh Mn Mm Mt Mk Ms Me Mp Mw Ml My Oa Od x5 = some 1) : ∀ (H : Heap) (locs : List Loc), va_P D vwCl (w_0_1_2_3_4_5_6_7_8_9_10_11_12_13_14_15_16_17_18_19_20_21_22_23_24 q cI cJ cD Tn Ta Fn Fa Ba Rn Ra Rb Rd Ua Wg Wz Ww Wr Mh Mn Mm Mt Mk Ms Me Mp Mw Ml My Oa Od) H → va_S (fun a : Nat => s.heap.size ≤ a) s.heap H locs → ∀ ls : Array Slot, lv_has ls 10 [(0, .ref b), (1, .ref (q 0)), (2, .ref (q 14)), (3, .ref (q 23)), (4, .ref (q 24)), (5, .int x5)] → W p l e room_1 s m #[Value.ref b] below meth c H locs (25 + k) (1025 + 6 * k) (lw_Z below #[Value.ref b] s) (F0 m 28 ls []) := by
  obtain ⟨hx, hb, hr, hml, hown, hts0, hX, hbl, hlocks, hgv⟩ := id C0
  have hown : s.vm.findClass RL = some m.cls := hown
  have hts : ∀ w ∈ wsL_law, w.before #[Value.ref b] s = true := fun w h => hts0 w (wsL_law_in w h)
  have hbA : ¬ (fun a : Nat => s.heap.size ≤ a) b := Nat.not_le.mpr hbl
  intro H locs hP hS ls hl
  unfold fL_law_B28 at hf
  refine lv_iload hx hb dL_law_28 (lv_at hl 5 rfl) ?_
  refine lv_aload_n hx hb dL_law_30 rfl (lv_at hl 0 rfl) ?_
  refine va_slen hx hb hX hbl hbA hS dL_law_31 ?_
  refine lv_iconst (v := (5 : Int32)) hx hb dL_law_32 (by decide) ?_
  refine lv_isub hx hb dL_law_33 ?_
  refine lv_icmp_gt (tgt := 2837) hx hb dL_law_34 (by decide) (fun c_1 => ?_) (fun c_1 => ?_)
  · have hf := (if_pos c_1).symm.trans hf
    exact law_J2837 hL C0 hlt D cI cJ cD sa q hq hqA hE hXe N k (by omega) Tn Ta Fn Fa Ba Rn Ra Rb Rd Ua Wg Wz Ww Wr Mh Mn Mm Mt Mk Ms Me Mp Mw Ml My Oa Od hf _ _ hP hS _ (lv_sub hl [] rfl)
  have hf := (if_neg c_1).symm.trans hf
  have h5 : 5 * k + 5 ≤ L := law_h5 hL hk (by rw [← hx5]; exact c_1)
  have ih := ih0 h5
  have hcm : 25 + k + 1 ≤ 1058 := by omega
  have hsm : 1025 + 6 * k + 6 ≤ 9271 := by omega
  have hc0 : 25 + k ≤ 1058 := by omega
  have hs0 : 1025 + 6 * k ≤ 9271 := by omega
  refine lv_aload_n hx hb dL_law_37 rfl (lv_at hl 0 rfl) ?_
  refine lv_iload hx hb dL_law_38 (lv_at hl 5 rfl) ?_
  obtain ⟨g_1, hf⟩ := gd_some hf
  refine va_sld hx hb hX hbl hbA hS (inb_in g_1) dL_law_40 ?_
  refine lv_bipush (v := (63 : Int32)) hx hb dL_law_41 (by decide) ?_
  refine lv_iand hx hb dL_law_43 ?_
  by_cases ho : (((xs (x5).toNatClampNeg) &&& (63 : Int32))).toInt < 0 ∨ 43 < (((xs (x5).toNatClampNeg) &&& (63 : Int32))).toInt
  · have hf := (if_pos ho).symm.trans hf
    refine lv_tableOut (tgt := 2831) hx hb dL_law_44 ho (by decide) ?_
    refine W.widen (k := 25 + k + 1) (n := 1025 + 6 * k + 6) (by omega) (by omega) ?_
    exact law_J2831 hL C0 hlt D cI cJ cD sa q hq hqA hE hXe N k h5 k28 ih Tn Ta Fn Fa Ba Rn Ra Rb Rd Ua Wg Wz Ww Wr Mh Mn Mm Mt Mk Ms Me Mp Mw Ml My Oa Od x5 hx5 hf _ _ hP hS _ (lv_sub hl [0, 1, 2, 3, 4, 5] rfl)
  have hf := (if_neg ho).symm.trans hf
  by_cases hz0 : (((xs (x5).toNatClampNeg) &&& (63 : Int32))).toInt = 0
  · have hf := (if_pos hz0).symm.trans hf
    refine lv_tableIn (tgt := 236) (off := 192) hx hb dL_law_44 (by omega) (by omega) (by rw [hz0]; rfl) (by decide) ?_
    exact law_J236 hL C0 hlt D cI cJ cD sa q hq hqA hE hXe N k h5 k28 ih Tn Ta Fn Fa Ba Rn Ra Rb Rd Ua Wg Wz Ww Wr Mh Mn Mm Mt Mk Ms Me Mp Mw Ml My Oa Od x5 hx5 hf _ _ hP hS _ (lv_sub hl [0, 1, 2, 3, 4, 5] rfl)
  have hf := (if_neg hz0).symm.trans hf
  by_cases hz1 : (((xs (x5).toNatClampNeg) &&& (63 : Int32))).toInt = 1
  · have hf := (if_pos hz1).symm.trans hf
    refine lv_tableIn (tgt := 292) (off := 248) hx hb dL_law_44 (by omega) (by omega) (by rw [hz1]; rfl) (by decide) ?_
    exact law_J292 hL C0 hlt D cI cJ cD sa q hq hqA hE hXe N k h5 k28 ih Tn Ta Fn Fa Ba Rn Ra Rb Rd Ua Wg Wz Ww Wr Mh Mn Mm Mt Mk Ms Me Mp Mw Ml My Oa Od x5 hx5 hf _ _ hP hS _ (lv_sub hl [0, 1, 2, 3, 4, 5] rfl)
  have hf := (if_neg hz1).symm.trans hf
  by_cases hz2 : (((xs (x5).toNatClampNeg) &&& (63 : Int32))).toInt = 2
  · have hf := (if_pos hz2).symm.trans hf
    refine lv_tableIn (tgt := 360) (off := 316) hx hb dL_law_44 (by omega) (by omega) (by rw [hz2]; rfl) (by decide) ?_
    exact law_J360 hL C0 hlt D cI cJ cD sa q hq hqA hE hXe N k h5 k28 ih Tn Ta Fn Fa Ba Rn Ra Rb Rd Ua Wg Wz Ww Wr Mh Mn Mm Mt Mk Ms Me Mp Mw Ml My Oa Od x5 hx5 hf _ _ hP hS _ (lv_sub hl [0, 1, 2, 3, 4, 5] rfl)
  have hf := (if_neg hz2).symm.trans hf
  by_cases hz3 : (((xs (x5).toNatClampNeg) &&& (63 : Int32))).toInt = 3
  · have hf := (if_pos hz3).symm.trans hf
    refine lv_tableIn (tgt := 428) (off := 384) hx hb dL_law_44 (by omega) (by omega) (by rw [hz3]; rfl) (by decide) ?_
    exact law_J428 hL C0 hlt D cI cJ cD sa q hq hqA hE hXe N k h5 k28 ih Tn Ta Fn Fa Ba Rn Ra Rb Rd Ua Wg Wz Ww Wr Mh Mn Mm Mt Mk Ms Me Mp Mw Ml My Oa Od x5 hx5 hf _ _ hP hS _ (lv_sub hl [0, 1, 2, 3, 4, 5] rfl)
  have hf := (if_neg hz3).symm.trans hf
  by_cases hz4 : (((xs (x5).toNatClampNeg) &&& (63 : Int32))).toInt = 4
  · have hf := (if_pos hz4).symm.trans hf
    refine lv_tableIn (tgt := 484) (off := 440) hx hb dL_law_44 (by omega) (by omega) (by rw [hz4]; rfl) (by decide) ?_
    exact law_J484 hL C0 hlt D cI cJ cD sa q hq hqA hE hXe N k h5 k28 ih Tn Ta Fn Fa Ba Rn Ra Rb Rd Ua Wg Wz Ww Wr Mh Mn Mm Mt Mk Ms Me Mp Mw Ml My Oa Od x5 hx5 hf _ _ hP hS _ (lv_sub hl [0, 1, 2, 3, 4, 5] rfl)
  have hf := (if_neg hz4).symm.trans hf
  by_cases hz5 : (((xs (x5).toNatClampNeg) &&& (63 : Int32))).toInt = 5
  · have hf := (if_pos hz5).symm.trans hf
    refine lv_tableIn (tgt := 497) (off := 453) hx hb dL_law_44 (by omega) (by omega) (by rw [hz5]; rfl) (by decide) ?_
    exact law_J497 hL C0 hlt D cI cJ cD sa q hq hqA hE hXe N k h5 k28 ih Tn Ta Fn Fa Ba Rn Ra Rb Rd Ua Wg Wz Ww Wr Mh Mn Mm Mt Mk Ms Me Mp Mw Ml My Oa Od x5 hx5 hf _ _ hP hS _ (lv_sub hl [0, 1, 2, 3, 4, 5] rfl)
  have hf := (if_neg hz5).symm.trans hf
  by_cases hz6 : (((xs (x5).toNatClampNeg) &&& (63 : Int32))).toInt = 6
  · have hf := (if_pos hz6).symm.trans hf
    refine lv_tableIn (tgt := 510) (off := 466) hx hb dL_law_44 (by omega) (by omega) (by rw [hz6]; rfl) (by decide) ?_
    exact law_J510 hL C0 hlt D cI cJ cD sa q hq hqA hE hXe N k h5 k28 ih Tn Ta Fn Fa Ba Rn Ra Rb Rd Ua Wg Wz Ww Wr Mh Mn Mm Mt Mk Ms Me Mp Mw Ml My Oa Od x5 hx5 hf _ _ hP hS _ (lv_sub hl [0, 1, 2, 3, 4, 5] rfl)
  have hf := (if_neg hz6).symm.trans hf
  by_cases hz7 : (((xs (x5).toNatClampNeg) &&& (63 : Int32))).toInt = 7
  · have hf := (if_pos hz7).symm.trans hf
    refine lv_tableIn (tgt := 566) (off := 522) hx hb dL_law_44 (by omega) (by omega) (by rw [hz7]; rfl) (by decide) ?_
    exact law_J566 hL C0 hlt D cI cJ cD sa q hq hqA hE hXe N k h5 k28 ih Tn Ta Fn Fa Ba Rn Ra Rb Rd Ua Wg Wz Ww Wr Mh Mn Mm Mt Mk Ms Me Mp Mw Ml My Oa Od x5 hx5 hf _ _ hP hS _ (lv_sub hl [0, 1, 2, 3, 4, 5] rfl)
  have hf := (if_neg hz7).symm.trans hf
  by_cases hz8 : (((xs (x5).toNatClampNeg) &&& (63 : Int32))).toInt = 8
  · have hf := (if_pos hz8).symm.trans hf
    refine lv_tableIn (tgt := 634) (off := 590) hx hb dL_law_44 (by omega) (by omega) (by rw [hz8]; rfl) (by decide) ?_
    exact law_J634 hL C0 hlt D cI cJ cD sa q hq hqA hE hXe N k h5 k28 ih Tn Ta Fn Fa Ba Rn Ra Rb Rd Ua Wg Wz Ww Wr Mh Mn Mm Mt Mk Ms Me Mp Mw Ml My Oa Od x5 hx5 hf _ _ hP hS _ (lv_sub hl [0, 1, 2, 3, 4, 5] rfl)
  have hf := (if_neg hz8).symm.trans hf
  by_cases hz9 : (((xs (x5).toNatClampNeg) &&& (63 : Int32))).toInt = 9
  · have hf := (if_pos hz9).symm.trans hf
    refine lv_tableIn (tgt := 702) (off := 658) hx hb dL_law_44 (by omega) (by omega) (by rw [hz9]; rfl) (by decide) ?_
    exact law_J702 hL C0 hlt D cI cJ cD sa q hq hqA hE hXe N k h5 k28 ih Tn Ta Fn Fa Ba Rn Ra Rb Rd Ua Wg Wz Ww Wr Mh Mn Mm Mt Mk Ms Me Mp Mw Ml My Oa Od x5 hx5 hf _ _ hP hS _ (lv_sub hl [0, 1, 2, 3, 4, 5] rfl)
  have hf := (if_neg hz9).symm.trans hf
  by_cases hz10 : (((xs (x5).toNatClampNeg) &&& (63 : Int32))).toInt = 10
  · have hf := (if_pos hz10).symm.trans hf
    refine lv_tableIn (tgt := 782) (off := 738) hx hb dL_law_44 (by omega) (by omega) (by rw [hz10]; rfl) (by decide) ?_
    exact law_J782 hL C0 hlt D cI cJ cD sa q hq hqA hE hXe N k h5 k28 ih Tn Ta Fn Fa Ba Rn Ra Rb Rd Ua Wg Wz Ww Wr Mh Mn Mm Mt Mk Ms Me Mp Mw Ml My Oa Od x5 hx5 hf _ _ hP hS _ (lv_sub hl [0, 1, 2, 3, 4, 5] rfl)
  have hf := (if_neg hz10).symm.trans hf
  by_cases hz11 : (((xs (x5).toNatClampNeg) &&& (63 : Int32))).toInt = 11
  · have hf := (if_pos hz11).symm.trans hf
    refine lv_tableIn (tgt := 795) (off := 751) hx hb dL_law_44 (by omega) (by omega) (by rw [hz11]; rfl) (by decide) ?_
    exact law_J795 hL C0 hlt D cI cJ cD sa q hq hqA hE hXe N k h5 k28 ih Tn Ta Fn Fa Ba Rn Ra Rb Rd Ua Wg Wz Ww Wr Mh Mn Mm Mt Mk Ms Me Mp Mw Ml My Oa Od x5 hx5 hf _ _ hP hS _ (lv_sub hl [0, 1, 2, 3, 4, 5] rfl)
  have hf := (if_neg hz11).symm.trans hf
  by_cases hz12 : (((xs (x5).toNatClampNeg) &&& (63 : Int32))).toInt = 12
  · have hf := (if_pos hz12).symm.trans hf
    refine lv_tableIn (tgt := 851) (off := 807) hx hb dL_law_44 (by omega) (by omega) (by rw [hz12]; rfl) (by decide) ?_
    exact law_J851 hL C0 hlt D cI cJ cD sa q hq hqA hE hXe N k h5 k28 ih Tn Ta Fn Fa Ba Rn Ra Rb Rd Ua Wg Wz Ww Wr Mh Mn Mm Mt Mk Ms Me Mp Mw Ml My Oa Od x5 hx5 hf _ _ hP hS _ (lv_sub hl [0, 1, 2, 3, 4, 5] rfl)
  have hf := (if_neg hz12).symm.trans hf
  by_cases hz13 : (((xs (x5).toNatClampNeg) &&& (63 : Int32))).toInt = 13
  · have hf := (if_pos hz13).symm.trans hf
    refine lv_tableIn (tgt := 943) (off := 899) hx hb dL_law_44 (by omega) (by omega) (by rw [hz13]; rfl) (by decide) ?_
    exact law_J943 hL C0 hlt D cI cJ cD sa q hq hqA hE hXe N k h5 k28 ih Tn Ta Fn Fa Ba Rn Ra Rb Rd Ua Wg Wz Ww Wr Mh Mn Mm Mt Mk Ms Me Mp Mw Ml My Oa Od x5 hx5 hf _ _ hP hS _ (lv_sub hl [0, 1, 2, 3, 4, 5] rfl)
  have hf := (if_neg hz13).symm.trans hf
  by_cases hz14 : (((xs (x5).toNatClampNeg) &&& (63 : Int32))).toInt = 14
  · have hf := (if_pos hz14).symm.trans hf
    refine lv_tableIn (tgt := 1011) (off := 967) hx hb dL_law_44 (by omega) (by omega) (by rw [hz14]; rfl) (by decide) ?_
    exact law_J1011 hL C0 hlt D cI cJ cD sa q hq hqA hE hXe N k h5 k28 ih Tn Ta Fn Fa Ba Rn Ra Rb Rd Ua Wg Wz Ww Wr Mh Mn Mm Mt Mk Ms Me Mp Mw Ml My Oa Od x5 hx5 hf _ _ hP hS _ (lv_sub hl [0, 1, 2, 3, 4, 5] rfl)
  have hf := (if_neg hz14).symm.trans hf
  by_cases hz15 : (((xs (x5).toNatClampNeg) &&& (63 : Int32))).toInt = 15
  · have hf := (if_pos hz15).symm.trans hf
    refine lv_tableIn (tgt := 1086) (off := 1042) hx hb dL_law_44 (by omega) (by omega) (by rw [hz15]; rfl) (by decide) ?_
    exact law_J1086 hL C0 hlt D cI cJ cD sa q hq hqA hE hXe N k h5 k28 ih Tn Ta Fn Fa Ba Rn Ra Rb Rd Ua Wg Wz Ww Wr Mh Mn Mm Mt Mk Ms Me Mp Mw Ml My Oa Od x5 hx5 hf _ _ hP hS _ (lv_sub hl [0, 1, 2, 3, 4, 5] rfl)
  have hf := (if_neg hz15).symm.trans hf
  by_cases hz16 : (((xs (x5).toNatClampNeg) &&& (63 : Int32))).toInt = 16
  · have hf := (if_pos hz16).symm.trans hf
    refine lv_tableIn (tgt := 1099) (off := 1055) hx hb dL_law_44 (by omega) (by omega) (by rw [hz16]; rfl) (by decide) ?_
    exact law_J1099 hL C0 hlt D cI cJ cD sa q hq hqA hE hXe N k h5 k28 ih Tn Ta Fn Fa Ba Rn Ra Rb Rd Ua Wg Wz Ww Wr Mh Mn Mm Mt Mk Ms Me Mp Mw Ml My Oa Od x5 hx5 hf _ _ hP hS _ (lv_sub hl [0, 1, 2, 3, 4, 5] rfl)
  have hf := (if_neg hz16).symm.trans hf
  by_cases hz17 : (((xs (x5).toNatClampNeg) &&& (63 : Int32))).toInt = 17
  · have hf := (if_pos hz17).symm.trans hf
    refine lv_tableIn (tgt := 1155) (off := 1111) hx hb dL_law_44 (by omega) (by omega) (by rw [hz17]; rfl) (by decide) ?_
    exact law_J1155 hL C0 hlt D cI cJ cD sa q hq hqA hE hXe N k h5 k28 ih Tn Ta Fn Fa Ba Rn Ra Rb Rd Ua Wg Wz Ww Wr Mh Mn Mm Mt Mk Ms Me Mp Mw Ml My Oa Od x5 hx5 hf _ _ hP hS _ (lv_sub hl [0, 1, 2, 3, 4, 5] rfl)
  have hf := (if_neg hz17).symm.trans hf
  by_cases hz18 : (((xs (x5).toNatClampNeg) &&& (63 : Int32))).toInt = 18
  · have hf := (if_pos hz18).symm.trans hf
    refine lv_tableIn (tgt := 1211) (off := 1167) hx hb dL_law_44 (by omega) (by omega) (by rw [hz18]; rfl) (by decide) ?_
    exact law_J1211 hL C0 hlt D cI cJ cD sa q hq hqA hE hXe N k h5 k28 ih Tn Ta Fn Fa Ba Rn Ra Rb Rd Ua Wg Wz Ww Wr Mh Mn Mm Mt Mk Ms Me Mp Mw Ml My Oa Od x5 hx5 hf _ _ hP hS _ (lv_sub hl [0, 1, 2, 3, 4, 5] rfl)
  have hf := (if_neg hz18).symm.trans hf
  by_cases hz19 : (((xs (x5).toNatClampNeg) &&& (63 : Int32))).toInt = 19
  · have hf := (if_pos hz19).symm.trans hf
    refine lv_tableIn (tgt := 1267) (off := 1223) hx hb dL_law_44 (by omega) (by omega) (by rw [hz19]; rfl) (by decide) ?_
    exact law_J1267 hL C0 hlt D cI cJ cD sa q hq hqA hE hXe N k h5 k28 ih Tn Ta Fn Fa Ba Rn Ra Rb Rd Ua Wg Wz Ww Wr Mh Mn Mm Mt Mk Ms Me Mp Mw Ml My Oa Od x5 hx5 hf _ _ hP hS _ (lv_sub hl [0, 1, 2, 3, 4, 5] rfl)
  have hf := (if_neg hz19).symm.trans hf
  by_cases hz20 : (((xs (x5).toNatClampNeg) &&& (63 : Int32))).toInt = 20
  · have hf := (if_pos hz20).symm.trans hf
    refine lv_tableIn (tgt := 1351) (off := 1307) hx hb dL_law_44 (by omega) (by omega) (by rw [hz20]; rfl) (by decide) ?_
    exact law_J1351 hL C0 hlt D cI cJ cD sa q hq hqA hE hXe N k h5 k28 ih Tn Ta Fn Fa Ba Rn Ra Rb Rd Ua Wg Wz Ww Wr Mh Mn Mm Mt Mk Ms Me Mp Mw Ml My Oa Od x5 hx5 hf _ _ hP hS _ (lv_sub hl [0, 1, 2, 3, 4, 5] rfl)
  have hf := (if_neg hz20).symm.trans hf
  by_cases hz21 : (((xs (x5).toNatClampNeg) &&& (63 : Int32))).toInt = 21
  · have hf := (if_pos hz21).symm.trans hf
    refine lv_tableIn (tgt := 1419) (off := 1375) hx hb dL_law_44 (by omega) (by omega) (by rw [hz21]; rfl) (by decide) ?_
    exact law_J1419 hL C0 hlt D cI cJ cD sa q hq hqA hE hXe N k h5 k28 ih Tn Ta Fn Fa Ba Rn Ra Rb Rd Ua Wg Wz Ww Wr Mh Mn Mm Mt Mk Ms Me Mp Mw Ml My Oa Od x5 hx5 hf _ _ hP hS _ (lv_sub hl [0, 1, 2, 3, 4, 5] rfl)
  have hf := (if_neg hz21).symm.trans hf
  by_cases hz22 : (((xs (x5).toNatClampNeg) &&& (63 : Int32))).toInt = 22
  · have hf := (if_pos hz22).symm.trans hf
    refine lv_tableIn (tgt := 1487) (off := 1443) hx hb dL_law_44 (by omega) (by omega) (by rw [hz22]; rfl) (by decide) ?_
    exact law_J1487 hL C0 hlt D cI cJ cD sa q hq hqA hE hXe N k h5 k28 ih Tn Ta Fn Fa Ba Rn Ra Rb Rd Ua Wg Wz Ww Wr Mh Mn Mm Mt Mk Ms Me Mp Mw Ml My Oa Od x5 hx5 hf _ _ hP hS _ (lv_sub hl [0, 1, 2, 3, 4, 5] rfl)
  have hf := (if_neg hz22).symm.trans hf
  by_cases hz23 : (((xs (x5).toNatClampNeg) &&& (63 : Int32))).toInt = 23
  · have hf := (if_pos hz23).symm.trans hf
    refine lv_tableIn (tgt := 1555) (off := 1511) hx hb dL_law_44 (by omega) (by omega) (by rw [hz23]; rfl) (by decide) ?_
    exact law_J1555 hL C0 hlt D cI cJ cD sa q hq hqA hE hXe N k h5 k28 ih Tn Ta Fn Fa Ba Rn Ra Rb Rd Ua Wg Wz Ww Wr Mh Mn Mm Mt Mk Ms Me Mp Mw Ml My Oa Od x5 hx5 hf _ _ hP hS _ (lv_sub hl [0, 1, 2, 3, 4, 5] rfl)
  have hf := (if_neg hz23).symm.trans hf
  by_cases hz24 : (((xs (x5).toNatClampNeg) &&& (63 : Int32))).toInt = 24
  · have hf := (if_pos hz24).symm.trans hf
    refine lv_tableIn (tgt := 1623) (off := 1579) hx hb dL_law_44 (by omega) (by omega) (by rw [hz24]; rfl) (by decide) ?_
    exact law_J1623 hL C0 hlt D cI cJ cD sa q hq hqA hE hXe N k h5 k28 ih Tn Ta Fn Fa Ba Rn Ra Rb Rd Ua Wg Wz Ww Wr Mh Mn Mm Mt Mk Ms Me Mp Mw Ml My Oa Od x5 hx5 hf _ _ hP hS _ (lv_sub hl [0, 1, 2, 3, 4, 5] rfl)
  have hf := (if_neg hz24).symm.trans hf
  by_cases hz25 : (((xs (x5).toNatClampNeg) &&& (63 : Int32))).toInt = 25
  · have hf := (if_pos hz25).symm.trans hf
    refine lv_tableIn (tgt := 1698) (off := 1654) hx hb dL_law_44 (by omega) (by omega) (by rw [hz25]; rfl) (by decide) ?_
    exact law_J1698 hL C0 hlt D cI cJ cD sa q hq hqA hE hXe N k h5 k28 ih Tn Ta Fn Fa Ba Rn Ra Rb Rd Ua Wg Wz Ww Wr Mh Mn Mm Mt Mk Ms Me Mp Mw Ml My Oa Od x5 hx5 hf _ _ hP hS _ (lv_sub hl [0, 1, 2, 3, 4, 5] rfl)
  have hf := (if_neg hz25).symm.trans hf
  by_cases hz26 : (((xs (x5).toNatClampNeg) &&& (63 : Int32))).toInt = 26
  · have hf := (if_pos hz26).symm.trans hf
    refine lv_tableIn (tgt := 1766) (off := 1722) hx hb dL_law_44 (by omega) (by omega) (by rw [hz26]; rfl) (by decide) ?_
    exact law_J1766 hL C0 hlt D cI cJ cD sa q hq hqA hE hXe N k h5 k28 ih Tn Ta Fn Fa Ba Rn Ra Rb Rd Ua Wg Wz Ww Wr Mh Mn Mm Mt Mk Ms Me Mp Mw Ml My Oa Od x5 hx5 hf _ _ hP hS _ (lv_sub hl [0, 1, 2, 3, 4, 5] rfl)
  have hf := (if_neg hz26).symm.trans hf
  by_cases hz27 : (((xs (x5).toNatClampNeg) &&& (63 : Int32))).toInt = 27
  · have hf := (if_pos hz27).symm.trans hf
    refine lv_tableIn (tgt := 1834) (off := 1790) hx hb dL_law_44 (by omega) (by omega) (by rw [hz27]; rfl) (by decide) ?_
    exact law_J1834 hL C0 hlt D cI cJ cD sa q hq hqA hE hXe N k h5 k28 ih Tn Ta Fn Fa Ba Rn Ra Rb Rd Ua Wg Wz Ww Wr Mh Mn Mm Mt Mk Ms Me Mp Mw Ml My Oa Od x5 hx5 hf _ _ hP hS _ (lv_sub hl [0, 1, 2, 3, 4, 5] rfl)
  have hf := (if_neg hz27).symm.trans hf
  by_cases hz28 : (((xs (x5).toNatClampNeg) &&& (63 : Int32))).toInt = 28
  · have hf := (if_pos hz28).symm.trans hf
    refine lv_tableIn (tgt := 1921) (off := 1877) hx hb dL_law_44 (by omega) (by omega) (by rw [hz28]; rfl) (by decide) ?_
    exact law_J1921 hL C0 hlt D cI cJ cD sa q hq hqA hE hXe N k h5 k28 ih Tn Ta Fn Fa Ba Rn Ra Rb Rd Ua Wg Wz Ww Wr Mh Mn Mm Mt Mk Ms Me Mp Mw Ml My Oa Od x5 hx5 hf _ _ hP hS _ (lv_sub hl [0, 1, 2, 3, 4, 5] rfl)
  have hf := (if_neg hz28).symm.trans hf
  by_cases hz29 : (((xs (x5).toNatClampNeg) &&& (63 : Int32))).toInt = 29
  · have hf := (if_pos hz29).symm.trans hf
    refine lv_tableIn (tgt := 1989) (off := 1945) hx hb dL_law_44 (by omega) (by omega) (by rw [hz29]; rfl) (by decide) ?_
    exact law_J1989 hL C0 hlt D cI cJ cD sa q hq hqA hE hXe N k h5 k28 ih Tn Ta Fn Fa Ba Rn Ra Rb Rd Ua Wg Wz Ww Wr Mh Mn Mm Mt Mk Ms Me Mp Mw Ml My Oa Od x5 hx5 hf _ _ hP hS _ (lv_sub hl [0, 1, 2, 3, 4, 5] rfl)
  have hf := (if_neg hz29).symm.trans hf
  by_cases hz30 : (((xs (x5).toNatClampNeg) &&& (63 : Int32))).toInt = 30
  · have hf := (if_pos hz30).symm.trans hf
    refine lv_tableIn (tgt := 2057) (off := 2013) hx hb dL_law_44 (by omega) (by omega) (by rw [hz30]; rfl) (by decide) ?_
    exact law_J2057 hL C0 hlt D cI cJ cD sa q hq hqA hE hXe N k h5 k28 ih Tn Ta Fn Fa Ba Rn Ra Rb Rd Ua Wg Wz Ww Wr Mh Mn Mm Mt Mk Ms Me Mp Mw Ml My Oa Od x5 hx5 hf _ _ hP hS _ (lv_sub hl [0, 1, 2, 3, 4, 5] rfl)
  have hf := (if_neg hz30).symm.trans hf
  by_cases hz31 : (((xs (x5).toNatClampNeg) &&& (63 : Int32))).toInt = 31
  · have hf := (if_pos hz31).symm.trans hf
    refine lv_tableIn (tgt := 2125) (off := 2081) hx hb dL_law_44 (by omega) (by omega) (by rw [hz31]; rfl) (by decide) ?_
    exact law_J2125 hL C0 hlt D cI cJ cD sa q hq hqA hE hXe N k h5 k28 ih Tn Ta Fn Fa Ba Rn Ra Rb Rd Ua Wg Wz Ww Wr Mh Mn Mm Mt Mk Ms Me Mp Mw Ml My Oa Od x5 hx5 hf _ _ hP hS _ (lv_sub hl [0, 1, 2, 3, 4, 5] rfl)
  have hf := (if_neg hz31).symm.trans hf
  by_cases hz32 : (((xs (x5).toNatClampNeg) &&& (63 : Int32))).toInt = 32
  · have hf := (if_pos hz32).symm.trans hf
    refine lv_tableIn (tgt := 2214) (off := 2170) hx hb dL_law_44 (by omega) (by omega) (by rw [hz32]; rfl) (by decide) ?_
    exact law_J2214 hL C0 hlt D cI cJ cD sa q hq hqA hE hXe N k h5 k28 ih Tn Ta Fn Fa Ba Rn Ra Rb Rd Ua Wg Wz Ww Wr Mh Mn Mm Mt Mk Ms Me Mp Mw Ml My Oa Od x5 hx5 hf _ _ hP hS _ (lv_sub hl [0, 1, 2, 3, 4, 5] rfl)
  have hf := (if_neg hz32).symm.trans hf
  by_cases hz33 : (((xs (x5).toNatClampNeg) &&& (63 : Int32))).toInt = 33
  · have hf := (if_pos hz33).symm.trans hf
    refine lv_tableIn (tgt := 2227) (off := 2183) hx hb dL_law_44 (by omega) (by omega) (by rw [hz33]; rfl) (by decide) ?_
    exact law_J2227 hL C0 hlt D cI cJ cD sa q hq hqA hE hXe N k h5 k28 ih Tn Ta Fn Fa Ba Rn Ra Rb Rd Ua Wg Wz Ww Wr Mh Mn Mm Mt Mk Ms Me Mp Mw Ml My Oa Od x5 hx5 hf _ _ hP hS _ (lv_sub hl [0, 1, 2, 3, 4, 5] rfl)
  have hf := (if_neg hz33).symm.trans hf
  by_cases hz34 : (((xs (x5).toNatClampNeg) &&& (63 : Int32))).toInt = 34
  · have hf := (if_pos hz34).symm.trans hf
    refine lv_tableIn (tgt := 2283) (off := 2239) hx hb dL_law_44 (by omega) (by omega) (by rw [hz34]; rfl) (by decide) ?_
    exact law_J2283 hL C0 hlt D cI cJ cD sa q hq hqA hE hXe N k h5 k28 ih Tn Ta Fn Fa Ba Rn Ra Rb Rd Ua Wg Wz Ww Wr Mh Mn Mm Mt Mk Ms Me Mp Mw Ml My Oa Od x5 hx5 hf _ _ hP hS _ (lv_sub hl [0, 1, 2, 3, 4, 5] rfl)
  have hf := (if_neg hz34).symm.trans hf
  by_cases hz35 : (((xs (x5).toNatClampNeg) &&& (63 : Int32))).toInt = 35
  · have hf := (if_pos hz35).symm.trans hf
    refine lv_tableIn (tgt := 2339) (off := 2295) hx hb dL_law_44 (by omega) (by omega) (by rw [hz35]; rfl) (by decide) ?_
    exact law_J2339 hL C0 hlt D cI cJ cD sa q hq hqA hE hXe N k h5 k28 ih Tn Ta Fn Fa Ba Rn Ra Rb Rd Ua Wg Wz Ww Wr Mh Mn Mm Mt Mk Ms Me Mp Mw Ml My Oa Od x5 hx5 hf _ _ hP hS _ (lv_sub hl [0, 1, 2, 3, 4, 5] rfl)
  have hf := (if_neg hz35).symm.trans hf
  by_cases hz36 : (((xs (x5).toNatClampNeg) &&& (63 : Int32))).toInt = 36
  · have hf := (if_pos hz36).symm.trans hf
    refine lv_tableIn (tgt := 2395) (off := 2351) hx hb dL_law_44 (by omega) (by omega) (by rw [hz36]; rfl) (by decide) ?_
    exact law_J2395 hL C0 hlt D cI cJ cD sa q hq hqA hE hXe N k h5 k28 ih Tn Ta Fn Fa Ba Rn Ra Rb Rd Ua Wg Wz Ww Wr Mh Mn Mm Mt Mk Ms Me Mp Mw Ml My Oa Od x5 hx5 hf _ _ hP hS _ (lv_sub hl [0, 1, 2, 3, 4, 5] rfl)
  have hf := (if_neg hz36).symm.trans hf
  by_cases hz37 : (((xs (x5).toNatClampNeg) &&& (63 : Int32))).toInt = 37
  · have hf := (if_pos hz37).symm.trans hf
    refine lv_tableIn (tgt := 2451) (off := 2407) hx hb dL_law_44 (by omega) (by omega) (by rw [hz37]; rfl) (by decide) ?_
    exact law_J2451 hL C0 hlt D cI cJ cD sa q hq hqA hE hXe N k h5 k28 ih Tn Ta Fn Fa Ba Rn Ra Rb Rd Ua Wg Wz Ww Wr Mh Mn Mm Mt Mk Ms Me Mp Mw Ml My Oa Od x5 hx5 hf _ _ hP hS _ (lv_sub hl [0, 1, 2, 3, 4, 5] rfl)
  have hf := (if_neg hz37).symm.trans hf
  by_cases hz38 : (((xs (x5).toNatClampNeg) &&& (63 : Int32))).toInt = 38
  · have hf := (if_pos hz38).symm.trans hf
    refine lv_tableIn (tgt := 2492) (off := 2448) hx hb dL_law_44 (by omega) (by omega) (by rw [hz38]; rfl) (by decide) ?_
    exact law_J2492 hL C0 hlt D cI cJ cD sa q hq hqA hE hXe N k h5 k28 ih Tn Ta Fn Fa Ba Rn Ra Rb Rd Ua Wg Wz Ww Wr Mh Mn Mm Mt Mk Ms Me Mp Mw Ml My Oa Od x5 hx5 hf _ _ hP hS _ (lv_sub hl [0, 1, 2, 3, 4, 5] rfl)
  have hf := (if_neg hz38).symm.trans hf
  by_cases hz39 : (((xs (x5).toNatClampNeg) &&& (63 : Int32))).toInt = 39
  · have hf := (if_pos hz39).symm.trans hf
    refine lv_tableIn (tgt := 2505) (off := 2461) hx hb dL_law_44 (by omega) (by omega) (by rw [hz39]; rfl) (by decide) ?_
    exact law_J2505 hL C0 hlt D cI cJ cD sa q hq hqA hE hXe N k h5 k28 ih Tn Ta Fn Fa Ba Rn Ra Rb Rd Ua Wg Wz Ww Wr Mh Mn Mm Mt Mk Ms Me Mp Mw Ml My Oa Od x5 hx5 hf _ _ hP hS _ (lv_sub hl [0, 1, 2, 3, 4, 5] rfl)
  have hf := (if_neg hz39).symm.trans hf
  by_cases hz40 : (((xs (x5).toNatClampNeg) &&& (63 : Int32))).toInt = 40
  · have hf := (if_pos hz40).symm.trans hf
    refine lv_tableIn (tgt := 2561) (off := 2517) hx hb dL_law_44 (by omega) (by omega) (by rw [hz40]; rfl) (by decide) ?_
    exact law_J2561 hL C0 hlt D cI cJ cD sa q hq hqA hE hXe N k h5 k28 ih Tn Ta Fn Fa Ba Rn Ra Rb Rd Ua Wg Wz Ww Wr Mh Mn Mm Mt Mk Ms Me Mp Mw Ml My Oa Od x5 hx5 hf _ _ hP hS _ (lv_sub hl [0, 1, 2, 3, 4, 5] rfl)
  have hf := (if_neg hz40).symm.trans hf
  by_cases hz41 : (((xs (x5).toNatClampNeg) &&& (63 : Int32))).toInt = 41
  · have hf := (if_pos hz41).symm.trans hf
    refine lv_tableIn (tgt := 2617) (off := 2573) hx hb dL_law_44 (by omega) (by omega) (by rw [hz41]; rfl) (by decide) ?_
    exact law_J2617 hL C0 hlt D cI cJ cD sa q hq hqA hE hXe N k h5 k28 ih Tn Ta Fn Fa Ba Rn Ra Rb Rd Ua Wg Wz Ww Wr Mh Mn Mm Mt Mk Ms Me Mp Mw Ml My Oa Od x5 hx5 hf _ _ hP hS _ (lv_sub hl [0, 1, 2, 3, 4, 5] rfl)
  have hf := (if_neg hz41).symm.trans hf
  by_cases hz42 : (((xs (x5).toNatClampNeg) &&& (63 : Int32))).toInt = 42
  · have hf := (if_pos hz42).symm.trans hf
    refine lv_tableIn (tgt := 2684) (off := 2640) hx hb dL_law_44 (by omega) (by omega) (by rw [hz42]; rfl) (by decide) ?_
    exact law_J2684 hL C0 hlt D cI cJ cD sa q hq hqA hE hXe N k h5 k28 ih Tn Ta Fn Fa Ba Rn Ra Rb Rd Ua Wg Wz Ww Wr Mh Mn Mm Mt Mk Ms Me Mp Mw Ml My Oa Od x5 hx5 hf _ _ hP hS _ (lv_sub hl [0, 1, 2, 3, 4, 5] rfl)
  have hf := (if_neg hz42).symm.trans hf
  have hz43 : (((xs (x5).toNatClampNeg) &&& (63 : Int32))).toInt = 43 := by omega
  refine lv_tableIn (tgt := 2751) (off := 2707) hx hb dL_law_44 (by omega) (by omega) (by rw [hz43]; rfl) (by decide) ?_
  exact law_J2751 hL C0 hlt D cI cJ cD sa q hq hqA hE hXe N k h5 k28 ih Tn Ta Fn Fa Ba Rn Ra Rb Rd Ua Wg Wz Ww Wr Mh Mn Mm Mt Mk Ms Me Mp Mw Ml My Oa Od x5 hx5 hf _ _ hP hS _ (lv_sub hl [0, 1, 2, 3, 4, 5] rfl)
set_option maxHeartbeats 4000000 in
set_option maxRecDepth 100000 in
theorem law_H28 {p : Program} {l : Launch} {e : Env} {s : State} {m : MethodId} {below : List Frame} {meth : Method} {c : Code} {b L : Nat} {xs : Nat → Int32} (hL : L ≤ 2560) (C0 : lw_At p s m meth c b L xs) (hlt : l.stackTraces = false) (D : va_G) (cI cJ cD : ClassId) (sa : Nat → Nat) (q : Nat → Nat) (hq : gInj q) (hqA : ∀ k, k < 25 → s.heap.size ≤ q k) (hE : gEv D cI cJ cD s) (hXe : gXe sa (fun a => s.heap.size ≤ a) s s.heap) (N : Nat) : ∀ (n k : Nat) (Tn : Int32) (Ta : (Nat → Int32)) (Fn : Int32) (Fa : (Nat → Int32)) (Ba : (Nat → Int32)) (Rn : Int32) (Ra : (Nat → Int32)) (Rb : (Nat → Int32)) (Rd : (Nat → Int32)) (Ua : (Nat → Int32)) (Wg : Int32) (Wz : Int32) (Ww : Int32) (Wr : Int32) (Mh : Int32) (Mn : Int32) (Mm : Int32) (Mt : (Nat → Int32)) (Mk : (Nat → Int32)) (Ms : (Nat → Int32)) (Me : (Nat → Int32)) (Mp : (Nat → Int32)) (Mw : (Nat → Int32)) (Ml : (Nat → Int32)) (My : (Nat → Int64)) (Oa : (Nat → Int64)) (Od : (Nat → UInt64)) (x5 : Int32), x5 = nI (5 * k) → 5 * k ≤ L → fL_law_H28 N L xs n Tn Ta Fn Fa Ba Rn Ra Rb Rd Ua Wg Wz Ww Wr Mh Mn Mm Mt Mk Ms Me Mp Mw Ml My Oa Od x5 = some 1 → ∀ (H : Heap) (locs : List Loc), va_P D vwCl (w_0_1_2_3_4_5_6_7_8_9_10_11_12_13_14_15_16_17_18_19_20_21_22_23_24 q cI cJ cD Tn Ta Fn Fa Ba Rn Ra Rb Rd Ua Wg Wz Ww Wr Mh Mn Mm Mt Mk Ms Me Mp Mw Ml My Oa Od) H → va_S (fun a : Nat => s.heap.size ≤ a) s.heap H locs → ∀ ls : Array Slot, lv_has ls 10 [(0, .ref b), (1, .ref (q 0)), (2, .ref (q 14)), (3, .ref (q 23)), (4, .ref (q 24)), (5, .int x5)] → W p l e room_1 s m #[Value.ref b] below meth c H locs (25 + k) (1025 + 6 * k) (lw_Z below #[Value.ref b] s) (F0 m 28 ls []) := by
  intro n
  induction n with
  | zero =>
    intro k Tn Ta Fn Fa Ba Rn Ra Rb Rd Ua Wg Wz Ww Wr Mh Mn Mm Mt Mk Ms Me Mp Mw Ml My Oa Od x5 hx5 hk hf
    exact nomatch (show (none : Option Int32) = some 1 from hf)
  | succ n ih =>
    intro k Tn Ta Fn Fa Ba Rn Ra Rb Rd Ua Wg Wz Ww Wr Mh Mn Mm Mt Mk Ms Me Mp Mw Ml My Oa Od x5 hx5 hk hf
    exact law_B28 hL C0 hlt D cI cJ cD sa q hq hqA hE hXe N k hk (fL_law_H28 N L xs n) (fun h5 => fun Tn Ta Fn Fa Ba Rn Ra Rb Rd Ua Wg Wz Ww Wr Mh Mn Mm Mt Mk Ms Me Mp Mw Ml My Oa Od x5 h1 h2 => ih (k + 1) Tn Ta Fn Fa Ba Rn Ra Rb Rd Ua Wg Wz Ww Wr Mh Mn Mm Mt Mk Ms Me Mp Mw Ml My Oa Od x5 h1 (by omega) h2) Tn Ta Fn Fa Ba Rn Ra Rb Rd Ua Wg Wz Ww Wr Mh Mn Mm Mt Mk Ms Me Mp Mw Ml My Oa Od x5 hx5 hf
