theorem law_h5 {L k : Nat} (hL : L ≤ 2560) (hk : 5 * k ≤ L) (h : ¬ (Int32.ofNat L - (5 : Int32)) < nI (5 * k)) : 5 * k + 5 ≤ L := by
  have h1 : (nI L - nI 5).toInt = (L : Int) - (5 : Nat) := pk_sub_toInt (by omega) (by decide)
  have h2 : (nI (5 * k)).toInt = ((5 * k : Nat) : Int) := nI_toInt (by omega)
  rw [Int32.lt_iff_toInt_lt, h2, show Int32.ofNat L - (5 : Int32) = nI L - nI 5 from rfl, h1] at h
  omega
theorem law_n5 (k : Nat) : nI (5 * k) + 5 = nI (5 * (k + 1)) := (nI_add (5 * k) 5)
theorem gSubL {s : State} {q : Nat → Nat} (hqA : ∀ k, k < 25 → s.heap.size ≤ q k) {ksc : List Nat} (h : ksc.all (fun k => decide (k < 25)) = true) : ∀ k ∈ ksc, (fun a : Nat => s.heap.size ≤ a) (q k) := fun k hk => hqA k (of_decide_eq_true (List.all_eq_true.mp h k hk))
theorem gMonoL {s : State} {q : Nat → Nat} (hqA : ∀ k, k < 25 → s.heap.size ≤ q k) {ksc : List Nat} (h : ksc.all (fun k => decide (k < 25)) = true) : ∀ a, gA q ksc a → (fun a : Nat => s.heap.size ≤ a) a := fun a ha => by
  obtain ⟨k, h1, h2⟩ := ha
  exact h2 ▸ gSubL hqA h k h1
def lawIH (p : Program) (l : Launch) (e : Env) (s : State) (m : MethodId) (below : List Frame) (meth : Method) (c : Code) (b : Nat) (D : va_G) (cI cJ cD : ClassId) (q : Nat → Nat) (k : Nat) (k28 : Int32 → (Nat → Int32) → Int32 → (Nat → Int32) → (Nat → Int32) → Int32 → (Nat → Int32) → (Nat → Int32) → (Nat → Int32) → (Nat → Int32) → Int32 → Int32 → Int32 → Int32 → Int32 → Int32 → Int32 → (Nat → Int32) → (Nat → Int32) → (Nat → Int32) → (Nat → Int32) → (Nat → Int32) → (Nat → Int32) → (Nat → Int32) → (Nat → Int64) → (Nat → Int64) → (Nat → UInt64) → Int32 → Option Int32) : Prop := ∀ (Tn : Int32) (Ta : (Nat → Int32)) (Fn : Int32) (Fa : (Nat → Int32)) (Ba : (Nat → Int32)) (Rn : Int32) (Ra : (Nat → Int32)) (Rb : (Nat → Int32)) (Rd : (Nat → Int32)) (Ua : (Nat → Int32)) (Wg : Int32) (Wz : Int32) (Ww : Int32) (Wr : Int32) (Mh : Int32) (Mn : Int32) (Mm : Int32) (Mt : (Nat → Int32)) (Mk : (Nat → Int32)) (Ms : (Nat → Int32)) (Me : (Nat → Int32)) (Mp : (Nat → Int32)) (Mw : (Nat → Int32)) (Ml : (Nat → Int32)) (My : (Nat → Int64)) (Oa : (Nat → Int64)) (Od : (Nat → UInt64)) (x5 : Int32), x5 = nI (5 * (k + 1)) → k28 Tn Ta Fn Fa Ba Rn Ra Rb Rd Ua Wg Wz Ww Wr Mh Mn Mm Mt Mk Ms Me Mp Mw Ml My Oa Od x5 = some 1 → ∀ (H : Heap) (locs : List Loc), va_P D vwCl (w_0_1_2_3_4_5_6_7_8_9_10_11_12_13_14_15_16_17_18_19_20_21_22_23_24 q cI cJ cD Tn Ta Fn Fa Ba Rn Ra Rb Rd Ua Wg Wz Ww Wr Mh Mn Mm Mt Mk Ms Me Mp Mw Ml My Oa Od) H → va_S (fun a : Nat => s.heap.size ≤ a) s.heap H locs → ∀ ls : Array Slot, lv_has ls 10 [(0, .ref b), (1, .ref (q 0)), (2, .ref (q 14)), (3, .ref (q 23)), (4, .ref (q 24)), (5, .int x5)] → W p l e room_1 s m #[Value.ref b] below meth c H locs (25 + (k + 1)) (1025 + 6 * (k + 1)) (lw_Z below #[Value.ref b] s) (F0 m 28 ls [])
set_option maxHeartbeats 4000000 in
set_option maxRecDepth 100000 in
theorem law_J2052 {p : Program} {l : Launch} {e : Env} {s : State} {m : MethodId} {below : List Frame} {meth : Method} {c : Code} {b L : Nat} {xs : Nat → Int32} (hL : L ≤ 2560) (C0 : lw_At p s m meth c b L xs) (hlt : l.stackTraces = false) (D : va_G) (cI cJ cD : ClassId) (sa : Nat → Nat) (q : Nat → Nat) (hq : gInj q) (hqA : ∀ k, k < 25 → s.heap.size ≤ q k) (hE : gEv D cI cJ cD s) (hXe : gXe sa (fun a => s.heap.size ≤ a) s s.heap) (N : Nat) (k : Nat) (hk : 5 * k ≤ L) (Tn : Int32) (Ta : (Nat → Int32)) (Fn : Int32) (Fa : (Nat → Int32)) (Ba : (Nat → Int32)) (Rn : Int32) (Ra : (Nat → Int32)) (Rb : (Nat → Int32)) (Rd : (Nat → Int32)) (Ua : (Nat → Int32)) (Wg : Int32) (Wz : Int32) (Ww : Int32) (Wr : Int32) (Mh : Int32) (Mn : Int32) (Mm : Int32) (Mt : (Nat → Int32)) (Mk : (Nat → Int32)) (Ms : (Nat → Int32)) (Me : (Nat → Int32)) (Mp : (Nat → Int32)) (Mw : (Nat → Int32)) (Ml : (Nat → Int32)) (My : (Nat → Int64)) (Oa : (Nat → Int64)) (Od : (Nat → UInt64)) (hf : fL_law_J2052 N L xs Tn Ta Fn Fa Ba Rn Ra Rb Rd Ua Wg Wz Ww Wr Mh Mn Mm Mt Mk Ms Me Mp Mw Ml My Oa Od = some 1) : ∀ (H : Heap) (locs : List Loc), va_P D vwCl (w_0_1_2_3_4_5_6_7_8_9_10_11_12_13_14_15_16_17_18_19_20_21_22_23_24 q cI cJ cD Tn Ta Fn Fa Ba Rn Ra Rb Rd Ua Wg Wz Ww Wr Mh Mn Mm Mt Mk Ms Me Mp Mw Ml My Oa Od) H → va_S (fun a : Nat => s.heap.size ≤ a) s.heap H locs → ∀ ls : Array Slot, lv_has ls 10 [] → W p l e room_1 s m #[Value.ref b] below meth c H locs (25 + k + 1) (1025 + 6 * k + 6) (lw_Z below #[Value.ref b] s) (F0 m 2052 ls []) := by
  obtain ⟨hx, hb, hr, hml, hown, hts0, hX, hbl, hlocks, hgv⟩ := id C0
  have hown : s.vm.findClass RL = some m.cls := hown
  have hts : ∀ w ∈ wsL_law, w.before #[Value.ref b] s = true := fun w h => hts0 w (wsL_law_in w h)
  have hbA : ¬ (fun a : Nat => s.heap.size ≤ a) b := Nat.not_le.mpr hbl
  intro H locs hP hS ls hl
  unfold fL_law_J2052 at hf
  refine lv_iconst (v := (0 : Int32)) hx hb dL_law_2052 (by decide) ?_
  exact absurd hf (by decide)
set_option maxHeartbeats 4000000 in
set_option maxRecDepth 100000 in
theorem law_J1550 {p : Program} {l : Launch} {e : Env} {s : State} {m : MethodId} {below : List Frame} {meth : Method} {c : Code} {b L : Nat} {xs : Nat → Int32} (hL : L ≤ 2560) (C0 : lw_At p s m meth c b L xs) (hlt : l.stackTraces = false) (D : va_G) (cI cJ cD : ClassId) (sa : Nat → Nat) (q : Nat → Nat) (hq : gInj q) (hqA : ∀ k, k < 25 → s.heap.size ≤ q k) (hE : gEv D cI cJ cD s) (hXe : gXe sa (fun a => s.heap.size ≤ a) s s.heap) (N : Nat) (k : Nat) (hk : 5 * k ≤ L) (Tn : Int32) (Ta : (Nat → Int32)) (Fn : Int32) (Fa : (Nat → Int32)) (Ba : (Nat → Int32)) (Rn : Int32) (Ra : (Nat → Int32)) (Rb : (Nat → Int32)) (Rd : (Nat → Int32)) (Ua : (Nat → Int32)) (Wg : Int32) (Wz : Int32) (Ww : Int32) (Wr : Int32) (Mh : Int32) (Mn : Int32) (Mm : Int32) (Mt : (Nat → Int32)) (Mk : (Nat → Int32)) (Ms : (Nat → Int32)) (Me : (Nat → Int32)) (Mp : (Nat → Int32)) (Mw : (Nat → Int32)) (Ml : (Nat → Int32)) (My : (Nat → Int64)) (Oa : (Nat → Int64)) (Od : (Nat → UInt64)) (hf : fL_law_J1550 N L xs Tn Ta Fn Fa Ba Rn Ra Rb Rd Ua Wg Wz Ww Wr Mh Mn Mm Mt Mk Ms Me Mp Mw Ml My Oa Od = some 1) : ∀ (H : Heap) (locs : List Loc), va_P D vwCl (w_0_1_2_3_4_5_6_7_8_9_10_11_12_13_14_15_16_17_18_19_20_21_22_23_24 q cI cJ cD Tn Ta Fn Fa Ba Rn Ra Rb Rd Ua Wg Wz Ww Wr Mh Mn Mm Mt Mk Ms Me Mp Mw Ml My Oa Od) H → va_S (fun a : Nat => s.heap.size ≤ a) s.heap H locs → ∀ ls : Array Slot, lv_has ls 10 [] → W p l e room_1 s m #[Value.ref b] below meth c H locs (25 + k + 1) (1025 + 6 * k + 6) (lw_Z below #[Value.ref b] s) (F0 m 1550 ls []) := by
  obtain ⟨hx, hb, hr, hml, hown, hts0, hX, hbl, hlocks, hgv⟩ := id C0
  have hown : s.vm.findClass RL = some m.cls := hown
  have hts : ∀ w ∈ wsL_law, w.before #[Value.ref b] s = true := fun w h => hts0 w (wsL_law_in w h)
  have hbA : ¬ (fun a : Nat => s.heap.size ≤ a) b := Nat.not_le.mpr hbl
  intro H locs hP hS ls hl
  unfold fL_law_J1550 at hf
  refine lv_iconst (v := (0 : Int32)) hx hb dL_law_1550 (by decide) ?_
  exact absurd hf (by decide)
set_option maxHeartbeats 4000000 in
set_option maxRecDepth 100000 in
theorem law_J544 {p : Program} {l : Launch} {e : Env} {s : State} {m : MethodId} {below : List Frame} {meth : Method} {c : Code} {b L : Nat} {xs : Nat → Int32} (hL : L ≤ 2560) (C0 : lw_At p s m meth c b L xs) (hlt : l.stackTraces = false) (D : va_G) (cI cJ cD : ClassId) (sa : Nat → Nat) (q : Nat → Nat) (hq : gInj q) (hqA : ∀ k, k < 25 → s.heap.size ≤ q k) (hE : gEv D cI cJ cD s) (hXe : gXe sa (fun a => s.heap.size ≤ a) s s.heap) (N : Nat) (k : Nat) (hk : 5 * k ≤ L) (Tn : Int32) (Ta : (Nat → Int32)) (Fn : Int32) (Fa : (Nat → Int32)) (Ba : (Nat → Int32)) (Rn : Int32) (Ra : (Nat → Int32)) (Rb : (Nat → Int32)) (Rd : (Nat → Int32)) (Ua : (Nat → Int32)) (Wg : Int32) (Wz : Int32) (Ww : Int32) (Wr : Int32) (Mh : Int32) (Mn : Int32) (Mm : Int32) (Mt : (Nat → Int32)) (Mk : (Nat → Int32)) (Ms : (Nat → Int32)) (Me : (Nat → Int32)) (Mp : (Nat → Int32)) (Mw : (Nat → Int32)) (Ml : (Nat → Int32)) (My : (Nat → Int64)) (Oa : (Nat → Int64)) (Od : (Nat → UInt64)) (hf : fL_law_J544 N L xs Tn Ta Fn Fa Ba Rn Ra Rb Rd Ua Wg Wz Ww Wr Mh Mn Mm Mt Mk Ms Me Mp Mw Ml My Oa Od = some 1) : ∀ (H : Heap) (locs : List Loc), va_P D vwCl (w_0_1_2_3_4_5_6_7_8_9_10_11_12_13_14_15_16_17_18_19_20_21_22_23_24 q cI cJ cD Tn Ta Fn Fa Ba Rn Ra Rb Rd Ua Wg Wz Ww Wr Mh Mn Mm Mt Mk Ms Me Mp Mw Ml My Oa Od) H → va_S (fun a : Nat => s.heap.size ≤ a) s.heap H locs → ∀ ls : Array Slot, lv_has ls 10 [] → W p l e room_1 s m #[Value.ref b] below meth c H locs (25 + k + 1) (1025 + 6 * k + 6) (lw_Z below #[Value.ref b] s) (F0 m 544 ls []) := by
  obtain ⟨hx, hb, hr, hml, hown, hts0, hX, hbl, hlocks, hgv⟩ := id C0
  have hown : s.vm.findClass RL = some m.cls := hown
  have hts : ∀ w ∈ wsL_law, w.before #[Value.ref b] s = true := fun w h => hts0 w (wsL_law_in w h)
  have hbA : ¬ (fun a : Nat => s.heap.size ≤ a) b := Nat.not_le.mpr hbl
  intro H locs hP hS ls hl
  unfold fL_law_J544 at hf
  refine lv_iconst (v := (0 : Int32)) hx hb dL_law_544 (by decide) ?_
  exact absurd hf (by decide)
set_option maxHeartbeats 4000000 in
set_option maxRecDepth 100000 in
theorem law_J1057 {p : Program} {l : Launch} {e : Env} {s : State} {m : MethodId} {below : List Frame} {meth : Method} {c : Code} {b L : Nat} {xs : Nat → Int32} (hL : L ≤ 2560) (C0 : lw_At p s m meth c b L xs) (hlt : l.stackTraces = false) (D : va_G) (cI cJ cD : ClassId) (sa : Nat → Nat) (q : Nat → Nat) (hq : gInj q) (hqA : ∀ k, k < 25 → s.heap.size ≤ q k) (hE : gEv D cI cJ cD s) (hXe : gXe sa (fun a => s.heap.size ≤ a) s s.heap) (N : Nat) (k : Nat) (hk : 5 * k ≤ L) (Tn : Int32) (Ta : (Nat → Int32)) (Fn : Int32) (Fa : (Nat → Int32)) (Ba : (Nat → Int32)) (Rn : Int32) (Ra : (Nat → Int32)) (Rb : (Nat → Int32)) (Rd : (Nat → Int32)) (Ua : (Nat → Int32)) (Wg : Int32) (Wz : Int32) (Ww : Int32) (Wr : Int32) (Mh : Int32) (Mn : Int32) (Mm : Int32) (Mt : (Nat → Int32)) (Mk : (Nat → Int32)) (Ms : (Nat → Int32)) (Me : (Nat → Int32)) (Mp : (Nat → Int32)) (Mw : (Nat → Int32)) (Ml : (Nat → Int32)) (My : (Nat → Int64)) (Oa : (Nat → Int64)) (Od : (Nat → UInt64)) (hf : fL_law_J1057 N L xs Tn Ta Fn Fa Ba Rn Ra Rb Rd Ua Wg Wz Ww Wr Mh Mn Mm Mt Mk Ms Me Mp Mw Ml My Oa Od = some 1) : ∀ (H : Heap) (locs : List Loc), va_P D vwCl (w_0_1_2_3_4_5_6_7_8_9_10_11_12_13_14_15_16_17_18_19_20_21_22_23_24 q cI cJ cD Tn Ta Fn Fa Ba Rn Ra Rb Rd Ua Wg Wz Ww Wr Mh Mn Mm Mt Mk Ms Me Mp Mw Ml My Oa Od) H → va_S (fun a : Nat => s.heap.size ≤ a) s.heap H locs → ∀ ls : Array Slot, lv_has ls 10 [] → W p l e room_1 s m #[Value.ref b] below meth c H locs (25 + k + 1) (1025 + 6 * k + 6) (lw_Z below #[Value.ref b] s) (F0 m 1057 ls []) := by
  obtain ⟨hx, hb, hr, hml, hown, hts0, hX, hbl, hlocks, hgv⟩ := id C0
  have hown : s.vm.findClass RL = some m.cls := hown
  have hts : ∀ w ∈ wsL_law, w.before #[Value.ref b] s = true := fun w h => hts0 w (wsL_law_in w h)
  have hbA : ¬ (fun a : Nat => s.heap.size ≤ a) b := Nat.not_le.mpr hbl
  intro H locs hP hS ls hl
  unfold fL_law_J1057 at hf
  refine lv_iconst (v := (0 : Int32)) hx hb dL_law_1057 (by decide) ?_
  exact absurd hf (by decide)
set_option maxHeartbeats 4000000 in
set_option maxRecDepth 100000 in
theorem law_J2595 {p : Program} {l : Launch} {e : Env} {s : State} {m : MethodId} {below : List Frame} {meth : Method} {c : Code} {b L : Nat} {xs : Nat → Int32} (hL : L ≤ 2560) (C0 : lw_At p s m meth c b L xs) (hlt : l.stackTraces = false) (D : va_G) (cI cJ cD : ClassId) (sa : Nat → Nat) (q : Nat → Nat) (hq : gInj q) (hqA : ∀ k, k < 25 → s.heap.size ≤ q k) (hE : gEv D cI cJ cD s) (hXe : gXe sa (fun a => s.heap.size ≤ a) s s.heap) (N : Nat) (k : Nat) (hk : 5 * k ≤ L) (Tn : Int32) (Ta : (Nat → Int32)) (Fn : Int32) (Fa : (Nat → Int32)) (Ba : (Nat → Int32)) (Rn : Int32) (Ra : (Nat → Int32)) (Rb : (Nat → Int32)) (Rd : (Nat → Int32)) (Ua : (Nat → Int32)) (Wg : Int32) (Wz : Int32) (Ww : Int32) (Wr : Int32) (Mh : Int32) (Mn : Int32) (Mm : Int32) (Mt : (Nat → Int32)) (Mk : (Nat → Int32)) (Ms : (Nat → Int32)) (Me : (Nat → Int32)) (Mp : (Nat → Int32)) (Mw : (Nat → Int32)) (Ml : (Nat → Int32)) (My : (Nat → Int64)) (Oa : (Nat → Int64)) (Od : (Nat → UInt64)) (hf : fL_law_J2595 N L xs Tn Ta Fn Fa Ba Rn Ra Rb Rd Ua Wg Wz Ww Wr Mh Mn Mm Mt Mk Ms Me Mp Mw Ml My Oa Od = some 1) : ∀ (H : Heap) (locs : List Loc), va_P D vwCl (w_0_1_2_3_4_5_6_7_8_9_10_11_12_13_14_15_16_17_18_19_20_21_22_23_24 q cI cJ cD Tn Ta Fn Fa Ba Rn Ra Rb Rd Ua Wg Wz Ww Wr Mh Mn Mm Mt Mk Ms Me Mp Mw Ml My Oa Od) H → va_S (fun a : Nat => s.heap.size ≤ a) s.heap H locs → ∀ ls : Array Slot, lv_has ls 10 [] → W p l e room_1 s m #[Value.ref b] below meth c H locs (25 + k + 1) (1025 + 6 * k + 6) (lw_Z below #[Value.ref b] s) (F0 m 2595 ls []) := by
  obtain ⟨hx, hb, hr, hml, hown, hts0, hX, hbl, hlocks, hgv⟩ := id C0
  have hown : s.vm.findClass RL = some m.cls := hown
  have hts : ∀ w ∈ wsL_law, w.before #[Value.ref b] s = true := fun w h => hts0 w (wsL_law_in w h)
  have hbA : ¬ (fun a : Nat => s.heap.size ≤ a) b := Nat.not_le.mpr hbl
  intro H locs hP hS ls hl
  unfold fL_law_J2595 at hf
  refine lv_iconst (v := (0 : Int32)) hx hb dL_law_2595 (by decide) ?_
  exact absurd hf (by decide)
set_option maxHeartbeats 4000000 in
set_option maxRecDepth 100000 in
theorem law_J561 {p : Program} {l : Launch} {e : Env} {s : State} {m : MethodId} {below : List Frame} {meth : Method} {c : Code} {b L : Nat} {xs : Nat → Int32} (hL : L ≤ 2560) (C0 : lw_At p s m meth c b L xs) (hlt : l.stackTraces = false) (D : va_G) (cI cJ cD : ClassId) (sa : Nat → Nat) (q : Nat → Nat) (hq : gInj q) (hqA : ∀ k, k < 25 → s.heap.size ≤ q k) (hE : gEv D cI cJ cD s) (hXe : gXe sa (fun a => s.heap.size ≤ a) s s.heap) (N : Nat) (k : Nat) (hk : 5 * k ≤ L) (Tn : Int32) (Ta : (Nat → Int32)) (Fn : Int32) (Fa : (Nat → Int32)) (Ba : (Nat → Int32)) (Rn : Int32) (Ra : (Nat → Int32)) (Rb : (Nat → Int32)) (Rd : (Nat → Int32)) (Ua : (Nat → Int32)) (Wg : Int32) (Wz : Int32) (Ww : Int32) (Wr : Int32) (Mh : Int32) (Mn : Int32) (Mm : Int32) (Mt : (Nat → Int32)) (Mk : (Nat → Int32)) (Ms : (Nat → Int32)) (Me : (Nat → Int32)) (Mp : (Nat → Int32)) (Mw : (Nat → Int32)) (Ml : (Nat → Int32)) (My : (Nat → Int64)) (Oa : (Nat → Int64)) (Od : (Nat → UInt64)) (hf : fL_law_J561 N L xs Tn Ta Fn Fa Ba Rn Ra Rb Rd Ua Wg Wz Ww Wr Mh Mn Mm Mt Mk Ms Me Mp Mw Ml My Oa Od = some 1) : ∀ (H : Heap) (locs : List Loc), va_P D vwCl (w_0_1_2_3_4_5_6_7_8_9_10_11_12_13_14_15_16_17_18_19_20_21_22_23_24 q cI cJ cD Tn Ta Fn Fa Ba Rn Ra Rb Rd Ua Wg Wz Ww Wr Mh Mn Mm Mt Mk Ms Me Mp Mw Ml My Oa Od) H → va_S (fun a : Nat => s.heap.size ≤ a) s.heap H locs → ∀ ls : Array Slot, lv_has ls 10 [] → W p l e room_1 s m #[Value.ref b] below meth c H locs (25 + k + 1) (1025 + 6 * k + 6) (lw_Z below #[Value.ref b] s) (F0 m 561 ls []) := by
  obtain ⟨hx, hb, hr, hml, hown, hts0, hX, hbl, hlocks, hgv⟩ := id C0
  have hown : s.vm.findClass RL = some m.cls := hown
  have hts : ∀ w ∈ wsL_law, w.before #[Value.ref b] s = true := fun w h => hts0 w (wsL_law_in w h)
  have hbA : ¬ (fun a : Nat => s.heap.size ≤ a) b := Nat.not_le.mpr hbl
  intro H locs hP hS ls hl
  unfold fL_law_J561 at hf
  refine lv_iconst (v := (0 : Int32)) hx hb dL_law_561 (by decide) ?_
  exact absurd hf (by decide)
set_option maxHeartbeats 4000000 in
set_option maxRecDepth 100000 in
theorem law_J2612 {p : Program} {l : Launch} {e : Env} {s : State} {m : MethodId} {below : List Frame} {meth : Method} {c : Code} {b L : Nat} {xs : Nat → Int32} (hL : L ≤ 2560) (C0 : lw_At p s m meth c b L xs) (hlt : l.stackTraces = false) (D : va_G) (cI cJ cD : ClassId) (sa : Nat → Nat) (q : Nat → Nat) (hq : gInj q) (hqA : ∀ k, k < 25 → s.heap.size ≤ q k) (hE : gEv D cI cJ cD s) (hXe : gXe sa (fun a => s.heap.size ≤ a) s s.heap) (N : Nat) (k : Nat) (hk : 5 * k ≤ L) (Tn : Int32) (Ta : (Nat → Int32)) (Fn : Int32) (Fa : (Nat → Int32)) (Ba : (Nat → Int32)) (Rn : Int32) (Ra : (Nat → Int32)) (Rb : (Nat → Int32)) (Rd : (Nat → Int32)) (Ua : (Nat → Int32)) (Wg : Int32) (Wz : Int32) (Ww : Int32) (Wr : Int32) (Mh : Int32) (Mn : Int32) (Mm : Int32) (Mt : (Nat → Int32)) (Mk : (Nat → Int32)) (Ms : (Nat → Int32)) (Me : (Nat → Int32)) (Mp : (Nat → Int32)) (Mw : (Nat → Int32)) (Ml : (Nat → Int32)) (My : (Nat → Int64)) (Oa : (Nat → Int64)) (Od : (Nat → UInt64)) (hf : fL_law_J2612 N L xs Tn Ta Fn Fa Ba Rn Ra Rb Rd Ua Wg Wz Ww Wr Mh Mn Mm Mt Mk Ms Me Mp Mw Ml My Oa Od = some 1) : ∀ (H : Heap) (locs : List Loc), va_P D vwCl (w_0_1_2_3_4_5_6_7_8_9_10_11_12_13_14_15_16_17_18_19_20_21_22_23_24 q cI cJ cD Tn Ta Fn Fa Ba Rn Ra Rb Rd Ua Wg Wz Ww Wr Mh Mn Mm Mt Mk Ms Me Mp Mw Ml My Oa Od) H → va_S (fun a : Nat => s.heap.size ≤ a) s.heap H locs → ∀ ls : Array Slot, lv_has ls 10 [] → W p l e room_1 s m #[Value.ref b] below meth c H locs (25 + k + 1) (1025 + 6 * k + 6) (lw_Z below #[Value.ref b] s) (F0 m 2612 ls []) := by
  obtain ⟨hx, hb, hr, hml, hown, hts0, hX, hbl, hlocks, hgv⟩ := id C0
  have hown : s.vm.findClass RL = some m.cls := hown
  have hts : ∀ w ∈ wsL_law, w.before #[Value.ref b] s = true := fun w h => hts0 w (wsL_law_in w h)
  have hbA : ¬ (fun a : Nat => s.heap.size ≤ a) b := Nat.not_le.mpr hbl
  intro H locs hP hS ls hl
  unfold fL_law_J2612 at hf
  refine lv_iconst (v := (0 : Int32)) hx hb dL_law_2612 (by decide) ?_
  exact absurd hf (by decide)
set_option maxHeartbeats 4000000 in
set_option maxRecDepth 100000 in
theorem law_J2103 {p : Program} {l : Launch} {e : Env} {s : State} {m : MethodId} {below : List Frame} {meth : Method} {c : Code} {b L : Nat} {xs : Nat → Int32} (hL : L ≤ 2560) (C0 : lw_At p s m meth c b L xs) (hlt : l.stackTraces = false) (D : va_G) (cI cJ cD : ClassId) (sa : Nat → Nat) (q : Nat → Nat) (hq : gInj q) (hqA : ∀ k, k < 25 → s.heap.size ≤ q k) (hE : gEv D cI cJ cD s) (hXe : gXe sa (fun a => s.heap.size ≤ a) s s.heap) (N : Nat) (k : Nat) (hk : 5 * k ≤ L) (Tn : Int32) (Ta : (Nat → Int32)) (Fn : Int32) (Fa : (Nat → Int32)) (Ba : (Nat → Int32)) (Rn : Int32) (Ra : (Nat → Int32)) (Rb : (Nat → Int32)) (Rd : (Nat → Int32)) (Ua : (Nat → Int32)) (Wg : Int32) (Wz : Int32) (Ww : Int32) (Wr : Int32) (Mh : Int32) (Mn : Int32) (Mm : Int32) (Mt : (Nat → Int32)) (Mk : (Nat → Int32)) (Ms : (Nat → Int32)) (Me : (Nat → Int32)) (Mp : (Nat → Int32)) (Mw : (Nat → Int32)) (Ml : (Nat → Int32)) (My : (Nat → Int64)) (Oa : (Nat → Int64)) (Od : (Nat → UInt64)) (hf : fL_law_J2103 N L xs Tn Ta Fn Fa Ba Rn Ra Rb Rd Ua Wg Wz Ww Wr Mh Mn Mm Mt Mk Ms Me Mp Mw Ml My Oa Od = some 1) : ∀ (H : Heap) (locs : List Loc), va_P D vwCl (w_0_1_2_3_4_5_6_7_8_9_10_11_12_13_14_15_16_17_18_19_20_21_22_23_24 q cI cJ cD Tn Ta Fn Fa Ba Rn Ra Rb Rd Ua Wg Wz Ww Wr Mh Mn Mm Mt Mk Ms Me Mp Mw Ml My Oa Od) H → va_S (fun a : Nat => s.heap.size ≤ a) s.heap H locs → ∀ ls : Array Slot, lv_has ls 10 [] → W p l e room_1 s m #[Value.ref b] below meth c H locs (25 + k + 1) (1025 + 6 * k + 6) (lw_Z below #[Value.ref b] s) (F0 m 2103 ls []) := by
  obtain ⟨hx, hb, hr, hml, hown, hts0, hX, hbl, hlocks, hgv⟩ := id C0
  have hown : s.vm.findClass RL = some m.cls := hown
  have hts : ∀ w ∈ wsL_law, w.before #[Value.ref b] s = true := fun w h => hts0 w (wsL_law_in w h)
  have hbA : ¬ (fun a : Nat => s.heap.size ≤ a) b := Nat.not_le.mpr hbl
  intro H locs hP hS ls hl
  unfold fL_law_J2103 at hf
  refine lv_iconst (v := (0 : Int32)) hx hb dL_law_2103 (by decide) ?_
  exact absurd hf (by decide)
set_option maxHeartbeats 4000000 in
set_option maxRecDepth 100000 in
theorem law_J1081 {p : Program} {l : Launch} {e : Env} {s : State} {m : MethodId} {below : List Frame} {meth : Method} {c : Code} {b L : Nat} {xs : Nat → Int32} (hL : L ≤ 2560) (C0 : lw_At p s m meth c b L xs) (hlt : l.stackTraces = false) (D : va_G) (cI cJ cD : ClassId) (sa : Nat → Nat) (q : Nat → Nat) (hq : gInj q) (hqA : ∀ k, k < 25 → s.heap.size ≤ q k) (hE : gEv D cI cJ cD s) (hXe : gXe sa (fun a => s.heap.size ≤ a) s s.heap) (N : Nat) (k : Nat) (hk : 5 * k ≤ L) (Tn : Int32) (Ta : (Nat → Int32)) (Fn : Int32) (Fa : (Nat → Int32)) (Ba : (Nat → Int32)) (Rn : Int32) (Ra : (Nat → Int32)) (Rb : (Nat → Int32)) (Rd : (Nat → Int32)) (Ua : (Nat → Int32)) (Wg : Int32) (Wz : Int32) (Ww : Int32) (Wr : Int32) (Mh : Int32) (Mn : Int32) (Mm : Int32) (Mt : (Nat → Int32)) (Mk : (Nat → Int32)) (Ms : (Nat → Int32)) (Me : (Nat → Int32)) (Mp : (Nat → Int32)) (Mw : (Nat → Int32)) (Ml : (Nat → Int32)) (My : (Nat → Int64)) (Oa : (Nat → Int64)) (Od : (Nat → UInt64)) (hf : fL_law_J1081 N L xs Tn Ta Fn Fa Ba Rn Ra Rb Rd Ua Wg Wz Ww Wr Mh Mn Mm Mt Mk Ms Me Mp Mw Ml My Oa Od = some 1) : ∀ (H : Heap) (locs : List Loc), va_P D vwCl (w_0_1_2_3_4_5_6_7_8_9_10_11_12_13_14_15_16_17_18_19_20_21_22_23_24 q cI cJ cD Tn Ta Fn Fa Ba Rn Ra Rb Rd Ua Wg Wz Ww Wr Mh Mn Mm Mt Mk Ms Me Mp Mw Ml My Oa Od) H → va_S (fun a : Nat => s.heap.size ≤ a) s.heap H locs → ∀ ls : Array Slot, lv_has ls 10 [] → W p l e room_1 s m #[Value.ref b] below meth c H locs (25 + k + 1) (1025 + 6 * k + 6) (lw_Z below #[Value.ref b] s) (F0 m 1081 ls []) := by
  obtain ⟨hx, hb, hr, hml, hown, hts0, hX, hbl, hlocks, hgv⟩ := id C0
  have hown : s.vm.findClass RL = some m.cls := hown
  have hts : ∀ w ∈ wsL_law, w.before #[Value.ref b] s = true := fun w h => hts0 w (wsL_law_in w h)
  have hbA : ¬ (fun a : Nat => s.heap.size ≤ a) b := Nat.not_le.mpr hbl
  intro H locs hP hS ls hl
  unfold fL_law_J1081 at hf
  refine lv_iconst (v := (0 : Int32)) hx hb dL_law_1081 (by decide) ?_
  exact absurd hf (by decide)
set_option maxHeartbeats 4000000 in
set_option maxRecDepth 100000 in
theorem law_J2556 {p : Program} {l : Launch} {e : Env} {s : State} {m : MethodId} {below : List Frame} {meth : Method} {c : Code} {b L : Nat} {xs : Nat → Int32} (hL : L ≤ 2560) (C0 : lw_At p s m meth c b L xs) (hlt : l.stackTraces = false) (D : va_G) (cI cJ cD : ClassId) (sa : Nat → Nat) (q : Nat → Nat) (hq : gInj q) (hqA : ∀ k, k < 25 → s.heap.size ≤ q k) (hE : gEv D cI cJ cD s) (hXe : gXe sa (fun a => s.heap.size ≤ a) s s.heap) (N : Nat) (k : Nat) (hk : 5 * k ≤ L) (Tn : Int32) (Ta : (Nat → Int32)) (Fn : Int32) (Fa : (Nat → Int32)) (Ba : (Nat → Int32)) (Rn : Int32) (Ra : (Nat → Int32)) (Rb : (Nat → Int32)) (Rd : (Nat → Int32)) (Ua : (Nat → Int32)) (Wg : Int32) (Wz : Int32) (Ww : Int32) (Wr : Int32) (Mh : Int32) (Mn : Int32) (Mm : Int32) (Mt : (Nat → Int32)) (Mk : (Nat → Int32)) (Ms : (Nat → Int32)) (Me : (Nat → Int32)) (Mp : (Nat → Int32)) (Mw : (Nat → Int32)) (Ml : (Nat → Int32)) (My : (Nat → Int64)) (Oa : (Nat → Int64)) (Od : (Nat → UInt64)) (hf : fL_law_J2556 N L xs Tn Ta Fn Fa Ba Rn Ra Rb Rd Ua Wg Wz Ww Wr Mh Mn Mm Mt Mk Ms Me Mp Mw Ml My Oa Od = some 1) : ∀ (H : Heap) (locs : List Loc), va_P D vwCl (w_0_1_2_3_4_5_6_7_8_9_10_11_12_13_14_15_16_17_18_19_20_21_22_23_24 q cI cJ cD Tn Ta Fn Fa Ba Rn Ra Rb Rd Ua Wg Wz Ww Wr Mh Mn Mm Mt Mk Ms Me Mp Mw Ml My Oa Od) H → va_S (fun a : Nat => s.heap.size ≤ a) s.heap H locs → ∀ ls : Array Slot, lv_has ls 10 [] → W p l e room_1 s m #[Value.ref b] below meth c H locs (25 + k + 1) (1025 + 6 * k + 6) (lw_Z below #[Value.ref b] s) (F0 m 2556 ls []) := by
  obtain ⟨hx, hb, hr, hml, hown, hts0, hX, hbl, hlocks, hgv⟩ := id C0
  have hown : s.vm.findClass RL = some m.cls := hown
  have hts : ∀ w ∈ wsL_law, w.before #[Value.ref b] s = true := fun w h => hts0 w (wsL_law_in w h)
  have hbA : ¬ (fun a : Nat => s.heap.size ≤ a) b := Nat.not_le.mpr hbl
  intro H locs hP hS ls hl
  unfold fL_law_J2556 at hf
  refine lv_iconst (v := (0 : Int32)) hx hb dL_law_2556 (by decide) ?_
  exact absurd hf (by decide)
set_option maxHeartbeats 4000000 in
set_option maxRecDepth 100000 in
theorem law_J1601 {p : Program} {l : Launch} {e : Env} {s : State} {m : MethodId} {below : List Frame} {meth : Method} {c : Code} {b L : Nat} {xs : Nat → Int32} (hL : L ≤ 2560) (C0 : lw_At p s m meth c b L xs) (hlt : l.stackTraces = false) (D : va_G) (cI cJ cD : ClassId) (sa : Nat → Nat) (q : Nat → Nat) (hq : gInj q) (hqA : ∀ k, k < 25 → s.heap.size ≤ q k) (hE : gEv D cI cJ cD s) (hXe : gXe sa (fun a => s.heap.size ≤ a) s s.heap) (N : Nat) (k : Nat) (hk : 5 * k ≤ L) (Tn : Int32) (Ta : (Nat → Int32)) (Fn : Int32) (Fa : (Nat → Int32)) (Ba : (Nat → Int32)) (Rn : Int32) (Ra : (Nat → Int32)) (Rb : (Nat → Int32)) (Rd : (Nat → Int32)) (Ua : (Nat → Int32)) (Wg : Int32) (Wz : Int32) (Ww : Int32) (Wr : Int32) (Mh : Int32) (Mn : Int32) (Mm : Int32) (Mt : (Nat → Int32)) (Mk : (Nat → Int32)) (Ms : (Nat → Int32)) (Me : (Nat → Int32)) (Mp : (Nat → Int32)) (Mw : (Nat → Int32)) (Ml : (Nat → Int32)) (My : (Nat → Int64)) (Oa : (Nat → Int64)) (Od : (Nat → UInt64)) (hf : fL_law_J1601 N L xs Tn Ta Fn Fa Ba Rn Ra Rb Rd Ua Wg Wz Ww Wr Mh Mn Mm Mt Mk Ms Me Mp Mw Ml My Oa Od = some 1) : ∀ (H : Heap) (locs : List Loc), va_P D vwCl (w_0_1_2_3_4_5_6_7_8_9_10_11_12_13_14_15_16_17_18_19_20_21_22_23_24 q cI cJ cD Tn Ta Fn Fa Ba Rn Ra Rb Rd Ua Wg Wz Ww Wr Mh Mn Mm Mt Mk Ms Me Mp Mw Ml My Oa Od) H → va_S (fun a : Nat => s.heap.size ≤ a) s.heap H locs → ∀ ls : Array Slot, lv_has ls 10 [] → W p l e room_1 s m #[Value.ref b] below meth c H locs (25 + k + 1) (1025 + 6 * k + 6) (lw_Z below #[Value.ref b] s) (F0 m 1601 ls []) := by
  obtain ⟨hx, hb, hr, hml, hown, hts0, hX, hbl, hlocks, hgv⟩ := id C0
  have hown : s.vm.findClass RL = some m.cls := hown
  have hts : ∀ w ∈ wsL_law, w.before #[Value.ref b] s = true := fun w h => hts0 w (wsL_law_in w h)
  have hbA : ¬ (fun a : Nat => s.heap.size ≤ a) b := Nat.not_le.mpr hbl
  intro H locs hP hS ls hl
  unfold fL_law_J1601 at hf
  refine lv_iconst (v := (0 : Int32)) hx hb dL_law_1601 (by decide) ?_
  exact absurd hf (by decide)
set_option maxHeartbeats 4000000 in
set_option maxRecDepth 100000 in
theorem law_J2120 {p : Program} {l : Launch} {e : Env} {s : State} {m : MethodId} {below : List Frame} {meth : Method} {c : Code} {b L : Nat} {xs : Nat → Int32} (hL : L ≤ 2560) (C0 : lw_At p s m meth c b L xs) (hlt : l.stackTraces = false) (D : va_G) (cI cJ cD : ClassId) (sa : Nat → Nat) (q : Nat → Nat) (hq : gInj q) (hqA : ∀ k, k < 25 → s.heap.size ≤ q k) (hE : gEv D cI cJ cD s) (hXe : gXe sa (fun a => s.heap.size ≤ a) s s.heap) (N : Nat) (k : Nat) (hk : 5 * k ≤ L) (Tn : Int32) (Ta : (Nat → Int32)) (Fn : Int32) (Fa : (Nat → Int32)) (Ba : (Nat → Int32)) (Rn : Int32) (Ra : (Nat → Int32)) (Rb : (Nat → Int32)) (Rd : (Nat → Int32)) (Ua : (Nat → Int32)) (Wg : Int32) (Wz : Int32) (Ww : Int32) (Wr : Int32) (Mh : Int32) (Mn : Int32) (Mm : Int32) (Mt : (Nat → Int32)) (Mk : (Nat → Int32)) (Ms : (Nat → Int32)) (Me : (Nat → Int32)) (Mp : (Nat → Int32)) (Mw : (Nat → Int32)) (Ml : (Nat → Int32)) (My : (Nat → Int64)) (Oa : (Nat → Int64)) (Od : (Nat → UInt64)) (hf : fL_law_J2120 N L xs Tn Ta Fn Fa Ba Rn Ra Rb Rd Ua Wg Wz Ww Wr Mh Mn Mm Mt Mk Ms Me Mp Mw Ml My Oa Od = some 1) : ∀ (H : Heap) (locs : List Loc), va_P D vwCl (w_0_1_2_3_4_5_6_7_8_9_10_11_12_13_14_15_16_17_18_19_20_21_22_23_24 q cI cJ cD Tn Ta Fn Fa Ba Rn Ra Rb Rd Ua Wg Wz Ww Wr Mh Mn Mm Mt Mk Ms Me Mp Mw Ml My Oa Od) H → va_S (fun a : Nat => s.heap.size ≤ a) s.heap H locs → ∀ ls : Array Slot, lv_has ls 10 [] → W p l e room_1 s m #[Value.ref b] below meth c H locs (25 + k + 1) (1025 + 6 * k + 6) (lw_Z below #[Value.ref b] s) (F0 m 2120 ls []) := by
  obtain ⟨hx, hb, hr, hml, hown, hts0, hX, hbl, hlocks, hgv⟩ := id C0
  have hown : s.vm.findClass RL = some m.cls := hown
  have hts : ∀ w ∈ wsL_law, w.before #[Value.ref b] s = true := fun w h => hts0 w (wsL_law_in w h)
  have hbA : ¬ (fun a : Nat => s.heap.size ≤ a) b := Nat.not_le.mpr hbl
  intro H locs hP hS ls hl
  unfold fL_law_J2120 at hf
  refine lv_iconst (v := (0 : Int32)) hx hb dL_law_2120 (by decide) ?_
  exact absurd hf (by decide)
set_option maxHeartbeats 4000000 in
set_option maxRecDepth 100000 in
theorem law_J1097 {p : Program} {l : Launch} {e : Env} {s : State} {m : MethodId} {below : List Frame} {meth : Method} {c : Code} {b L : Nat} {xs : Nat → Int32} (hL : L ≤ 2560) (C0 : lw_At p s m meth c b L xs) (hlt : l.stackTraces = false) (D : va_G) (cI cJ cD : ClassId) (sa : Nat → Nat) (q : Nat → Nat) (hq : gInj q) (hqA : ∀ k, k < 25 → s.heap.size ≤ q k) (hE : gEv D cI cJ cD s) (hXe : gXe sa (fun a => s.heap.size ≤ a) s s.heap) (N : Nat) (k : Nat) (hk : 5 * k ≤ L) (Tn : Int32) (Ta : (Nat → Int32)) (Fn : Int32) (Fa : (Nat → Int32)) (Ba : (Nat → Int32)) (Rn : Int32) (Ra : (Nat → Int32)) (Rb : (Nat → Int32)) (Rd : (Nat → Int32)) (Ua : (Nat → Int32)) (Wg : Int32) (Wz : Int32) (Ww : Int32) (Wr : Int32) (Mh : Int32) (Mn : Int32) (Mm : Int32) (Mt : (Nat → Int32)) (Mk : (Nat → Int32)) (Ms : (Nat → Int32)) (Me : (Nat → Int32)) (Mp : (Nat → Int32)) (Mw : (Nat → Int32)) (Ml : (Nat → Int32)) (My : (Nat → Int64)) (Oa : (Nat → Int64)) (Od : (Nat → UInt64)) (hf : fL_law_J1097 N L xs Tn Ta Fn Fa Ba Rn Ra Rb Rd Ua Wg Wz Ww Wr Mh Mn Mm Mt Mk Ms Me Mp Mw Ml My Oa Od = some 1) : ∀ (H : Heap) (locs : List Loc), va_P D vwCl (w_0_1_2_3_4_5_6_7_8_9_10_11_12_13_14_15_16_17_18_19_20_21_22_23_24 q cI cJ cD Tn Ta Fn Fa Ba Rn Ra Rb Rd Ua Wg Wz Ww Wr Mh Mn Mm Mt Mk Ms Me Mp Mw Ml My Oa Od) H → va_S (fun a : Nat => s.heap.size ≤ a) s.heap H locs → ∀ ls : Array Slot, lv_has ls 10 [] → W p l e room_1 s m #[Value.ref b] below meth c H locs (25 + k) (1025 + 6 * k) (lw_Z below #[Value.ref b] s) (F0 m 1097 ls []) := by
  obtain ⟨hx, hb, hr, hml, hown, hts0, hX, hbl, hlocks, hgv⟩ := id C0
  have hown : s.vm.findClass RL = some m.cls := hown
  have hts : ∀ w ∈ wsL_law, w.before #[Value.ref b] s = true := fun w h => hts0 w (wsL_law_in w h)
  have hbA : ¬ (fun a : Nat => s.heap.size ≤ a) b := Nat.not_le.mpr hbl
  intro H locs hP hS ls hl
  unfold fL_law_J1097 at hf
  refine lv_iconst (v := (0 : Int32)) hx hb dL_law_1097 (by decide) ?_
  exact absurd hf (by decide)
set_option maxHeartbeats 4000000 in
set_option maxRecDepth 100000 in
theorem law_J1618 {p : Program} {l : Launch} {e : Env} {s : State} {m : MethodId} {below : List Frame} {meth : Method} {c : Code} {b L : Nat} {xs : Nat → Int32} (hL : L ≤ 2560) (C0 : lw_At p s m meth c b L xs) (hlt : l.stackTraces = false) (D : va_G) (cI cJ cD : ClassId) (sa : Nat → Nat) (q : Nat → Nat) (hq : gInj q) (hqA : ∀ k, k < 25 → s.heap.size ≤ q k) (hE : gEv D cI cJ cD s) (hXe : gXe sa (fun a => s.heap.size ≤ a) s s.heap) (N : Nat) (k : Nat) (hk : 5 * k ≤ L) (Tn : Int32) (Ta : (Nat → Int32)) (Fn : Int32) (Fa : (Nat → Int32)) (Ba : (Nat → Int32)) (Rn : Int32) (Ra : (Nat → Int32)) (Rb : (Nat → Int32)) (Rd : (Nat → Int32)) (Ua : (Nat → Int32)) (Wg : Int32) (Wz : Int32) (Ww : Int32) (Wr : Int32) (Mh : Int32) (Mn : Int32) (Mm : Int32) (Mt : (Nat → Int32)) (Mk : (Nat → Int32)) (Ms : (Nat → Int32)) (Me : (Nat → Int32)) (Mp : (Nat → Int32)) (Mw : (Nat → Int32)) (Ml : (Nat → Int32)) (My : (Nat → Int64)) (Oa : (Nat → Int64)) (Od : (Nat → UInt64)) (hf : fL_law_J1618 N L xs Tn Ta Fn Fa Ba Rn Ra Rb Rd Ua Wg Wz Ww Wr Mh Mn Mm Mt Mk Ms Me Mp Mw Ml My Oa Od = some 1) : ∀ (H : Heap) (locs : List Loc), va_P D vwCl (w_0_1_2_3_4_5_6_7_8_9_10_11_12_13_14_15_16_17_18_19_20_21_22_23_24 q cI cJ cD Tn Ta Fn Fa Ba Rn Ra Rb Rd Ua Wg Wz Ww Wr Mh Mn Mm Mt Mk Ms Me Mp Mw Ml My Oa Od) H → va_S (fun a : Nat => s.heap.size ≤ a) s.heap H locs → ∀ ls : Array Slot, lv_has ls 10 [] → W p l e room_1 s m #[Value.ref b] below meth c H locs (25 + k + 1) (1025 + 6 * k + 6) (lw_Z below #[Value.ref b] s) (F0 m 1618 ls []) := by
  obtain ⟨hx, hb, hr, hml, hown, hts0, hX, hbl, hlocks, hgv⟩ := id C0
  have hown : s.vm.findClass RL = some m.cls := hown
  have hts : ∀ w ∈ wsL_law, w.before #[Value.ref b] s = true := fun w h => hts0 w (wsL_law_in w h)
  have hbA : ¬ (fun a : Nat => s.heap.size ≤ a) b := Nat.not_le.mpr hbl
  intro H locs hP hS ls hl
  unfold fL_law_J1618 at hf
  refine lv_iconst (v := (0 : Int32)) hx hb dL_law_1618 (by decide) ?_
  exact absurd hf (by decide)
set_option maxHeartbeats 4000000 in
set_option maxRecDepth 100000 in
theorem law_J612 {p : Program} {l : Launch} {e : Env} {s : State} {m : MethodId} {below : List Frame} {meth : Method} {c : Code} {b L : Nat} {xs : Nat → Int32} (hL : L ≤ 2560) (C0 : lw_At p s m meth c b L xs) (hlt : l.stackTraces = false) (D : va_G) (cI cJ cD : ClassId) (sa : Nat → Nat) (q : Nat → Nat) (hq : gInj q) (hqA : ∀ k, k < 25 → s.heap.size ≤ q k) (hE : gEv D cI cJ cD s) (hXe : gXe sa (fun a => s.heap.size ≤ a) s s.heap) (N : Nat) (k : Nat) (hk : 5 * k ≤ L) (Tn : Int32) (Ta : (Nat → Int32)) (Fn : Int32) (Fa : (Nat → Int32)) (Ba : (Nat → Int32)) (Rn : Int32) (Ra : (Nat → Int32)) (Rb : (Nat → Int32)) (Rd : (Nat → Int32)) (Ua : (Nat → Int32)) (Wg : Int32) (Wz : Int32) (Ww : Int32) (Wr : Int32) (Mh : Int32) (Mn : Int32) (Mm : Int32) (Mt : (Nat → Int32)) (Mk : (Nat → Int32)) (Ms : (Nat → Int32)) (Me : (Nat → Int32)) (Mp : (Nat → Int32)) (Mw : (Nat → Int32)) (Ml : (Nat → Int32)) (My : (Nat → Int64)) (Oa : (Nat → Int64)) (Od : (Nat → UInt64)) (hf : fL_law_J612 N L xs Tn Ta Fn Fa Ba Rn Ra Rb Rd Ua Wg Wz Ww Wr Mh Mn Mm Mt Mk Ms Me Mp Mw Ml My Oa Od = some 1) : ∀ (H : Heap) (locs : List Loc), va_P D vwCl (w_0_1_2_3_4_5_6_7_8_9_10_11_12_13_14_15_16_17_18_19_20_21_22_23_24 q cI cJ cD Tn Ta Fn Fa Ba Rn Ra Rb Rd Ua Wg Wz Ww Wr Mh Mn Mm Mt Mk Ms Me Mp Mw Ml My Oa Od) H → va_S (fun a : Nat => s.heap.size ≤ a) s.heap H locs → ∀ ls : Array Slot, lv_has ls 10 [] → W p l e room_1 s m #[Value.ref b] below meth c H locs (25 + k + 1) (1025 + 6 * k + 6) (lw_Z below #[Value.ref b] s) (F0 m 612 ls []) := by
  obtain ⟨hx, hb, hr, hml, hown, hts0, hX, hbl, hlocks, hgv⟩ := id C0
  have hown : s.vm.findClass RL = some m.cls := hown
  have hts : ∀ w ∈ wsL_law, w.before #[Value.ref b] s = true := fun w h => hts0 w (wsL_law_in w h)
  have hbA : ¬ (fun a : Nat => s.heap.size ≤ a) b := Nat.not_le.mpr hbl
  intro H locs hP hS ls hl
  unfold fL_law_J612 at hf
  refine lv_iconst (v := (0 : Int32)) hx hb dL_law_612 (by decide) ?_
  exact absurd hf (by decide)
set_option maxHeartbeats 4000000 in
set_option maxRecDepth 100000 in
theorem law_J2663 {p : Program} {l : Launch} {e : Env} {s : State} {m : MethodId} {below : List Frame} {meth : Method} {c : Code} {b L : Nat} {xs : Nat → Int32} (hL : L ≤ 2560) (C0 : lw_At p s m meth c b L xs) (hlt : l.stackTraces = false) (D : va_G) (cI cJ cD : ClassId) (sa : Nat → Nat) (q : Nat → Nat) (hq : gInj q) (hqA : ∀ k, k < 25 → s.heap.size ≤ q k) (hE : gEv D cI cJ cD s) (hXe : gXe sa (fun a => s.heap.size ≤ a) s s.heap) (N : Nat) (k : Nat) (hk : 5 * k ≤ L) (Tn : Int32) (Ta : (Nat → Int32)) (Fn : Int32) (Fa : (Nat → Int32)) (Ba : (Nat → Int32)) (Rn : Int32) (Ra : (Nat → Int32)) (Rb : (Nat → Int32)) (Rd : (Nat → Int32)) (Ua : (Nat → Int32)) (Wg : Int32) (Wz : Int32) (Ww : Int32) (Wr : Int32) (Mh : Int32) (Mn : Int32) (Mm : Int32) (Mt : (Nat → Int32)) (Mk : (Nat → Int32)) (Ms : (Nat → Int32)) (Me : (Nat → Int32)) (Mp : (Nat → Int32)) (Mw : (Nat → Int32)) (Ml : (Nat → Int32)) (My : (Nat → Int64)) (Oa : (Nat → Int64)) (Od : (Nat → UInt64)) (hf : fL_law_J2663 N L xs Tn Ta Fn Fa Ba Rn Ra Rb Rd Ua Wg Wz Ww Wr Mh Mn Mm Mt Mk Ms Me Mp Mw Ml My Oa Od = some 1) : ∀ (H : Heap) (locs : List Loc), va_P D vwCl (w_0_1_2_3_4_5_6_7_8_9_10_11_12_13_14_15_16_17_18_19_20_21_22_23_24 q cI cJ cD Tn Ta Fn Fa Ba Rn Ra Rb Rd Ua Wg Wz Ww Wr Mh Mn Mm Mt Mk Ms Me Mp Mw Ml My Oa Od) H → va_S (fun a : Nat => s.heap.size ≤ a) s.heap H locs → ∀ ls : Array Slot, lv_has ls 10 [] → W p l e room_1 s m #[Value.ref b] below meth c H locs (25 + k + 1) (1025 + 6 * k + 6) (lw_Z below #[Value.ref b] s) (F0 m 2663 ls []) := by
  obtain ⟨hx, hb, hr, hml, hown, hts0, hX, hbl, hlocks, hgv⟩ := id C0
  have hown : s.vm.findClass RL = some m.cls := hown
  have hts : ∀ w ∈ wsL_law, w.before #[Value.ref b] s = true := fun w h => hts0 w (wsL_law_in w h)
  have hbA : ¬ (fun a : Nat => s.heap.size ≤ a) b := Nat.not_le.mpr hbl
  intro H locs hP hS ls hl
  unfold fL_law_J2663 at hf
  refine lv_iconst (v := (0 : Int32)) hx hb dL_law_2663 (by decide) ?_
  exact absurd hf (by decide)
set_option maxHeartbeats 4000000 in
set_option maxRecDepth 100000 in
theorem law_J1133 {p : Program} {l : Launch} {e : Env} {s : State} {m : MethodId} {below : List Frame} {meth : Method} {c : Code} {b L : Nat} {xs : Nat → Int32} (hL : L ≤ 2560) (C0 : lw_At p s m meth c b L xs) (hlt : l.stackTraces = false) (D : va_G) (cI cJ cD : ClassId) (sa : Nat → Nat) (q : Nat → Nat) (hq : gInj q) (hqA : ∀ k, k < 25 → s.heap.size ≤ q k) (hE : gEv D cI cJ cD s) (hXe : gXe sa (fun a => s.heap.size ≤ a) s s.heap) (N : Nat) (k : Nat) (hk : 5 * k ≤ L) (Tn : Int32) (Ta : (Nat → Int32)) (Fn : Int32) (Fa : (Nat → Int32)) (Ba : (Nat → Int32)) (Rn : Int32) (Ra : (Nat → Int32)) (Rb : (Nat → Int32)) (Rd : (Nat → Int32)) (Ua : (Nat → Int32)) (Wg : Int32) (Wz : Int32) (Ww : Int32) (Wr : Int32) (Mh : Int32) (Mn : Int32) (Mm : Int32) (Mt : (Nat → Int32)) (Mk : (Nat → Int32)) (Ms : (Nat → Int32)) (Me : (Nat → Int32)) (Mp : (Nat → Int32)) (Mw : (Nat → Int32)) (Ml : (Nat → Int32)) (My : (Nat → Int64)) (Oa : (Nat → Int64)) (Od : (Nat → UInt64)) (hf : fL_law_J1133 N L xs Tn Ta Fn Fa Ba Rn Ra Rb Rd Ua Wg Wz Ww Wr Mh Mn Mm Mt Mk Ms Me Mp Mw Ml My Oa Od = some 1) : ∀ (H : Heap) (locs : List Loc), va_P D vwCl (w_0_1_2_3_4_5_6_7_8_9_10_11_12_13_14_15_16_17_18_19_20_21_22_23_24 q cI cJ cD Tn Ta Fn Fa Ba Rn Ra Rb Rd Ua Wg Wz Ww Wr Mh Mn Mm Mt Mk Ms Me Mp Mw Ml My Oa Od) H → va_S (fun a : Nat => s.heap.size ≤ a) s.heap H locs → ∀ ls : Array Slot, lv_has ls 10 [] → W p l e room_1 s m #[Value.ref b] below meth c H locs (25 + k + 1) (1025 + 6 * k + 6) (lw_Z below #[Value.ref b] s) (F0 m 1133 ls []) := by
  obtain ⟨hx, hb, hr, hml, hown, hts0, hX, hbl, hlocks, hgv⟩ := id C0
  have hown : s.vm.findClass RL = some m.cls := hown
  have hts : ∀ w ∈ wsL_law, w.before #[Value.ref b] s = true := fun w h => hts0 w (wsL_law_in w h)
  have hbA : ¬ (fun a : Nat => s.heap.size ≤ a) b := Nat.not_le.mpr hbl
  intro H locs hP hS ls hl
  unfold fL_law_J1133 at hf
  refine lv_iconst (v := (0 : Int32)) hx hb dL_law_1133 (by decide) ?_
  exact absurd hf (by decide)
set_option maxHeartbeats 4000000 in
set_option maxRecDepth 100000 in
theorem law_J629 {p : Program} {l : Launch} {e : Env} {s : State} {m : MethodId} {below : List Frame} {meth : Method} {c : Code} {b L : Nat} {xs : Nat → Int32} (hL : L ≤ 2560) (C0 : lw_At p s m meth c b L xs) (hlt : l.stackTraces = false) (D : va_G) (cI cJ cD : ClassId) (sa : Nat → Nat) (q : Nat → Nat) (hq : gInj q) (hqA : ∀ k, k < 25 → s.heap.size ≤ q k) (hE : gEv D cI cJ cD s) (hXe : gXe sa (fun a => s.heap.size ≤ a) s s.heap) (N : Nat) (k : Nat) (hk : 5 * k ≤ L) (Tn : Int32) (Ta : (Nat → Int32)) (Fn : Int32) (Fa : (Nat → Int32)) (Ba : (Nat → Int32)) (Rn : Int32) (Ra : (Nat → Int32)) (Rb : (Nat → Int32)) (Rd : (Nat → Int32)) (Ua : (Nat → Int32)) (Wg : Int32) (Wz : Int32) (Ww : Int32) (Wr : Int32) (Mh : Int32) (Mn : Int32) (Mm : Int32) (Mt : (Nat → Int32)) (Mk : (Nat → Int32)) (Ms : (Nat → Int32)) (Me : (Nat → Int32)) (Mp : (Nat → Int32)) (Mw : (Nat → Int32)) (Ml : (Nat → Int32)) (My : (Nat → Int64)) (Oa : (Nat → Int64)) (Od : (Nat → UInt64)) (hf : fL_law_J629 N L xs Tn Ta Fn Fa Ba Rn Ra Rb Rd Ua Wg Wz Ww Wr Mh Mn Mm Mt Mk Ms Me Mp Mw Ml My Oa Od = some 1) : ∀ (H : Heap) (locs : List Loc), va_P D vwCl (w_0_1_2_3_4_5_6_7_8_9_10_11_12_13_14_15_16_17_18_19_20_21_22_23_24 q cI cJ cD Tn Ta Fn Fa Ba Rn Ra Rb Rd Ua Wg Wz Ww Wr Mh Mn Mm Mt Mk Ms Me Mp Mw Ml My Oa Od) H → va_S (fun a : Nat => s.heap.size ≤ a) s.heap H locs → ∀ ls : Array Slot, lv_has ls 10 [] → W p l e room_1 s m #[Value.ref b] below meth c H locs (25 + k + 1) (1025 + 6 * k + 6) (lw_Z below #[Value.ref b] s) (F0 m 629 ls []) := by
  obtain ⟨hx, hb, hr, hml, hown, hts0, hX, hbl, hlocks, hgv⟩ := id C0
  have hown : s.vm.findClass RL = some m.cls := hown
  have hts : ∀ w ∈ wsL_law, w.before #[Value.ref b] s = true := fun w h => hts0 w (wsL_law_in w h)
  have hbA : ¬ (fun a : Nat => s.heap.size ≤ a) b := Nat.not_le.mpr hbl
  intro H locs hP hS ls hl
  unfold fL_law_J629 at hf
  refine lv_iconst (v := (0 : Int32)) hx hb dL_law_629 (by decide) ?_
  exact absurd hf (by decide)
set_option maxHeartbeats 4000000 in
set_option maxRecDepth 100000 in
theorem law_J2679 {p : Program} {l : Launch} {e : Env} {s : State} {m : MethodId} {below : List Frame} {meth : Method} {c : Code} {b L : Nat} {xs : Nat → Int32} (hL : L ≤ 2560) (C0 : lw_At p s m meth c b L xs) (hlt : l.stackTraces = false) (D : va_G) (cI cJ cD : ClassId) (sa : Nat → Nat) (q : Nat → Nat) (hq : gInj q) (hqA : ∀ k, k < 25 → s.heap.size ≤ q k) (hE : gEv D cI cJ cD s) (hXe : gXe sa (fun a => s.heap.size ≤ a) s s.heap) (N : Nat) (k : Nat) (hk : 5 * k ≤ L) (Tn : Int32) (Ta : (Nat → Int32)) (Fn : Int32) (Fa : (Nat → Int32)) (Ba : (Nat → Int32)) (Rn : Int32) (Ra : (Nat → Int32)) (Rb : (Nat → Int32)) (Rd : (Nat → Int32)) (Ua : (Nat → Int32)) (Wg : Int32) (Wz : Int32) (Ww : Int32) (Wr : Int32) (Mh : Int32) (Mn : Int32) (Mm : Int32) (Mt : (Nat → Int32)) (Mk : (Nat → Int32)) (Ms : (Nat → Int32)) (Me : (Nat → Int32)) (Mp : (Nat → Int32)) (Mw : (Nat → Int32)) (Ml : (Nat → Int32)) (My : (Nat → Int64)) (Oa : (Nat → Int64)) (Od : (Nat → UInt64)) (hf : fL_law_J2679 N L xs Tn Ta Fn Fa Ba Rn Ra Rb Rd Ua Wg Wz Ww Wr Mh Mn Mm Mt Mk Ms Me Mp Mw Ml My Oa Od = some 1) : ∀ (H : Heap) (locs : List Loc), va_P D vwCl (w_0_1_2_3_4_5_6_7_8_9_10_11_12_13_14_15_16_17_18_19_20_21_22_23_24 q cI cJ cD Tn Ta Fn Fa Ba Rn Ra Rb Rd Ua Wg Wz Ww Wr Mh Mn Mm Mt Mk Ms Me Mp Mw Ml My Oa Od) H → va_S (fun a : Nat => s.heap.size ≤ a) s.heap H locs → ∀ ls : Array Slot, lv_has ls 10 [] → W p l e room_1 s m #[Value.ref b] below meth c H locs (25 + k + 1) (1025 + 6 * k + 6) (lw_Z below #[Value.ref b] s) (F0 m 2679 ls []) := by
  obtain ⟨hx, hb, hr, hml, hown, hts0, hX, hbl, hlocks, hgv⟩ := id C0
  have hown : s.vm.findClass RL = some m.cls := hown
  have hts : ∀ w ∈ wsL_law, w.before #[Value.ref b] s = true := fun w h => hts0 w (wsL_law_in w h)
  have hbA : ¬ (fun a : Nat => s.heap.size ≤ a) b := Nat.not_le.mpr hbl
  intro H locs hP hS ls hl
  unfold fL_law_J2679 at hf
  refine lv_iconst (v := (0 : Int32)) hx hb dL_law_2679 (by decide) ?_
  exact absurd hf (by decide)
set_option maxHeartbeats 4000000 in
set_option maxRecDepth 100000 in
theorem law_J2172 {p : Program} {l : Launch} {e : Env} {s : State} {m : MethodId} {below : List Frame} {meth : Method} {c : Code} {b L : Nat} {xs : Nat → Int32} (hL : L ≤ 2560) (C0 : lw_At p s m meth c b L xs) (hlt : l.stackTraces = false) (D : va_G) (cI cJ cD : ClassId) (sa : Nat → Nat) (q : Nat → Nat) (hq : gInj q) (hqA : ∀ k, k < 25 → s.heap.size ≤ q k) (hE : gEv D cI cJ cD s) (hXe : gXe sa (fun a => s.heap.size ≤ a) s s.heap) (N : Nat) (k : Nat) (hk : 5 * k ≤ L) (Tn : Int32) (Ta : (Nat → Int32)) (Fn : Int32) (Fa : (Nat → Int32)) (Ba : (Nat → Int32)) (Rn : Int32) (Ra : (Nat → Int32)) (Rb : (Nat → Int32)) (Rd : (Nat → Int32)) (Ua : (Nat → Int32)) (Wg : Int32) (Wz : Int32) (Ww : Int32) (Wr : Int32) (Mh : Int32) (Mn : Int32) (Mm : Int32) (Mt : (Nat → Int32)) (Mk : (Nat → Int32)) (Ms : (Nat → Int32)) (Me : (Nat → Int32)) (Mp : (Nat → Int32)) (Mw : (Nat → Int32)) (Ml : (Nat → Int32)) (My : (Nat → Int64)) (Oa : (Nat → Int64)) (Od : (Nat → UInt64)) (hf : fL_law_J2172 N L xs Tn Ta Fn Fa Ba Rn Ra Rb Rd Ua Wg Wz Ww Wr Mh Mn Mm Mt Mk Ms Me Mp Mw Ml My Oa Od = some 1) : ∀ (H : Heap) (locs : List Loc), va_P D vwCl (w_0_1_2_3_4_5_6_7_8_9_10_11_12_13_14_15_16_17_18_19_20_21_22_23_24 q cI cJ cD Tn Ta Fn Fa Ba Rn Ra Rb Rd Ua Wg Wz Ww Wr Mh Mn Mm Mt Mk Ms Me Mp Mw Ml My Oa Od) H → va_S (fun a : Nat => s.heap.size ≤ a) s.heap H locs → ∀ ls : Array Slot, lv_has ls 10 [] → W p l e room_1 s m #[Value.ref b] below meth c H locs (25 + k + 1) (1025 + 6 * k + 6) (lw_Z below #[Value.ref b] s) (F0 m 2172 ls []) := by
  obtain ⟨hx, hb, hr, hml, hown, hts0, hX, hbl, hlocks, hgv⟩ := id C0
  have hown : s.vm.findClass RL = some m.cls := hown
  have hts : ∀ w ∈ wsL_law, w.before #[Value.ref b] s = true := fun w h => hts0 w (wsL_law_in w h)
  have hbA : ¬ (fun a : Nat => s.heap.size ≤ a) b := Nat.not_le.mpr hbl
  intro H locs hP hS ls hl
  unfold fL_law_J2172 at hf
  refine lv_iconst (v := (0 : Int32)) hx hb dL_law_2172 (by decide) ?_
  exact absurd hf (by decide)
set_option maxHeartbeats 4000000 in
set_option maxRecDepth 100000 in
theorem law_J1150 {p : Program} {l : Launch} {e : Env} {s : State} {m : MethodId} {below : List Frame} {meth : Method} {c : Code} {b L : Nat} {xs : Nat → Int32} (hL : L ≤ 2560) (C0 : lw_At p s m meth c b L xs) (hlt : l.stackTraces = false) (D : va_G) (cI cJ cD : ClassId) (sa : Nat → Nat) (q : Nat → Nat) (hq : gInj q) (hqA : ∀ k, k < 25 → s.heap.size ≤ q k) (hE : gEv D cI cJ cD s) (hXe : gXe sa (fun a => s.heap.size ≤ a) s s.heap) (N : Nat) (k : Nat) (hk : 5 * k ≤ L) (Tn : Int32) (Ta : (Nat → Int32)) (Fn : Int32) (Fa : (Nat → Int32)) (Ba : (Nat → Int32)) (Rn : Int32) (Ra : (Nat → Int32)) (Rb : (Nat → Int32)) (Rd : (Nat → Int32)) (Ua : (Nat → Int32)) (Wg : Int32) (Wz : Int32) (Ww : Int32) (Wr : Int32) (Mh : Int32) (Mn : Int32) (Mm : Int32) (Mt : (Nat → Int32)) (Mk : (Nat → Int32)) (Ms : (Nat → Int32)) (Me : (Nat → Int32)) (Mp : (Nat → Int32)) (Mw : (Nat → Int32)) (Ml : (Nat → Int32)) (My : (Nat → Int64)) (Oa : (Nat → Int64)) (Od : (Nat → UInt64)) (hf : fL_law_J1150 N L xs Tn Ta Fn Fa Ba Rn Ra Rb Rd Ua Wg Wz Ww Wr Mh Mn Mm Mt Mk Ms Me Mp Mw Ml My Oa Od = some 1) : ∀ (H : Heap) (locs : List Loc), va_P D vwCl (w_0_1_2_3_4_5_6_7_8_9_10_11_12_13_14_15_16_17_18_19_20_21_22_23_24 q cI cJ cD Tn Ta Fn Fa Ba Rn Ra Rb Rd Ua Wg Wz Ww Wr Mh Mn Mm Mt Mk Ms Me Mp Mw Ml My Oa Od) H → va_S (fun a : Nat => s.heap.size ≤ a) s.heap H locs → ∀ ls : Array Slot, lv_has ls 10 [] → W p l e room_1 s m #[Value.ref b] below meth c H locs (25 + k + 1) (1025 + 6 * k + 6) (lw_Z below #[Value.ref b] s) (F0 m 1150 ls []) := by
  obtain ⟨hx, hb, hr, hml, hown, hts0, hX, hbl, hlocks, hgv⟩ := id C0
  have hown : s.vm.findClass RL = some m.cls := hown
  have hts : ∀ w ∈ wsL_law, w.before #[Value.ref b] s = true := fun w h => hts0 w (wsL_law_in w h)
  have hbA : ¬ (fun a : Nat => s.heap.size ≤ a) b := Nat.not_le.mpr hbl
  intro H locs hP hS ls hl
  unfold fL_law_J1150 at hf
  refine lv_iconst (v := (0 : Int32)) hx hb dL_law_1150 (by decide) ?_
  exact absurd hf (by decide)
set_option maxHeartbeats 4000000 in
set_option maxRecDepth 100000 in
theorem law_J1669 {p : Program} {l : Launch} {e : Env} {s : State} {m : MethodId} {below : List Frame} {meth : Method} {c : Code} {b L : Nat} {xs : Nat → Int32} (hL : L ≤ 2560) (C0 : lw_At p s m meth c b L xs) (hlt : l.stackTraces = false) (D : va_G) (cI cJ cD : ClassId) (sa : Nat → Nat) (q : Nat → Nat) (hq : gInj q) (hqA : ∀ k, k < 25 → s.heap.size ≤ q k) (hE : gEv D cI cJ cD s) (hXe : gXe sa (fun a => s.heap.size ≤ a) s s.heap) (N : Nat) (k : Nat) (hk : 5 * k ≤ L) (Tn : Int32) (Ta : (Nat → Int32)) (Fn : Int32) (Fa : (Nat → Int32)) (Ba : (Nat → Int32)) (Rn : Int32) (Ra : (Nat → Int32)) (Rb : (Nat → Int32)) (Rd : (Nat → Int32)) (Ua : (Nat → Int32)) (Wg : Int32) (Wz : Int32) (Ww : Int32) (Wr : Int32) (Mh : Int32) (Mn : Int32) (Mm : Int32) (Mt : (Nat → Int32)) (Mk : (Nat → Int32)) (Ms : (Nat → Int32)) (Me : (Nat → Int32)) (Mp : (Nat → Int32)) (Mw : (Nat → Int32)) (Ml : (Nat → Int32)) (My : (Nat → Int64)) (Oa : (Nat → Int64)) (Od : (Nat → UInt64)) (hf : fL_law_J1669 N L xs Tn Ta Fn Fa Ba Rn Ra Rb Rd Ua Wg Wz Ww Wr Mh Mn Mm Mt Mk Ms Me Mp Mw Ml My Oa Od = some 1) : ∀ (H : Heap) (locs : List Loc), va_P D vwCl (w_0_1_2_3_4_5_6_7_8_9_10_11_12_13_14_15_16_17_18_19_20_21_22_23_24 q cI cJ cD Tn Ta Fn Fa Ba Rn Ra Rb Rd Ua Wg Wz Ww Wr Mh Mn Mm Mt Mk Ms Me Mp Mw Ml My Oa Od) H → va_S (fun a : Nat => s.heap.size ≤ a) s.heap H locs → ∀ ls : Array Slot, lv_has ls 10 [] → W p l e room_1 s m #[Value.ref b] below meth c H locs (25 + k + 1) (1025 + 6 * k + 6) (lw_Z below #[Value.ref b] s) (F0 m 1669 ls []) := by
  obtain ⟨hx, hb, hr, hml, hown, hts0, hX, hbl, hlocks, hgv⟩ := id C0
  have hown : s.vm.findClass RL = some m.cls := hown
  have hts : ∀ w ∈ wsL_law, w.before #[Value.ref b] s = true := fun w h => hts0 w (wsL_law_in w h)
  have hbA : ¬ (fun a : Nat => s.heap.size ≤ a) b := Nat.not_le.mpr hbl
  intro H locs hP hS ls hl
  unfold fL_law_J1669 at hf
  refine lv_iconst (v := (0 : Int32)) hx hb dL_law_1669 (by decide) ?_
  exact absurd hf (by decide)
set_option maxHeartbeats 4000000 in
set_option maxRecDepth 100000 in
theorem law_J1693 {p : Program} {l : Launch} {e : Env} {s : State} {m : MethodId} {below : List Frame} {meth : Method} {c : Code} {b L : Nat} {xs : Nat → Int32} (hL : L ≤ 2560) (C0 : lw_At p s m meth c b L xs) (hlt : l.stackTraces = false) (D : va_G) (cI cJ cD : ClassId) (sa : Nat → Nat) (q : Nat → Nat) (hq : gInj q) (hqA : ∀ k, k < 25 → s.heap.size ≤ q k) (hE : gEv D cI cJ cD s) (hXe : gXe sa (fun a => s.heap.size ≤ a) s s.heap) (N : Nat) (k : Nat) (hk : 5 * k ≤ L) (Tn : Int32) (Ta : (Nat → Int32)) (Fn : Int32) (Fa : (Nat → Int32)) (Ba : (Nat → Int32)) (Rn : Int32) (Ra : (Nat → Int32)) (Rb : (Nat → Int32)) (Rd : (Nat → Int32)) (Ua : (Nat → Int32)) (Wg : Int32) (Wz : Int32) (Ww : Int32) (Wr : Int32) (Mh : Int32) (Mn : Int32) (Mm : Int32) (Mt : (Nat → Int32)) (Mk : (Nat → Int32)) (Ms : (Nat → Int32)) (Me : (Nat → Int32)) (Mp : (Nat → Int32)) (Mw : (Nat → Int32)) (Ml : (Nat → Int32)) (My : (Nat → Int64)) (Oa : (Nat → Int64)) (Od : (Nat → UInt64)) (hf : fL_law_J1693 N L xs Tn Ta Fn Fa Ba Rn Ra Rb Rd Ua Wg Wz Ww Wr Mh Mn Mm Mt Mk Ms Me Mp Mw Ml My Oa Od = some 1) : ∀ (H : Heap) (locs : List Loc), va_P D vwCl (w_0_1_2_3_4_5_6_7_8_9_10_11_12_13_14_15_16_17_18_19_20_21_22_23_24 q cI cJ cD Tn Ta Fn Fa Ba Rn Ra Rb Rd Ua Wg Wz Ww Wr Mh Mn Mm Mt Mk Ms Me Mp Mw Ml My Oa Od) H → va_S (fun a : Nat => s.heap.size ≤ a) s.heap H locs → ∀ ls : Array Slot, lv_has ls 10 [] → W p l e room_1 s m #[Value.ref b] below meth c H locs (25 + k + 1) (1025 + 6 * k + 6) (lw_Z below #[Value.ref b] s) (F0 m 1693 ls []) := by
  obtain ⟨hx, hb, hr, hml, hown, hts0, hX, hbl, hlocks, hgv⟩ := id C0
  have hown : s.vm.findClass RL = some m.cls := hown
  have hts : ∀ w ∈ wsL_law, w.before #[Value.ref b] s = true := fun w h => hts0 w (wsL_law_in w h)
  have hbA : ¬ (fun a : Nat => s.heap.size ≤ a) b := Nat.not_le.mpr hbl
  intro H locs hP hS ls hl
  unfold fL_law_J1693 at hf
  refine lv_iconst (v := (0 : Int32)) hx hb dL_law_1693 (by decide) ?_
  exact absurd hf (by decide)
set_option maxHeartbeats 4000000 in
set_option maxRecDepth 100000 in
theorem law_J2209 {p : Program} {l : Launch} {e : Env} {s : State} {m : MethodId} {below : List Frame} {meth : Method} {c : Code} {b L : Nat} {xs : Nat → Int32} (hL : L ≤ 2560) (C0 : lw_At p s m meth c b L xs) (hlt : l.stackTraces = false) (D : va_G) (cI cJ cD : ClassId) (sa : Nat → Nat) (q : Nat → Nat) (hq : gInj q) (hqA : ∀ k, k < 25 → s.heap.size ≤ q k) (hE : gEv D cI cJ cD s) (hXe : gXe sa (fun a => s.heap.size ≤ a) s s.heap) (N : Nat) (k : Nat) (hk : 5 * k ≤ L) (Tn : Int32) (Ta : (Nat → Int32)) (Fn : Int32) (Fa : (Nat → Int32)) (Ba : (Nat → Int32)) (Rn : Int32) (Ra : (Nat → Int32)) (Rb : (Nat → Int32)) (Rd : (Nat → Int32)) (Ua : (Nat → Int32)) (Wg : Int32) (Wz : Int32) (Ww : Int32) (Wr : Int32) (Mh : Int32) (Mn : Int32) (Mm : Int32) (Mt : (Nat → Int32)) (Mk : (Nat → Int32)) (Ms : (Nat → Int32)) (Me : (Nat → Int32)) (Mp : (Nat → Int32)) (Mw : (Nat → Int32)) (Ml : (Nat → Int32)) (My : (Nat → Int64)) (Oa : (Nat → Int64)) (Od : (Nat → UInt64)) (hf : fL_law_J2209 N L xs Tn Ta Fn Fa Ba Rn Ra Rb Rd Ua Wg Wz Ww Wr Mh Mn Mm Mt Mk Ms Me Mp Mw Ml My Oa Od = some 1) : ∀ (H : Heap) (locs : List Loc), va_P D vwCl (w_0_1_2_3_4_5_6_7_8_9_10_11_12_13_14_15_16_17_18_19_20_21_22_23_24 q cI cJ cD Tn Ta Fn Fa Ba Rn Ra Rb Rd Ua Wg Wz Ww Wr Mh Mn Mm Mt Mk Ms Me Mp Mw Ml My Oa Od) H → va_S (fun a : Nat => s.heap.size ≤ a) s.heap H locs → ∀ ls : Array Slot, lv_has ls 10 [] → W p l e room_1 s m #[Value.ref b] below meth c H locs (25 + k + 1) (1025 + 6 * k + 6) (lw_Z below #[Value.ref b] s) (F0 m 2209 ls []) := by
  obtain ⟨hx, hb, hr, hml, hown, hts0, hX, hbl, hlocks, hgv⟩ := id C0
  have hown : s.vm.findClass RL = some m.cls := hown
  have hts : ∀ w ∈ wsL_law, w.before #[Value.ref b] s = true := fun w h => hts0 w (wsL_law_in w h)
  have hbA : ¬ (fun a : Nat => s.heap.size ≤ a) b := Nat.not_le.mpr hbl
  intro H locs hP hS ls hl
  unfold fL_law_J2209 at hf
  refine lv_iconst (v := (0 : Int32)) hx hb dL_law_2209 (by decide) ?_
  exact absurd hf (by decide)
set_option maxHeartbeats 4000000 in
set_option maxRecDepth 100000 in
theorem law_J1189 {p : Program} {l : Launch} {e : Env} {s : State} {m : MethodId} {below : List Frame} {meth : Method} {c : Code} {b L : Nat} {xs : Nat → Int32} (hL : L ≤ 2560) (C0 : lw_At p s m meth c b L xs) (hlt : l.stackTraces = false) (D : va_G) (cI cJ cD : ClassId) (sa : Nat → Nat) (q : Nat → Nat) (hq : gInj q) (hqA : ∀ k, k < 25 → s.heap.size ≤ q k) (hE : gEv D cI cJ cD s) (hXe : gXe sa (fun a => s.heap.size ≤ a) s s.heap) (N : Nat) (k : Nat) (hk : 5 * k ≤ L) (Tn : Int32) (Ta : (Nat → Int32)) (Fn : Int32) (Fa : (Nat → Int32)) (Ba : (Nat → Int32)) (Rn : Int32) (Ra : (Nat → Int32)) (Rb : (Nat → Int32)) (Rd : (Nat → Int32)) (Ua : (Nat → Int32)) (Wg : Int32) (Wz : Int32) (Ww : Int32) (Wr : Int32) (Mh : Int32) (Mn : Int32) (Mm : Int32) (Mt : (Nat → Int32)) (Mk : (Nat → Int32)) (Ms : (Nat → Int32)) (Me : (Nat → Int32)) (Mp : (Nat → Int32)) (Mw : (Nat → Int32)) (Ml : (Nat → Int32)) (My : (Nat → Int64)) (Oa : (Nat → Int64)) (Od : (Nat → UInt64)) (hf : fL_law_J1189 N L xs Tn Ta Fn Fa Ba Rn Ra Rb Rd Ua Wg Wz Ww Wr Mh Mn Mm Mt Mk Ms Me Mp Mw Ml My Oa Od = some 1) : ∀ (H : Heap) (locs : List Loc), va_P D vwCl (w_0_1_2_3_4_5_6_7_8_9_10_11_12_13_14_15_16_17_18_19_20_21_22_23_24 q cI cJ cD Tn Ta Fn Fa Ba Rn Ra Rb Rd Ua Wg Wz Ww Wr Mh Mn Mm Mt Mk Ms Me Mp Mw Ml My Oa Od) H → va_S (fun a : Nat => s.heap.size ≤ a) s.heap H locs → ∀ ls : Array Slot, lv_has ls 10 [] → W p l e room_1 s m #[Value.ref b] below meth c H locs (25 + k + 1) (1025 + 6 * k + 6) (lw_Z below #[Value.ref b] s) (F0 m 1189 ls []) := by
  obtain ⟨hx, hb, hr, hml, hown, hts0, hX, hbl, hlocks, hgv⟩ := id C0
  have hown : s.vm.findClass RL = some m.cls := hown
  have hts : ∀ w ∈ wsL_law, w.before #[Value.ref b] s = true := fun w h => hts0 w (wsL_law_in w h)
  have hbA : ¬ (fun a : Nat => s.heap.size ≤ a) b := Nat.not_le.mpr hbl
  intro H locs hP hS ls hl
  unfold fL_law_J1189 at hf
  refine lv_iconst (v := (0 : Int32)) hx hb dL_law_1189 (by decide) ?_
  exact absurd hf (by decide)
set_option maxHeartbeats 4000000 in
set_option maxRecDepth 100000 in
theorem law_J680 {p : Program} {l : Launch} {e : Env} {s : State} {m : MethodId} {below : List Frame} {meth : Method} {c : Code} {b L : Nat} {xs : Nat → Int32} (hL : L ≤ 2560) (C0 : lw_At p s m meth c b L xs) (hlt : l.stackTraces = false) (D : va_G) (cI cJ cD : ClassId) (sa : Nat → Nat) (q : Nat → Nat) (hq : gInj q) (hqA : ∀ k, k < 25 → s.heap.size ≤ q k) (hE : gEv D cI cJ cD s) (hXe : gXe sa (fun a => s.heap.size ≤ a) s s.heap) (N : Nat) (k : Nat) (hk : 5 * k ≤ L) (Tn : Int32) (Ta : (Nat → Int32)) (Fn : Int32) (Fa : (Nat → Int32)) (Ba : (Nat → Int32)) (Rn : Int32) (Ra : (Nat → Int32)) (Rb : (Nat → Int32)) (Rd : (Nat → Int32)) (Ua : (Nat → Int32)) (Wg : Int32) (Wz : Int32) (Ww : Int32) (Wr : Int32) (Mh : Int32) (Mn : Int32) (Mm : Int32) (Mt : (Nat → Int32)) (Mk : (Nat → Int32)) (Ms : (Nat → Int32)) (Me : (Nat → Int32)) (Mp : (Nat → Int32)) (Mw : (Nat → Int32)) (Ml : (Nat → Int32)) (My : (Nat → Int64)) (Oa : (Nat → Int64)) (Od : (Nat → UInt64)) (hf : fL_law_J680 N L xs Tn Ta Fn Fa Ba Rn Ra Rb Rd Ua Wg Wz Ww Wr Mh Mn Mm Mt Mk Ms Me Mp Mw Ml My Oa Od = some 1) : ∀ (H : Heap) (locs : List Loc), va_P D vwCl (w_0_1_2_3_4_5_6_7_8_9_10_11_12_13_14_15_16_17_18_19_20_21_22_23_24 q cI cJ cD Tn Ta Fn Fa Ba Rn Ra Rb Rd Ua Wg Wz Ww Wr Mh Mn Mm Mt Mk Ms Me Mp Mw Ml My Oa Od) H → va_S (fun a : Nat => s.heap.size ≤ a) s.heap H locs → ∀ ls : Array Slot, lv_has ls 10 [] → W p l e room_1 s m #[Value.ref b] below meth c H locs (25 + k + 1) (1025 + 6 * k + 6) (lw_Z below #[Value.ref b] s) (F0 m 680 ls []) := by
  obtain ⟨hx, hb, hr, hml, hown, hts0, hX, hbl, hlocks, hgv⟩ := id C0
  have hown : s.vm.findClass RL = some m.cls := hown
  have hts : ∀ w ∈ wsL_law, w.before #[Value.ref b] s = true := fun w h => hts0 w (wsL_law_in w h)
  have hbA : ¬ (fun a : Nat => s.heap.size ≤ a) b := Nat.not_le.mpr hbl
  intro H locs hP hS ls hl
  unfold fL_law_J680 at hf
  refine lv_iconst (v := (0 : Int32)) hx hb dL_law_680 (by decide) ?_
  exact absurd hf (by decide)
set_option maxHeartbeats 4000000 in
set_option maxRecDepth 100000 in
theorem law_J2730 {p : Program} {l : Launch} {e : Env} {s : State} {m : MethodId} {below : List Frame} {meth : Method} {c : Code} {b L : Nat} {xs : Nat → Int32} (hL : L ≤ 2560) (C0 : lw_At p s m meth c b L xs) (hlt : l.stackTraces = false) (D : va_G) (cI cJ cD : ClassId) (sa : Nat → Nat) (q : Nat → Nat) (hq : gInj q) (hqA : ∀ k, k < 25 → s.heap.size ≤ q k) (hE : gEv D cI cJ cD s) (hXe : gXe sa (fun a => s.heap.size ≤ a) s s.heap) (N : Nat) (k : Nat) (hk : 5 * k ≤ L) (Tn : Int32) (Ta : (Nat → Int32)) (Fn : Int32) (Fa : (Nat → Int32)) (Ba : (Nat → Int32)) (Rn : Int32) (Ra : (Nat → Int32)) (Rb : (Nat → Int32)) (Rd : (Nat → Int32)) (Ua : (Nat → Int32)) (Wg : Int32) (Wz : Int32) (Ww : Int32) (Wr : Int32) (Mh : Int32) (Mn : Int32) (Mm : Int32) (Mt : (Nat → Int32)) (Mk : (Nat → Int32)) (Ms : (Nat → Int32)) (Me : (Nat → Int32)) (Mp : (Nat → Int32)) (Mw : (Nat → Int32)) (Ml : (Nat → Int32)) (My : (Nat → Int64)) (Oa : (Nat → Int64)) (Od : (Nat → UInt64)) (hf : fL_law_J2730 N L xs Tn Ta Fn Fa Ba Rn Ra Rb Rd Ua Wg Wz Ww Wr Mh Mn Mm Mt Mk Ms Me Mp Mw Ml My Oa Od = some 1) : ∀ (H : Heap) (locs : List Loc), va_P D vwCl (w_0_1_2_3_4_5_6_7_8_9_10_11_12_13_14_15_16_17_18_19_20_21_22_23_24 q cI cJ cD Tn Ta Fn Fa Ba Rn Ra Rb Rd Ua Wg Wz Ww Wr Mh Mn Mm Mt Mk Ms Me Mp Mw Ml My Oa Od) H → va_S (fun a : Nat => s.heap.size ≤ a) s.heap H locs → ∀ ls : Array Slot, lv_has ls 10 [] → W p l e room_1 s m #[Value.ref b] below meth c H locs (25 + k + 1) (1025 + 6 * k + 6) (lw_Z below #[Value.ref b] s) (F0 m 2730 ls []) := by
  obtain ⟨hx, hb, hr, hml, hown, hts0, hX, hbl, hlocks, hgv⟩ := id C0
  have hown : s.vm.findClass RL = some m.cls := hown
  have hts : ∀ w ∈ wsL_law, w.before #[Value.ref b] s = true := fun w h => hts0 w (wsL_law_in w h)
  have hbA : ¬ (fun a : Nat => s.heap.size ≤ a) b := Nat.not_le.mpr hbl
  intro H locs hP hS ls hl
  unfold fL_law_J2730 at hf
  refine lv_iconst (v := (0 : Int32)) hx hb dL_law_2730 (by decide) ?_
  exact absurd hf (by decide)
set_option maxHeartbeats 4000000 in
set_option maxRecDepth 100000 in
theorem law_J2225 {p : Program} {l : Launch} {e : Env} {s : State} {m : MethodId} {below : List Frame} {meth : Method} {c : Code} {b L : Nat} {xs : Nat → Int32} (hL : L ≤ 2560) (C0 : lw_At p s m meth c b L xs) (hlt : l.stackTraces = false) (D : va_G) (cI cJ cD : ClassId) (sa : Nat → Nat) (q : Nat → Nat) (hq : gInj q) (hqA : ∀ k, k < 25 → s.heap.size ≤ q k) (hE : gEv D cI cJ cD s) (hXe : gXe sa (fun a => s.heap.size ≤ a) s s.heap) (N : Nat) (k : Nat) (hk : 5 * k ≤ L) (Tn : Int32) (Ta : (Nat → Int32)) (Fn : Int32) (Fa : (Nat → Int32)) (Ba : (Nat → Int32)) (Rn : Int32) (Ra : (Nat → Int32)) (Rb : (Nat → Int32)) (Rd : (Nat → Int32)) (Ua : (Nat → Int32)) (Wg : Int32) (Wz : Int32) (Ww : Int32) (Wr : Int32) (Mh : Int32) (Mn : Int32) (Mm : Int32) (Mt : (Nat → Int32)) (Mk : (Nat → Int32)) (Ms : (Nat → Int32)) (Me : (Nat → Int32)) (Mp : (Nat → Int32)) (Mw : (Nat → Int32)) (Ml : (Nat → Int32)) (My : (Nat → Int64)) (Oa : (Nat → Int64)) (Od : (Nat → UInt64)) (hf : fL_law_J2225 N L xs Tn Ta Fn Fa Ba Rn Ra Rb Rd Ua Wg Wz Ww Wr Mh Mn Mm Mt Mk Ms Me Mp Mw Ml My Oa Od = some 1) : ∀ (H : Heap) (locs : List Loc), va_P D vwCl (w_0_1_2_3_4_5_6_7_8_9_10_11_12_13_14_15_16_17_18_19_20_21_22_23_24 q cI cJ cD Tn Ta Fn Fa Ba Rn Ra Rb Rd Ua Wg Wz Ww Wr Mh Mn Mm Mt Mk Ms Me Mp Mw Ml My Oa Od) H → va_S (fun a : Nat => s.heap.size ≤ a) s.heap H locs → ∀ ls : Array Slot, lv_has ls 10 [] → W p l e room_1 s m #[Value.ref b] below meth c H locs (25 + k) (1025 + 6 * k) (lw_Z below #[Value.ref b] s) (F0 m 2225 ls []) := by
  obtain ⟨hx, hb, hr, hml, hown, hts0, hX, hbl, hlocks, hgv⟩ := id C0
  have hown : s.vm.findClass RL = some m.cls := hown
  have hts : ∀ w ∈ wsL_law, w.before #[Value.ref b] s = true := fun w h => hts0 w (wsL_law_in w h)
  have hbA : ¬ (fun a : Nat => s.heap.size ≤ a) b := Nat.not_le.mpr hbl
  intro H locs hP hS ls hl
  unfold fL_law_J2225 at hf
  refine lv_iconst (v := (0 : Int32)) hx hb dL_law_2225 (by decide) ?_
  exact absurd hf (by decide)
set_option maxHeartbeats 4000000 in
set_option maxRecDepth 100000 in
theorem law_J1206 {p : Program} {l : Launch} {e : Env} {s : State} {m : MethodId} {below : List Frame} {meth : Method} {c : Code} {b L : Nat} {xs : Nat → Int32} (hL : L ≤ 2560) (C0 : lw_At p s m meth c b L xs) (hlt : l.stackTraces = false) (D : va_G) (cI cJ cD : ClassId) (sa : Nat → Nat) (q : Nat → Nat) (hq : gInj q) (hqA : ∀ k, k < 25 → s.heap.size ≤ q k) (hE : gEv D cI cJ cD s) (hXe : gXe sa (fun a => s.heap.size ≤ a) s s.heap) (N : Nat) (k : Nat) (hk : 5 * k ≤ L) (Tn : Int32) (Ta : (Nat → Int32)) (Fn : Int32) (Fa : (Nat → Int32)) (Ba : (Nat → Int32)) (Rn : Int32) (Ra : (Nat → Int32)) (Rb : (Nat → Int32)) (Rd : (Nat → Int32)) (Ua : (Nat → Int32)) (Wg : Int32) (Wz : Int32) (Ww : Int32) (Wr : Int32) (Mh : Int32) (Mn : Int32) (Mm : Int32) (Mt : (Nat → Int32)) (Mk : (Nat → Int32)) (Ms : (Nat → Int32)) (Me : (Nat → Int32)) (Mp : (Nat → Int32)) (Mw : (Nat → Int32)) (Ml : (Nat → Int32)) (My : (Nat → Int64)) (Oa : (Nat → Int64)) (Od : (Nat → UInt64)) (hf : fL_law_J1206 N L xs Tn Ta Fn Fa Ba Rn Ra Rb Rd Ua Wg Wz Ww Wr Mh Mn Mm Mt Mk Ms Me Mp Mw Ml My Oa Od = some 1) : ∀ (H : Heap) (locs : List Loc), va_P D vwCl (w_0_1_2_3_4_5_6_7_8_9_10_11_12_13_14_15_16_17_18_19_20_21_22_23_24 q cI cJ cD Tn Ta Fn Fa Ba Rn Ra Rb Rd Ua Wg Wz Ww Wr Mh Mn Mm Mt Mk Ms Me Mp Mw Ml My Oa Od) H → va_S (fun a : Nat => s.heap.size ≤ a) s.heap H locs → ∀ ls : Array Slot, lv_has ls 10 [] → W p l e room_1 s m #[Value.ref b] below meth c H locs (25 + k + 1) (1025 + 6 * k + 6) (lw_Z below #[Value.ref b] s) (F0 m 1206 ls []) := by
  obtain ⟨hx, hb, hr, hml, hown, hts0, hX, hbl, hlocks, hgv⟩ := id C0
  have hown : s.vm.findClass RL = some m.cls := hown
  have hts : ∀ w ∈ wsL_law, w.before #[Value.ref b] s = true := fun w h => hts0 w (wsL_law_in w h)
  have hbA : ¬ (fun a : Nat => s.heap.size ≤ a) b := Nat.not_le.mpr hbl
  intro H locs hP hS ls hl
  unfold fL_law_J1206 at hf
  refine lv_iconst (v := (0 : Int32)) hx hb dL_law_1206 (by decide) ?_
  exact absurd hf (by decide)
set_option maxHeartbeats 4000000 in
set_option maxRecDepth 100000 in
theorem law_J697 {p : Program} {l : Launch} {e : Env} {s : State} {m : MethodId} {below : List Frame} {meth : Method} {c : Code} {b L : Nat} {xs : Nat → Int32} (hL : L ≤ 2560) (C0 : lw_At p s m meth c b L xs) (hlt : l.stackTraces = false) (D : va_G) (cI cJ cD : ClassId) (sa : Nat → Nat) (q : Nat → Nat) (hq : gInj q) (hqA : ∀ k, k < 25 → s.heap.size ≤ q k) (hE : gEv D cI cJ cD s) (hXe : gXe sa (fun a => s.heap.size ≤ a) s s.heap) (N : Nat) (k : Nat) (hk : 5 * k ≤ L) (Tn : Int32) (Ta : (Nat → Int32)) (Fn : Int32) (Fa : (Nat → Int32)) (Ba : (Nat → Int32)) (Rn : Int32) (Ra : (Nat → Int32)) (Rb : (Nat → Int32)) (Rd : (Nat → Int32)) (Ua : (Nat → Int32)) (Wg : Int32) (Wz : Int32) (Ww : Int32) (Wr : Int32) (Mh : Int32) (Mn : Int32) (Mm : Int32) (Mt : (Nat → Int32)) (Mk : (Nat → Int32)) (Ms : (Nat → Int32)) (Me : (Nat → Int32)) (Mp : (Nat → Int32)) (Mw : (Nat → Int32)) (Ml : (Nat → Int32)) (My : (Nat → Int64)) (Oa : (Nat → Int64)) (Od : (Nat → UInt64)) (hf : fL_law_J697 N L xs Tn Ta Fn Fa Ba Rn Ra Rb Rd Ua Wg Wz Ww Wr Mh Mn Mm Mt Mk Ms Me Mp Mw Ml My Oa Od = some 1) : ∀ (H : Heap) (locs : List Loc), va_P D vwCl (w_0_1_2_3_4_5_6_7_8_9_10_11_12_13_14_15_16_17_18_19_20_21_22_23_24 q cI cJ cD Tn Ta Fn Fa Ba Rn Ra Rb Rd Ua Wg Wz Ww Wr Mh Mn Mm Mt Mk Ms Me Mp Mw Ml My Oa Od) H → va_S (fun a : Nat => s.heap.size ≤ a) s.heap H locs → ∀ ls : Array Slot, lv_has ls 10 [] → W p l e room_1 s m #[Value.ref b] below meth c H locs (25 + k + 1) (1025 + 6 * k + 6) (lw_Z below #[Value.ref b] s) (F0 m 697 ls []) := by
  obtain ⟨hx, hb, hr, hml, hown, hts0, hX, hbl, hlocks, hgv⟩ := id C0
  have hown : s.vm.findClass RL = some m.cls := hown
  have hts : ∀ w ∈ wsL_law, w.before #[Value.ref b] s = true := fun w h => hts0 w (wsL_law_in w h)
  have hbA : ¬ (fun a : Nat => s.heap.size ≤ a) b := Nat.not_le.mpr hbl
  intro H locs hP hS ls hl
  unfold fL_law_J697 at hf
  refine lv_iconst (v := (0 : Int32)) hx hb dL_law_697 (by decide) ?_
  exact absurd hf (by decide)
set_option maxHeartbeats 4000000 in
set_option maxRecDepth 100000 in
theorem law_J2746 {p : Program} {l : Launch} {e : Env} {s : State} {m : MethodId} {below : List Frame} {meth : Method} {c : Code} {b L : Nat} {xs : Nat → Int32} (hL : L ≤ 2560) (C0 : lw_At p s m meth c b L xs) (hlt : l.stackTraces = false) (D : va_G) (cI cJ cD : ClassId) (sa : Nat → Nat) (q : Nat → Nat) (hq : gInj q) (hqA : ∀ k, k < 25 → s.heap.size ≤ q k) (hE : gEv D cI cJ cD s) (hXe : gXe sa (fun a => s.heap.size ≤ a) s s.heap) (N : Nat) (k : Nat) (hk : 5 * k ≤ L) (Tn : Int32) (Ta : (Nat → Int32)) (Fn : Int32) (Fa : (Nat → Int32)) (Ba : (Nat → Int32)) (Rn : Int32) (Ra : (Nat → Int32)) (Rb : (Nat → Int32)) (Rd : (Nat → Int32)) (Ua : (Nat → Int32)) (Wg : Int32) (Wz : Int32) (Ww : Int32) (Wr : Int32) (Mh : Int32) (Mn : Int32) (Mm : Int32) (Mt : (Nat → Int32)) (Mk : (Nat → Int32)) (Ms : (Nat → Int32)) (Me : (Nat → Int32)) (Mp : (Nat → Int32)) (Mw : (Nat → Int32)) (Ml : (Nat → Int32)) (My : (Nat → Int64)) (Oa : (Nat → Int64)) (Od : (Nat → UInt64)) (hf : fL_law_J2746 N L xs Tn Ta Fn Fa Ba Rn Ra Rb Rd Ua Wg Wz Ww Wr Mh Mn Mm Mt Mk Ms Me Mp Mw Ml My Oa Od = some 1) : ∀ (H : Heap) (locs : List Loc), va_P D vwCl (w_0_1_2_3_4_5_6_7_8_9_10_11_12_13_14_15_16_17_18_19_20_21_22_23_24 q cI cJ cD Tn Ta Fn Fa Ba Rn Ra Rb Rd Ua Wg Wz Ww Wr Mh Mn Mm Mt Mk Ms Me Mp Mw Ml My Oa Od) H → va_S (fun a : Nat => s.heap.size ≤ a) s.heap H locs → ∀ ls : Array Slot, lv_has ls 10 [] → W p l e room_1 s m #[Value.ref b] below meth c H locs (25 + k + 1) (1025 + 6 * k + 6) (lw_Z below #[Value.ref b] s) (F0 m 2746 ls []) := by
  obtain ⟨hx, hb, hr, hml, hown, hts0, hX, hbl, hlocks, hgv⟩ := id C0
  have hown : s.vm.findClass RL = some m.cls := hown
  have hts : ∀ w ∈ wsL_law, w.before #[Value.ref b] s = true := fun w h => hts0 w (wsL_law_in w h)
  have hbA : ¬ (fun a : Nat => s.heap.size ≤ a) b := Nat.not_le.mpr hbl
  intro H locs hP hS ls hl
  unfold fL_law_J2746 at hf
  refine lv_iconst (v := (0 : Int32)) hx hb dL_law_2746 (by decide) ?_
  exact absurd hf (by decide)
set_option maxHeartbeats 4000000 in
set_option maxRecDepth 100000 in
theorem law_J1744 {p : Program} {l : Launch} {e : Env} {s : State} {m : MethodId} {below : List Frame} {meth : Method} {c : Code} {b L : Nat} {xs : Nat → Int32} (hL : L ≤ 2560) (C0 : lw_At p s m meth c b L xs) (hlt : l.stackTraces = false) (D : va_G) (cI cJ cD : ClassId) (sa : Nat → Nat) (q : Nat → Nat) (hq : gInj q) (hqA : ∀ k, k < 25 → s.heap.size ≤ q k) (hE : gEv D cI cJ cD s) (hXe : gXe sa (fun a => s.heap.size ≤ a) s s.heap) (N : Nat) (k : Nat) (hk : 5 * k ≤ L) (Tn : Int32) (Ta : (Nat → Int32)) (Fn : Int32) (Fa : (Nat → Int32)) (Ba : (Nat → Int32)) (Rn : Int32) (Ra : (Nat → Int32)) (Rb : (Nat → Int32)) (Rd : (Nat → Int32)) (Ua : (Nat → Int32)) (Wg : Int32) (Wz : Int32) (Ww : Int32) (Wr : Int32) (Mh : Int32) (Mn : Int32) (Mm : Int32) (Mt : (Nat → Int32)) (Mk : (Nat → Int32)) (Ms : (Nat → Int32)) (Me : (Nat → Int32)) (Mp : (Nat → Int32)) (Mw : (Nat → Int32)) (Ml : (Nat → Int32)) (My : (Nat → Int64)) (Oa : (Nat → Int64)) (Od : (Nat → UInt64)) (hf : fL_law_J1744 N L xs Tn Ta Fn Fa Ba Rn Ra Rb Rd Ua Wg Wz Ww Wr Mh Mn Mm Mt Mk Ms Me Mp Mw Ml My Oa Od = some 1) : ∀ (H : Heap) (locs : List Loc), va_P D vwCl (w_0_1_2_3_4_5_6_7_8_9_10_11_12_13_14_15_16_17_18_19_20_21_22_23_24 q cI cJ cD Tn Ta Fn Fa Ba Rn Ra Rb Rd Ua Wg Wz Ww Wr Mh Mn Mm Mt Mk Ms Me Mp Mw Ml My Oa Od) H → va_S (fun a : Nat => s.heap.size ≤ a) s.heap H locs → ∀ ls : Array Slot, lv_has ls 10 [] → W p l e room_1 s m #[Value.ref b] below meth c H locs (25 + k + 1) (1025 + 6 * k + 6) (lw_Z below #[Value.ref b] s) (F0 m 1744 ls []) := by
  obtain ⟨hx, hb, hr, hml, hown, hts0, hX, hbl, hlocks, hgv⟩ := id C0
  have hown : s.vm.findClass RL = some m.cls := hown
  have hts : ∀ w ∈ wsL_law, w.before #[Value.ref b] s = true := fun w h => hts0 w (wsL_law_in w h)
  have hbA : ¬ (fun a : Nat => s.heap.size ≤ a) b := Nat.not_le.mpr hbl
  intro H locs hP hS ls hl
  unfold fL_law_J1744 at hf
  refine lv_iconst (v := (0 : Int32)) hx hb dL_law_1744 (by decide) ?_
  exact absurd hf (by decide)
set_option maxHeartbeats 4000000 in
set_option maxRecDepth 100000 in
theorem law_J2261 {p : Program} {l : Launch} {e : Env} {s : State} {m : MethodId} {below : List Frame} {meth : Method} {c : Code} {b L : Nat} {xs : Nat → Int32} (hL : L ≤ 2560) (C0 : lw_At p s m meth c b L xs) (hlt : l.stackTraces = false) (D : va_G) (cI cJ cD : ClassId) (sa : Nat → Nat) (q : Nat → Nat) (hq : gInj q) (hqA : ∀ k, k < 25 → s.heap.size ≤ q k) (hE : gEv D cI cJ cD s) (hXe : gXe sa (fun a => s.heap.size ≤ a) s s.heap) (N : Nat) (k : Nat) (hk : 5 * k ≤ L) (Tn : Int32) (Ta : (Nat → Int32)) (Fn : Int32) (Fa : (Nat → Int32)) (Ba : (Nat → Int32)) (Rn : Int32) (Ra : (Nat → Int32)) (Rb : (Nat → Int32)) (Rd : (Nat → Int32)) (Ua : (Nat → Int32)) (Wg : Int32) (Wz : Int32) (Ww : Int32) (Wr : Int32) (Mh : Int32) (Mn : Int32) (Mm : Int32) (Mt : (Nat → Int32)) (Mk : (Nat → Int32)) (Ms : (Nat → Int32)) (Me : (Nat → Int32)) (Mp : (Nat → Int32)) (Mw : (Nat → Int32)) (Ml : (Nat → Int32)) (My : (Nat → Int64)) (Oa : (Nat → Int64)) (Od : (Nat → UInt64)) (hf : fL_law_J2261 N L xs Tn Ta Fn Fa Ba Rn Ra Rb Rd Ua Wg Wz Ww Wr Mh Mn Mm Mt Mk Ms Me Mp Mw Ml My Oa Od = some 1) : ∀ (H : Heap) (locs : List Loc), va_P D vwCl (w_0_1_2_3_4_5_6_7_8_9_10_11_12_13_14_15_16_17_18_19_20_21_22_23_24 q cI cJ cD Tn Ta Fn Fa Ba Rn Ra Rb Rd Ua Wg Wz Ww Wr Mh Mn Mm Mt Mk Ms Me Mp Mw Ml My Oa Od) H → va_S (fun a : Nat => s.heap.size ≤ a) s.heap H locs → ∀ ls : Array Slot, lv_has ls 10 [] → W p l e room_1 s m #[Value.ref b] below meth c H locs (25 + k + 1) (1025 + 6 * k + 6) (lw_Z below #[Value.ref b] s) (F0 m 2261 ls []) := by
  obtain ⟨hx, hb, hr, hml, hown, hts0, hX, hbl, hlocks, hgv⟩ := id C0
  have hown : s.vm.findClass RL = some m.cls := hown
  have hts : ∀ w ∈ wsL_law, w.before #[Value.ref b] s = true := fun w h => hts0 w (wsL_law_in w h)
  have hbA : ¬ (fun a : Nat => s.heap.size ≤ a) b := Nat.not_le.mpr hbl
  intro H locs hP hS ls hl
  unfold fL_law_J2261 at hf
  refine lv_iconst (v := (0 : Int32)) hx hb dL_law_2261 (by decide) ?_
  exact absurd hf (by decide)
set_option maxHeartbeats 4000000 in
set_option maxRecDepth 100000 in
theorem law_J1245 {p : Program} {l : Launch} {e : Env} {s : State} {m : MethodId} {below : List Frame} {meth : Method} {c : Code} {b L : Nat} {xs : Nat → Int32} (hL : L ≤ 2560) (C0 : lw_At p s m meth c b L xs) (hlt : l.stackTraces = false) (D : va_G) (cI cJ cD : ClassId) (sa : Nat → Nat) (q : Nat → Nat) (hq : gInj q) (hqA : ∀ k, k < 25 → s.heap.size ≤ q k) (hE : gEv D cI cJ cD s) (hXe : gXe sa (fun a => s.heap.size ≤ a) s s.heap) (N : Nat) (k : Nat) (hk : 5 * k ≤ L) (Tn : Int32) (Ta : (Nat → Int32)) (Fn : Int32) (Fa : (Nat → Int32)) (Ba : (Nat → Int32)) (Rn : Int32) (Ra : (Nat → Int32)) (Rb : (Nat → Int32)) (Rd : (Nat → Int32)) (Ua : (Nat → Int32)) (Wg : Int32) (Wz : Int32) (Ww : Int32) (Wr : Int32) (Mh : Int32) (Mn : Int32) (Mm : Int32) (Mt : (Nat → Int32)) (Mk : (Nat → Int32)) (Ms : (Nat → Int32)) (Me : (Nat → Int32)) (Mp : (Nat → Int32)) (Mw : (Nat → Int32)) (Ml : (Nat → Int32)) (My : (Nat → Int64)) (Oa : (Nat → Int64)) (Od : (Nat → UInt64)) (hf : fL_law_J1245 N L xs Tn Ta Fn Fa Ba Rn Ra Rb Rd Ua Wg Wz Ww Wr Mh Mn Mm Mt Mk Ms Me Mp Mw Ml My Oa Od = some 1) : ∀ (H : Heap) (locs : List Loc), va_P D vwCl (w_0_1_2_3_4_5_6_7_8_9_10_11_12_13_14_15_16_17_18_19_20_21_22_23_24 q cI cJ cD Tn Ta Fn Fa Ba Rn Ra Rb Rd Ua Wg Wz Ww Wr Mh Mn Mm Mt Mk Ms Me Mp Mw Ml My Oa Od) H → va_S (fun a : Nat => s.heap.size ≤ a) s.heap H locs → ∀ ls : Array Slot, lv_has ls 10 [] → W p l e room_1 s m #[Value.ref b] below meth c H locs (25 + k + 1) (1025 + 6 * k + 6) (lw_Z below #[Value.ref b] s) (F0 m 1245 ls []) := by
  obtain ⟨hx, hb, hr, hml, hown, hts0, hX, hbl, hlocks, hgv⟩ := id C0
  have hown : s.vm.findClass RL = some m.cls := hown
  have hts : ∀ w ∈ wsL_law, w.before #[Value.ref b] s = true := fun w h => hts0 w (wsL_law_in w h)
  have hbA : ¬ (fun a : Nat => s.heap.size ≤ a) b := Nat.not_le.mpr hbl
  intro H locs hP hS ls hl
  unfold fL_law_J1245 at hf
  refine lv_iconst (v := (0 : Int32)) hx hb dL_law_1245 (by decide) ?_
  exact absurd hf (by decide)
set_option maxHeartbeats 4000000 in
set_option maxRecDepth 100000 in
theorem law_J1761 {p : Program} {l : Launch} {e : Env} {s : State} {m : MethodId} {below : List Frame} {meth : Method} {c : Code} {b L : Nat} {xs : Nat → Int32} (hL : L ≤ 2560) (C0 : lw_At p s m meth c b L xs) (hlt : l.stackTraces = false) (D : va_G) (cI cJ cD : ClassId) (sa : Nat → Nat) (q : Nat → Nat) (hq : gInj q) (hqA : ∀ k, k < 25 → s.heap.size ≤ q k) (hE : gEv D cI cJ cD s) (hXe : gXe sa (fun a => s.heap.size ≤ a) s s.heap) (N : Nat) (k : Nat) (hk : 5 * k ≤ L) (Tn : Int32) (Ta : (Nat → Int32)) (Fn : Int32) (Fa : (Nat → Int32)) (Ba : (Nat → Int32)) (Rn : Int32) (Ra : (Nat → Int32)) (Rb : (Nat → Int32)) (Rd : (Nat → Int32)) (Ua : (Nat → Int32)) (Wg : Int32) (Wz : Int32) (Ww : Int32) (Wr : Int32) (Mh : Int32) (Mn : Int32) (Mm : Int32) (Mt : (Nat → Int32)) (Mk : (Nat → Int32)) (Ms : (Nat → Int32)) (Me : (Nat → Int32)) (Mp : (Nat → Int32)) (Mw : (Nat → Int32)) (Ml : (Nat → Int32)) (My : (Nat → Int64)) (Oa : (Nat → Int64)) (Od : (Nat → UInt64)) (hf : fL_law_J1761 N L xs Tn Ta Fn Fa Ba Rn Ra Rb Rd Ua Wg Wz Ww Wr Mh Mn Mm Mt Mk Ms Me Mp Mw Ml My Oa Od = some 1) : ∀ (H : Heap) (locs : List Loc), va_P D vwCl (w_0_1_2_3_4_5_6_7_8_9_10_11_12_13_14_15_16_17_18_19_20_21_22_23_24 q cI cJ cD Tn Ta Fn Fa Ba Rn Ra Rb Rd Ua Wg Wz Ww Wr Mh Mn Mm Mt Mk Ms Me Mp Mw Ml My Oa Od) H → va_S (fun a : Nat => s.heap.size ≤ a) s.heap H locs → ∀ ls : Array Slot, lv_has ls 10 [] → W p l e room_1 s m #[Value.ref b] below meth c H locs (25 + k + 1) (1025 + 6 * k + 6) (lw_Z below #[Value.ref b] s) (F0 m 1761 ls []) := by
  obtain ⟨hx, hb, hr, hml, hown, hts0, hX, hbl, hlocks, hgv⟩ := id C0
  have hown : s.vm.findClass RL = some m.cls := hown
  have hts : ∀ w ∈ wsL_law, w.before #[Value.ref b] s = true := fun w h => hts0 w (wsL_law_in w h)
  have hbA : ¬ (fun a : Nat => s.heap.size ≤ a) b := Nat.not_le.mpr hbl
  intro H locs hP hS ls hl
  unfold fL_law_J1761 at hf
  refine lv_iconst (v := (0 : Int32)) hx hb dL_law_1761 (by decide) ?_
  exact absurd hf (by decide)
set_option maxHeartbeats 4000000 in
set_option maxRecDepth 100000 in
theorem law_J2278 {p : Program} {l : Launch} {e : Env} {s : State} {m : MethodId} {below : List Frame} {meth : Method} {c : Code} {b L : Nat} {xs : Nat → Int32} (hL : L ≤ 2560) (C0 : lw_At p s m meth c b L xs) (hlt : l.stackTraces = false) (D : va_G) (cI cJ cD : ClassId) (sa : Nat → Nat) (q : Nat → Nat) (hq : gInj q) (hqA : ∀ k, k < 25 → s.heap.size ≤ q k) (hE : gEv D cI cJ cD s) (hXe : gXe sa (fun a => s.heap.size ≤ a) s s.heap) (N : Nat) (k : Nat) (hk : 5 * k ≤ L) (Tn : Int32) (Ta : (Nat → Int32)) (Fn : Int32) (Fa : (Nat → Int32)) (Ba : (Nat → Int32)) (Rn : Int32) (Ra : (Nat → Int32)) (Rb : (Nat → Int32)) (Rd : (Nat → Int32)) (Ua : (Nat → Int32)) (Wg : Int32) (Wz : Int32) (Ww : Int32) (Wr : Int32) (Mh : Int32) (Mn : Int32) (Mm : Int32) (Mt : (Nat → Int32)) (Mk : (Nat → Int32)) (Ms : (Nat → Int32)) (Me : (Nat → Int32)) (Mp : (Nat → Int32)) (Mw : (Nat → Int32)) (Ml : (Nat → Int32)) (My : (Nat → Int64)) (Oa : (Nat → Int64)) (Od : (Nat → UInt64)) (hf : fL_law_J2278 N L xs Tn Ta Fn Fa Ba Rn Ra Rb Rd Ua Wg Wz Ww Wr Mh Mn Mm Mt Mk Ms Me Mp Mw Ml My Oa Od = some 1) : ∀ (H : Heap) (locs : List Loc), va_P D vwCl (w_0_1_2_3_4_5_6_7_8_9_10_11_12_13_14_15_16_17_18_19_20_21_22_23_24 q cI cJ cD Tn Ta Fn Fa Ba Rn Ra Rb Rd Ua Wg Wz Ww Wr Mh Mn Mm Mt Mk Ms Me Mp Mw Ml My Oa Od) H → va_S (fun a : Nat => s.heap.size ≤ a) s.heap H locs → ∀ ls : Array Slot, lv_has ls 10 [] → W p l e room_1 s m #[Value.ref b] below meth c H locs (25 + k + 1) (1025 + 6 * k + 6) (lw_Z below #[Value.ref b] s) (F0 m 2278 ls []) := by
  obtain ⟨hx, hb, hr, hml, hown, hts0, hX, hbl, hlocks, hgv⟩ := id C0
  have hown : s.vm.findClass RL = some m.cls := hown
  have hts : ∀ w ∈ wsL_law, w.before #[Value.ref b] s = true := fun w h => hts0 w (wsL_law_in w h)
  have hbA : ¬ (fun a : Nat => s.heap.size ≤ a) b := Nat.not_le.mpr hbl
  intro H locs hP hS ls hl
  unfold fL_law_J2278 at hf
  refine lv_iconst (v := (0 : Int32)) hx hb dL_law_2278 (by decide) ?_
  exact absurd hf (by decide)
set_option maxHeartbeats 4000000 in
set_option maxRecDepth 100000 in
theorem law_J1262 {p : Program} {l : Launch} {e : Env} {s : State} {m : MethodId} {below : List Frame} {meth : Method} {c : Code} {b L : Nat} {xs : Nat → Int32} (hL : L ≤ 2560) (C0 : lw_At p s m meth c b L xs) (hlt : l.stackTraces = false) (D : va_G) (cI cJ cD : ClassId) (sa : Nat → Nat) (q : Nat → Nat) (hq : gInj q) (hqA : ∀ k, k < 25 → s.heap.size ≤ q k) (hE : gEv D cI cJ cD s) (hXe : gXe sa (fun a => s.heap.size ≤ a) s s.heap) (N : Nat) (k : Nat) (hk : 5 * k ≤ L) (Tn : Int32) (Ta : (Nat → Int32)) (Fn : Int32) (Fa : (Nat → Int32)) (Ba : (Nat → Int32)) (Rn : Int32) (Ra : (Nat → Int32)) (Rb : (Nat → Int32)) (Rd : (Nat → Int32)) (Ua : (Nat → Int32)) (Wg : Int32) (Wz : Int32) (Ww : Int32) (Wr : Int32) (Mh : Int32) (Mn : Int32) (Mm : Int32) (Mt : (Nat → Int32)) (Mk : (Nat → Int32)) (Ms : (Nat → Int32)) (Me : (Nat → Int32)) (Mp : (Nat → Int32)) (Mw : (Nat → Int32)) (Ml : (Nat → Int32)) (My : (Nat → Int64)) (Oa : (Nat → Int64)) (Od : (Nat → UInt64)) (hf : fL_law_J1262 N L xs Tn Ta Fn Fa Ba Rn Ra Rb Rd Ua Wg Wz Ww Wr Mh Mn Mm Mt Mk Ms Me Mp Mw Ml My Oa Od = some 1) : ∀ (H : Heap) (locs : List Loc), va_P D vwCl (w_0_1_2_3_4_5_6_7_8_9_10_11_12_13_14_15_16_17_18_19_20_21_22_23_24 q cI cJ cD Tn Ta Fn Fa Ba Rn Ra Rb Rd Ua Wg Wz Ww Wr Mh Mn Mm Mt Mk Ms Me Mp Mw Ml My Oa Od) H → va_S (fun a : Nat => s.heap.size ≤ a) s.heap H locs → ∀ ls : Array Slot, lv_has ls 10 [] → W p l e room_1 s m #[Value.ref b] below meth c H locs (25 + k + 1) (1025 + 6 * k + 6) (lw_Z below #[Value.ref b] s) (F0 m 1262 ls []) := by
  obtain ⟨hx, hb, hr, hml, hown, hts0, hX, hbl, hlocks, hgv⟩ := id C0
  have hown : s.vm.findClass RL = some m.cls := hown
  have hts : ∀ w ∈ wsL_law, w.before #[Value.ref b] s = true := fun w h => hts0 w (wsL_law_in w h)
  have hbA : ¬ (fun a : Nat => s.heap.size ≤ a) b := Nat.not_le.mpr hbl
  intro H locs hP hS ls hl
  unfold fL_law_J1262 at hf
  refine lv_iconst (v := (0 : Int32)) hx hb dL_law_1262 (by decide) ?_
  exact absurd hf (by decide)
set_option maxHeartbeats 4000000 in
set_option maxRecDepth 100000 in
theorem law_J760 {p : Program} {l : Launch} {e : Env} {s : State} {m : MethodId} {below : List Frame} {meth : Method} {c : Code} {b L : Nat} {xs : Nat → Int32} (hL : L ≤ 2560) (C0 : lw_At p s m meth c b L xs) (hlt : l.stackTraces = false) (D : va_G) (cI cJ cD : ClassId) (sa : Nat → Nat) (q : Nat → Nat) (hq : gInj q) (hqA : ∀ k, k < 25 → s.heap.size ≤ q k) (hE : gEv D cI cJ cD s) (hXe : gXe sa (fun a => s.heap.size ≤ a) s s.heap) (N : Nat) (k : Nat) (hk : 5 * k ≤ L) (Tn : Int32) (Ta : (Nat → Int32)) (Fn : Int32) (Fa : (Nat → Int32)) (Ba : (Nat → Int32)) (Rn : Int32) (Ra : (Nat → Int32)) (Rb : (Nat → Int32)) (Rd : (Nat → Int32)) (Ua : (Nat → Int32)) (Wg : Int32) (Wz : Int32) (Ww : Int32) (Wr : Int32) (Mh : Int32) (Mn : Int32) (Mm : Int32) (Mt : (Nat → Int32)) (Mk : (Nat → Int32)) (Ms : (Nat → Int32)) (Me : (Nat → Int32)) (Mp : (Nat → Int32)) (Mw : (Nat → Int32)) (Ml : (Nat → Int32)) (My : (Nat → Int64)) (Oa : (Nat → Int64)) (Od : (Nat → UInt64)) (hf : fL_law_J760 N L xs Tn Ta Fn Fa Ba Rn Ra Rb Rd Ua Wg Wz Ww Wr Mh Mn Mm Mt Mk Ms Me Mp Mw Ml My Oa Od = some 1) : ∀ (H : Heap) (locs : List Loc), va_P D vwCl (w_0_1_2_3_4_5_6_7_8_9_10_11_12_13_14_15_16_17_18_19_20_21_22_23_24 q cI cJ cD Tn Ta Fn Fa Ba Rn Ra Rb Rd Ua Wg Wz Ww Wr Mh Mn Mm Mt Mk Ms Me Mp Mw Ml My Oa Od) H → va_S (fun a : Nat => s.heap.size ≤ a) s.heap H locs → ∀ ls : Array Slot, lv_has ls 10 [] → W p l e room_1 s m #[Value.ref b] below meth c H locs (25 + k + 1) (1025 + 6 * k + 6) (lw_Z below #[Value.ref b] s) (F0 m 760 ls []) := by
  obtain ⟨hx, hb, hr, hml, hown, hts0, hX, hbl, hlocks, hgv⟩ := id C0
  have hown : s.vm.findClass RL = some m.cls := hown
  have hts : ∀ w ∈ wsL_law, w.before #[Value.ref b] s = true := fun w h => hts0 w (wsL_law_in w h)
  have hbA : ¬ (fun a : Nat => s.heap.size ≤ a) b := Nat.not_le.mpr hbl
  intro H locs hP hS ls hl
  unfold fL_law_J760 at hf
  refine lv_iconst (v := (0 : Int32)) hx hb dL_law_760 (by decide) ?_
  exact absurd hf (by decide)
set_option maxHeartbeats 4000000 in
set_option maxRecDepth 100000 in
theorem law_J2809 {p : Program} {l : Launch} {e : Env} {s : State} {m : MethodId} {below : List Frame} {meth : Method} {c : Code} {b L : Nat} {xs : Nat → Int32} (hL : L ≤ 2560) (C0 : lw_At p s m meth c b L xs) (hlt : l.stackTraces = false) (D : va_G) (cI cJ cD : ClassId) (sa : Nat → Nat) (q : Nat → Nat) (hq : gInj q) (hqA : ∀ k, k < 25 → s.heap.size ≤ q k) (hE : gEv D cI cJ cD s) (hXe : gXe sa (fun a => s.heap.size ≤ a) s s.heap) (N : Nat) (k : Nat) (hk : 5 * k ≤ L) (Tn : Int32) (Ta : (Nat → Int32)) (Fn : Int32) (Fa : (Nat → Int32)) (Ba : (Nat → Int32)) (Rn : Int32) (Ra : (Nat → Int32)) (Rb : (Nat → Int32)) (Rd : (Nat → Int32)) (Ua : (Nat → Int32)) (Wg : Int32) (Wz : Int32) (Ww : Int32) (Wr : Int32) (Mh : Int32) (Mn : Int32) (Mm : Int32) (Mt : (Nat → Int32)) (Mk : (Nat → Int32)) (Ms : (Nat → Int32)) (Me : (Nat → Int32)) (Mp : (Nat → Int32)) (Mw : (Nat → Int32)) (Ml : (Nat → Int32)) (My : (Nat → Int64)) (Oa : (Nat → Int64)) (Od : (Nat → UInt64)) (hf : fL_law_J2809 N L xs Tn Ta Fn Fa Ba Rn Ra Rb Rd Ua Wg Wz Ww Wr Mh Mn Mm Mt Mk Ms Me Mp Mw Ml My Oa Od = some 1) : ∀ (H : Heap) (locs : List Loc), va_P D vwCl (w_0_1_2_3_4_5_6_7_8_9_10_11_12_13_14_15_16_17_18_19_20_21_22_23_24 q cI cJ cD Tn Ta Fn Fa Ba Rn Ra Rb Rd Ua Wg Wz Ww Wr Mh Mn Mm Mt Mk Ms Me Mp Mw Ml My Oa Od) H → va_S (fun a : Nat => s.heap.size ≤ a) s.heap H locs → ∀ ls : Array Slot, lv_has ls 10 [] → W p l e room_1 s m #[Value.ref b] below meth c H locs (25 + k + 1) (1025 + 6 * k + 6) (lw_Z below #[Value.ref b] s) (F0 m 2809 ls []) := by
  obtain ⟨hx, hb, hr, hml, hown, hts0, hX, hbl, hlocks, hgv⟩ := id C0
  have hown : s.vm.findClass RL = some m.cls := hown
  have hts : ∀ w ∈ wsL_law, w.before #[Value.ref b] s = true := fun w h => hts0 w (wsL_law_in w h)
  have hbA : ¬ (fun a : Nat => s.heap.size ≤ a) b := Nat.not_le.mpr hbl
  intro H locs hP hS ls hl
  unfold fL_law_J2809 at hf
  refine lv_iconst (v := (0 : Int32)) hx hb dL_law_2809 (by decide) ?_
  exact absurd hf (by decide)
set_option maxHeartbeats 4000000 in
set_option maxRecDepth 100000 in
theorem law_J777 {p : Program} {l : Launch} {e : Env} {s : State} {m : MethodId} {below : List Frame} {meth : Method} {c : Code} {b L : Nat} {xs : Nat → Int32} (hL : L ≤ 2560) (C0 : lw_At p s m meth c b L xs) (hlt : l.stackTraces = false) (D : va_G) (cI cJ cD : ClassId) (sa : Nat → Nat) (q : Nat → Nat) (hq : gInj q) (hqA : ∀ k, k < 25 → s.heap.size ≤ q k) (hE : gEv D cI cJ cD s) (hXe : gXe sa (fun a => s.heap.size ≤ a) s s.heap) (N : Nat) (k : Nat) (hk : 5 * k ≤ L) (Tn : Int32) (Ta : (Nat → Int32)) (Fn : Int32) (Fa : (Nat → Int32)) (Ba : (Nat → Int32)) (Rn : Int32) (Ra : (Nat → Int32)) (Rb : (Nat → Int32)) (Rd : (Nat → Int32)) (Ua : (Nat → Int32)) (Wg : Int32) (Wz : Int32) (Ww : Int32) (Wr : Int32) (Mh : Int32) (Mn : Int32) (Mm : Int32) (Mt : (Nat → Int32)) (Mk : (Nat → Int32)) (Ms : (Nat → Int32)) (Me : (Nat → Int32)) (Mp : (Nat → Int32)) (Mw : (Nat → Int32)) (Ml : (Nat → Int32)) (My : (Nat → Int64)) (Oa : (Nat → Int64)) (Od : (Nat → UInt64)) (hf : fL_law_J777 N L xs Tn Ta Fn Fa Ba Rn Ra Rb Rd Ua Wg Wz Ww Wr Mh Mn Mm Mt Mk Ms Me Mp Mw Ml My Oa Od = some 1) : ∀ (H : Heap) (locs : List Loc), va_P D vwCl (w_0_1_2_3_4_5_6_7_8_9_10_11_12_13_14_15_16_17_18_19_20_21_22_23_24 q cI cJ cD Tn Ta Fn Fa Ba Rn Ra Rb Rd Ua Wg Wz Ww Wr Mh Mn Mm Mt Mk Ms Me Mp Mw Ml My Oa Od) H → va_S (fun a : Nat => s.heap.size ≤ a) s.heap H locs → ∀ ls : Array Slot, lv_has ls 10 [] → W p l e room_1 s m #[Value.ref b] below meth c H locs (25 + k + 1) (1025 + 6 * k + 6) (lw_Z below #[Value.ref b] s) (F0 m 777 ls []) := by
  obtain ⟨hx, hb, hr, hml, hown, hts0, hX, hbl, hlocks, hgv⟩ := id C0
  have hown : s.vm.findClass RL = some m.cls := hown
  have hts : ∀ w ∈ wsL_law, w.before #[Value.ref b] s = true := fun w h => hts0 w (wsL_law_in w h)
  have hbA : ¬ (fun a : Nat => s.heap.size ≤ a) b := Nat.not_le.mpr hbl
  intro H locs hP hS ls hl
  unfold fL_law_J777 at hf
  refine lv_iconst (v := (0 : Int32)) hx hb dL_law_777 (by decide) ?_
  exact absurd hf (by decide)
set_option maxHeartbeats 4000000 in
set_option maxRecDepth 100000 in
theorem law_J2826 {p : Program} {l : Launch} {e : Env} {s : State} {m : MethodId} {below : List Frame} {meth : Method} {c : Code} {b L : Nat} {xs : Nat → Int32} (hL : L ≤ 2560) (C0 : lw_At p s m meth c b L xs) (hlt : l.stackTraces = false) (D : va_G) (cI cJ cD : ClassId) (sa : Nat → Nat) (q : Nat → Nat) (hq : gInj q) (hqA : ∀ k, k < 25 → s.heap.size ≤ q k) (hE : gEv D cI cJ cD s) (hXe : gXe sa (fun a => s.heap.size ≤ a) s s.heap) (N : Nat) (k : Nat) (hk : 5 * k ≤ L) (Tn : Int32) (Ta : (Nat → Int32)) (Fn : Int32) (Fa : (Nat → Int32)) (Ba : (Nat → Int32)) (Rn : Int32) (Ra : (Nat → Int32)) (Rb : (Nat → Int32)) (Rd : (Nat → Int32)) (Ua : (Nat → Int32)) (Wg : Int32) (Wz : Int32) (Ww : Int32) (Wr : Int32) (Mh : Int32) (Mn : Int32) (Mm : Int32) (Mt : (Nat → Int32)) (Mk : (Nat → Int32)) (Ms : (Nat → Int32)) (Me : (Nat → Int32)) (Mp : (Nat → Int32)) (Mw : (Nat → Int32)) (Ml : (Nat → Int32)) (My : (Nat → Int64)) (Oa : (Nat → Int64)) (Od : (Nat → UInt64)) (hf : fL_law_J2826 N L xs Tn Ta Fn Fa Ba Rn Ra Rb Rd Ua Wg Wz Ww Wr Mh Mn Mm Mt Mk Ms Me Mp Mw Ml My Oa Od = some 1) : ∀ (H : Heap) (locs : List Loc), va_P D vwCl (w_0_1_2_3_4_5_6_7_8_9_10_11_12_13_14_15_16_17_18_19_20_21_22_23_24 q cI cJ cD Tn Ta Fn Fa Ba Rn Ra Rb Rd Ua Wg Wz Ww Wr Mh Mn Mm Mt Mk Ms Me Mp Mw Ml My Oa Od) H → va_S (fun a : Nat => s.heap.size ≤ a) s.heap H locs → ∀ ls : Array Slot, lv_has ls 10 [] → W p l e room_1 s m #[Value.ref b] below meth c H locs (25 + k + 1) (1025 + 6 * k + 6) (lw_Z below #[Value.ref b] s) (F0 m 2826 ls []) := by
  obtain ⟨hx, hb, hr, hml, hown, hts0, hX, hbl, hlocks, hgv⟩ := id C0
  have hown : s.vm.findClass RL = some m.cls := hown
  have hts : ∀ w ∈ wsL_law, w.before #[Value.ref b] s = true := fun w h => hts0 w (wsL_law_in w h)
  have hbA : ¬ (fun a : Nat => s.heap.size ≤ a) b := Nat.not_le.mpr hbl
  intro H locs hP hS ls hl
  unfold fL_law_J2826 at hf
  refine lv_iconst (v := (0 : Int32)) hx hb dL_law_2826 (by decide) ?_
  exact absurd hf (by decide)
set_option maxHeartbeats 4000000 in
set_option maxRecDepth 100000 in
theorem law_J2317 {p : Program} {l : Launch} {e : Env} {s : State} {m : MethodId} {below : List Frame} {meth : Method} {c : Code} {b L : Nat} {xs : Nat → Int32} (hL : L ≤ 2560) (C0 : lw_At p s m meth c b L xs) (hlt : l.stackTraces = false) (D : va_G) (cI cJ cD : ClassId) (sa : Nat → Nat) (q : Nat → Nat) (hq : gInj q) (hqA : ∀ k, k < 25 → s.heap.size ≤ q k) (hE : gEv D cI cJ cD s) (hXe : gXe sa (fun a => s.heap.size ≤ a) s s.heap) (N : Nat) (k : Nat) (hk : 5 * k ≤ L) (Tn : Int32) (Ta : (Nat → Int32)) (Fn : Int32) (Fa : (Nat → Int32)) (Ba : (Nat → Int32)) (Rn : Int32) (Ra : (Nat → Int32)) (Rb : (Nat → Int32)) (Rd : (Nat → Int32)) (Ua : (Nat → Int32)) (Wg : Int32) (Wz : Int32) (Ww : Int32) (Wr : Int32) (Mh : Int32) (Mn : Int32) (Mm : Int32) (Mt : (Nat → Int32)) (Mk : (Nat → Int32)) (Ms : (Nat → Int32)) (Me : (Nat → Int32)) (Mp : (Nat → Int32)) (Mw : (Nat → Int32)) (Ml : (Nat → Int32)) (My : (Nat → Int64)) (Oa : (Nat → Int64)) (Od : (Nat → UInt64)) (hf : fL_law_J2317 N L xs Tn Ta Fn Fa Ba Rn Ra Rb Rd Ua Wg Wz Ww Wr Mh Mn Mm Mt Mk Ms Me Mp Mw Ml My Oa Od = some 1) : ∀ (H : Heap) (locs : List Loc), va_P D vwCl (w_0_1_2_3_4_5_6_7_8_9_10_11_12_13_14_15_16_17_18_19_20_21_22_23_24 q cI cJ cD Tn Ta Fn Fa Ba Rn Ra Rb Rd Ua Wg Wz Ww Wr Mh Mn Mm Mt Mk Ms Me Mp Mw Ml My Oa Od) H → va_S (fun a : Nat => s.heap.size ≤ a) s.heap H locs → ∀ ls : Array Slot, lv_has ls 10 [] → W p l e room_1 s m #[Value.ref b] below meth c H locs (25 + k + 1) (1025 + 6 * k + 6) (lw_Z below #[Value.ref b] s) (F0 m 2317 ls []) := by
  obtain ⟨hx, hb, hr, hml, hown, hts0, hX, hbl, hlocks, hgv⟩ := id C0
  have hown : s.vm.findClass RL = some m.cls := hown
  have hts : ∀ w ∈ wsL_law, w.before #[Value.ref b] s = true := fun w h => hts0 w (wsL_law_in w h)
  have hbA : ¬ (fun a : Nat => s.heap.size ≤ a) b := Nat.not_le.mpr hbl
  intro H locs hP hS ls hl
  unfold fL_law_J2317 at hf
  refine lv_iconst (v := (0 : Int32)) hx hb dL_law_2317 (by decide) ?_
  exact absurd hf (by decide)
set_option maxHeartbeats 4000000 in
set_option maxRecDepth 100000 in
theorem law_J270 {p : Program} {l : Launch} {e : Env} {s : State} {m : MethodId} {below : List Frame} {meth : Method} {c : Code} {b L : Nat} {xs : Nat → Int32} (hL : L ≤ 2560) (C0 : lw_At p s m meth c b L xs) (hlt : l.stackTraces = false) (D : va_G) (cI cJ cD : ClassId) (sa : Nat → Nat) (q : Nat → Nat) (hq : gInj q) (hqA : ∀ k, k < 25 → s.heap.size ≤ q k) (hE : gEv D cI cJ cD s) (hXe : gXe sa (fun a => s.heap.size ≤ a) s s.heap) (N : Nat) (k : Nat) (hk : 5 * k ≤ L) (Tn : Int32) (Ta : (Nat → Int32)) (Fn : Int32) (Fa : (Nat → Int32)) (Ba : (Nat → Int32)) (Rn : Int32) (Ra : (Nat → Int32)) (Rb : (Nat → Int32)) (Rd : (Nat → Int32)) (Ua : (Nat → Int32)) (Wg : Int32) (Wz : Int32) (Ww : Int32) (Wr : Int32) (Mh : Int32) (Mn : Int32) (Mm : Int32) (Mt : (Nat → Int32)) (Mk : (Nat → Int32)) (Ms : (Nat → Int32)) (Me : (Nat → Int32)) (Mp : (Nat → Int32)) (Mw : (Nat → Int32)) (Ml : (Nat → Int32)) (My : (Nat → Int64)) (Oa : (Nat → Int64)) (Od : (Nat → UInt64)) (hf : fL_law_J270 N L xs Tn Ta Fn Fa Ba Rn Ra Rb Rd Ua Wg Wz Ww Wr Mh Mn Mm Mt Mk Ms Me Mp Mw Ml My Oa Od = some 1) : ∀ (H : Heap) (locs : List Loc), va_P D vwCl (w_0_1_2_3_4_5_6_7_8_9_10_11_12_13_14_15_16_17_18_19_20_21_22_23_24 q cI cJ cD Tn Ta Fn Fa Ba Rn Ra Rb Rd Ua Wg Wz Ww Wr Mh Mn Mm Mt Mk Ms Me Mp Mw Ml My Oa Od) H → va_S (fun a : Nat => s.heap.size ≤ a) s.heap H locs → ∀ ls : Array Slot, lv_has ls 10 [] → W p l e room_1 s m #[Value.ref b] below meth c H locs (25 + k + 1) (1025 + 6 * k + 6) (lw_Z below #[Value.ref b] s) (F0 m 270 ls []) := by
  obtain ⟨hx, hb, hr, hml, hown, hts0, hX, hbl, hlocks, hgv⟩ := id C0
  have hown : s.vm.findClass RL = some m.cls := hown
  have hts : ∀ w ∈ wsL_law, w.before #[Value.ref b] s = true := fun w h => hts0 w (wsL_law_in w h)
  have hbA : ¬ (fun a : Nat => s.heap.size ≤ a) b := Nat.not_le.mpr hbl
  intro H locs hP hS ls hl
  unfold fL_law_J270 at hf
  refine lv_iconst (v := (0 : Int32)) hx hb dL_law_270 (by decide) ?_
  exact absurd hf (by decide)
set_option maxHeartbeats 4000000 in
set_option maxRecDepth 100000 in
theorem law_J1812 {p : Program} {l : Launch} {e : Env} {s : State} {m : MethodId} {below : List Frame} {meth : Method} {c : Code} {b L : Nat} {xs : Nat → Int32} (hL : L ≤ 2560) (C0 : lw_At p s m meth c b L xs) (hlt : l.stackTraces = false) (D : va_G) (cI cJ cD : ClassId) (sa : Nat → Nat) (q : Nat → Nat) (hq : gInj q) (hqA : ∀ k, k < 25 → s.heap.size ≤ q k) (hE : gEv D cI cJ cD s) (hXe : gXe sa (fun a => s.heap.size ≤ a) s s.heap) (N : Nat) (k : Nat) (hk : 5 * k ≤ L) (Tn : Int32) (Ta : (Nat → Int32)) (Fn : Int32) (Fa : (Nat → Int32)) (Ba : (Nat → Int32)) (Rn : Int32) (Ra : (Nat → Int32)) (Rb : (Nat → Int32)) (Rd : (Nat → Int32)) (Ua : (Nat → Int32)) (Wg : Int32) (Wz : Int32) (Ww : Int32) (Wr : Int32) (Mh : Int32) (Mn : Int32) (Mm : Int32) (Mt : (Nat → Int32)) (Mk : (Nat → Int32)) (Ms : (Nat → Int32)) (Me : (Nat → Int32)) (Mp : (Nat → Int32)) (Mw : (Nat → Int32)) (Ml : (Nat → Int32)) (My : (Nat → Int64)) (Oa : (Nat → Int64)) (Od : (Nat → UInt64)) (hf : fL_law_J1812 N L xs Tn Ta Fn Fa Ba Rn Ra Rb Rd Ua Wg Wz Ww Wr Mh Mn Mm Mt Mk Ms Me Mp Mw Ml My Oa Od = some 1) : ∀ (H : Heap) (locs : List Loc), va_P D vwCl (w_0_1_2_3_4_5_6_7_8_9_10_11_12_13_14_15_16_17_18_19_20_21_22_23_24 q cI cJ cD Tn Ta Fn Fa Ba Rn Ra Rb Rd Ua Wg Wz Ww Wr Mh Mn Mm Mt Mk Ms Me Mp Mw Ml My Oa Od) H → va_S (fun a : Nat => s.heap.size ≤ a) s.heap H locs → ∀ ls : Array Slot, lv_has ls 10 [] → W p l e room_1 s m #[Value.ref b] below meth c H locs (25 + k + 1) (1025 + 6 * k + 6) (lw_Z below #[Value.ref b] s) (F0 m 1812 ls []) := by
  obtain ⟨hx, hb, hr, hml, hown, hts0, hX, hbl, hlocks, hgv⟩ := id C0
  have hown : s.vm.findClass RL = some m.cls := hown
  have hts : ∀ w ∈ wsL_law, w.before #[Value.ref b] s = true := fun w h => hts0 w (wsL_law_in w h)
  have hbA : ¬ (fun a : Nat => s.heap.size ≤ a) b := Nat.not_le.mpr hbl
  intro H locs hP hS ls hl
  unfold fL_law_J1812 at hf
  refine lv_iconst (v := (0 : Int32)) hx hb dL_law_1812 (by decide) ?_
  exact absurd hf (by decide)
set_option maxHeartbeats 4000000 in
set_option maxRecDepth 100000 in
theorem law_J2837 {p : Program} {l : Launch} {e : Env} {s : State} {m : MethodId} {below : List Frame} {meth : Method} {c : Code} {b L : Nat} {xs : Nat → Int32} (hL : L ≤ 2560) (C0 : lw_At p s m meth c b L xs) (hlt : l.stackTraces = false) (D : va_G) (cI cJ cD : ClassId) (sa : Nat → Nat) (q : Nat → Nat) (hq : gInj q) (hqA : ∀ k, k < 25 → s.heap.size ≤ q k) (hE : gEv D cI cJ cD s) (hXe : gXe sa (fun a => s.heap.size ≤ a) s s.heap) (N : Nat) (k : Nat) (hk : 5 * k ≤ L) (Tn : Int32) (Ta : (Nat → Int32)) (Fn : Int32) (Fa : (Nat → Int32)) (Ba : (Nat → Int32)) (Rn : Int32) (Ra : (Nat → Int32)) (Rb : (Nat → Int32)) (Rd : (Nat → Int32)) (Ua : (Nat → Int32)) (Wg : Int32) (Wz : Int32) (Ww : Int32) (Wr : Int32) (Mh : Int32) (Mn : Int32) (Mm : Int32) (Mt : (Nat → Int32)) (Mk : (Nat → Int32)) (Ms : (Nat → Int32)) (Me : (Nat → Int32)) (Mp : (Nat → Int32)) (Mw : (Nat → Int32)) (Ml : (Nat → Int32)) (My : (Nat → Int64)) (Oa : (Nat → Int64)) (Od : (Nat → UInt64)) (hf : fL_law_J2837 N L xs Tn Ta Fn Fa Ba Rn Ra Rb Rd Ua Wg Wz Ww Wr Mh Mn Mm Mt Mk Ms Me Mp Mw Ml My Oa Od = some 1) : ∀ (H : Heap) (locs : List Loc), va_P D vwCl (w_0_1_2_3_4_5_6_7_8_9_10_11_12_13_14_15_16_17_18_19_20_21_22_23_24 q cI cJ cD Tn Ta Fn Fa Ba Rn Ra Rb Rd Ua Wg Wz Ww Wr Mh Mn Mm Mt Mk Ms Me Mp Mw Ml My Oa Od) H → va_S (fun a : Nat => s.heap.size ≤ a) s.heap H locs → ∀ ls : Array Slot, lv_has ls 10 [] → W p l e room_1 s m #[Value.ref b] below meth c H locs (25 + k) (1025 + 6 * k) (lw_Z below #[Value.ref b] s) (F0 m 2837 ls []) := by
  obtain ⟨hx, hb, hr, hml, hown, hts0, hX, hbl, hlocks, hgv⟩ := id C0
  have hown : s.vm.findClass RL = some m.cls := hown
  have hts : ∀ w ∈ wsL_law, w.before #[Value.ref b] s = true := fun w h => hts0 w (wsL_law_in w h)
  have hbA : ¬ (fun a : Nat => s.heap.size ≤ a) b := Nat.not_le.mpr hbl
  intro H locs hP hS ls hl
  unfold fL_law_J2837 at hf
  refine lv_iconst (v := (1 : Int32)) hx hb dL_law_2837 (by decide) ?_
  refine va_forget (fun q hq => hS.2.2 q hq) ?_
  refine W.widen (k := 1058) (n := 9271) (by omega) (by omega) ?_
  refine W.base ?_
  exact lw_ret (Drawn.sameBut.refl s.drawn lw_cs) hx hb hr hlocks dL_law_2838
set_option maxHeartbeats 4000000 in
set_option maxRecDepth 100000 in
theorem law_J793 {p : Program} {l : Launch} {e : Env} {s : State} {m : MethodId} {below : List Frame} {meth : Method} {c : Code} {b L : Nat} {xs : Nat → Int32} (hL : L ≤ 2560) (C0 : lw_At p s m meth c b L xs) (hlt : l.stackTraces = false) (D : va_G) (cI cJ cD : ClassId) (sa : Nat → Nat) (q : Nat → Nat) (hq : gInj q) (hqA : ∀ k, k < 25 → s.heap.size ≤ q k) (hE : gEv D cI cJ cD s) (hXe : gXe sa (fun a => s.heap.size ≤ a) s s.heap) (N : Nat) (k : Nat) (hk : 5 * k ≤ L) (Tn : Int32) (Ta : (Nat → Int32)) (Fn : Int32) (Fa : (Nat → Int32)) (Ba : (Nat → Int32)) (Rn : Int32) (Ra : (Nat → Int32)) (Rb : (Nat → Int32)) (Rd : (Nat → Int32)) (Ua : (Nat → Int32)) (Wg : Int32) (Wz : Int32) (Ww : Int32) (Wr : Int32) (Mh : Int32) (Mn : Int32) (Mm : Int32) (Mt : (Nat → Int32)) (Mk : (Nat → Int32)) (Ms : (Nat → Int32)) (Me : (Nat → Int32)) (Mp : (Nat → Int32)) (Mw : (Nat → Int32)) (Ml : (Nat → Int32)) (My : (Nat → Int64)) (Oa : (Nat → Int64)) (Od : (Nat → UInt64)) (hf : fL_law_J793 N L xs Tn Ta Fn Fa Ba Rn Ra Rb Rd Ua Wg Wz Ww Wr Mh Mn Mm Mt Mk Ms Me Mp Mw Ml My Oa Od = some 1) : ∀ (H : Heap) (locs : List Loc), va_P D vwCl (w_0_1_2_3_4_5_6_7_8_9_10_11_12_13_14_15_16_17_18_19_20_21_22_23_24 q cI cJ cD Tn Ta Fn Fa Ba Rn Ra Rb Rd Ua Wg Wz Ww Wr Mh Mn Mm Mt Mk Ms Me Mp Mw Ml My Oa Od) H → va_S (fun a : Nat => s.heap.size ≤ a) s.heap H locs → ∀ ls : Array Slot, lv_has ls 10 [] → W p l e room_1 s m #[Value.ref b] below meth c H locs (25 + k) (1025 + 6 * k) (lw_Z below #[Value.ref b] s) (F0 m 793 ls []) := by
  obtain ⟨hx, hb, hr, hml, hown, hts0, hX, hbl, hlocks, hgv⟩ := id C0
  have hown : s.vm.findClass RL = some m.cls := hown
  have hts : ∀ w ∈ wsL_law, w.before #[Value.ref b] s = true := fun w h => hts0 w (wsL_law_in w h)
  have hbA : ¬ (fun a : Nat => s.heap.size ≤ a) b := Nat.not_le.mpr hbl
  intro H locs hP hS ls hl
  unfold fL_law_J793 at hf
  refine lv_iconst (v := (0 : Int32)) hx hb dL_law_793 (by decide) ?_
  exact absurd hf (by decide)
set_option maxHeartbeats 4000000 in
set_option maxRecDepth 100000 in
theorem law_J2334 {p : Program} {l : Launch} {e : Env} {s : State} {m : MethodId} {below : List Frame} {meth : Method} {c : Code} {b L : Nat} {xs : Nat → Int32} (hL : L ≤ 2560) (C0 : lw_At p s m meth c b L xs) (hlt : l.stackTraces = false) (D : va_G) (cI cJ cD : ClassId) (sa : Nat → Nat) (q : Nat → Nat) (hq : gInj q) (hqA : ∀ k, k < 25 → s.heap.size ≤ q k) (hE : gEv D cI cJ cD s) (hXe : gXe sa (fun a => s.heap.size ≤ a) s s.heap) (N : Nat) (k : Nat) (hk : 5 * k ≤ L) (Tn : Int32) (Ta : (Nat → Int32)) (Fn : Int32) (Fa : (Nat → Int32)) (Ba : (Nat → Int32)) (Rn : Int32) (Ra : (Nat → Int32)) (Rb : (Nat → Int32)) (Rd : (Nat → Int32)) (Ua : (Nat → Int32)) (Wg : Int32) (Wz : Int32) (Ww : Int32) (Wr : Int32) (Mh : Int32) (Mn : Int32) (Mm : Int32) (Mt : (Nat → Int32)) (Mk : (Nat → Int32)) (Ms : (Nat → Int32)) (Me : (Nat → Int32)) (Mp : (Nat → Int32)) (Mw : (Nat → Int32)) (Ml : (Nat → Int32)) (My : (Nat → Int64)) (Oa : (Nat → Int64)) (Od : (Nat → UInt64)) (hf : fL_law_J2334 N L xs Tn Ta Fn Fa Ba Rn Ra Rb Rd Ua Wg Wz Ww Wr Mh Mn Mm Mt Mk Ms Me Mp Mw Ml My Oa Od = some 1) : ∀ (H : Heap) (locs : List Loc), va_P D vwCl (w_0_1_2_3_4_5_6_7_8_9_10_11_12_13_14_15_16_17_18_19_20_21_22_23_24 q cI cJ cD Tn Ta Fn Fa Ba Rn Ra Rb Rd Ua Wg Wz Ww Wr Mh Mn Mm Mt Mk Ms Me Mp Mw Ml My Oa Od) H → va_S (fun a : Nat => s.heap.size ≤ a) s.heap H locs → ∀ ls : Array Slot, lv_has ls 10 [] → W p l e room_1 s m #[Value.ref b] below meth c H locs (25 + k + 1) (1025 + 6 * k + 6) (lw_Z below #[Value.ref b] s) (F0 m 2334 ls []) := by
  obtain ⟨hx, hb, hr, hml, hown, hts0, hX, hbl, hlocks, hgv⟩ := id C0
  have hown : s.vm.findClass RL = some m.cls := hown
  have hts : ∀ w ∈ wsL_law, w.before #[Value.ref b] s = true := fun w h => hts0 w (wsL_law_in w h)
  have hbA : ¬ (fun a : Nat => s.heap.size ≤ a) b := Nat.not_le.mpr hbl
  intro H locs hP hS ls hl
  unfold fL_law_J2334 at hf
  refine lv_iconst (v := (0 : Int32)) hx hb dL_law_2334 (by decide) ?_
  exact absurd hf (by decide)
set_option maxHeartbeats 4000000 in
set_option maxRecDepth 100000 in
theorem law_J287 {p : Program} {l : Launch} {e : Env} {s : State} {m : MethodId} {below : List Frame} {meth : Method} {c : Code} {b L : Nat} {xs : Nat → Int32} (hL : L ≤ 2560) (C0 : lw_At p s m meth c b L xs) (hlt : l.stackTraces = false) (D : va_G) (cI cJ cD : ClassId) (sa : Nat → Nat) (q : Nat → Nat) (hq : gInj q) (hqA : ∀ k, k < 25 → s.heap.size ≤ q k) (hE : gEv D cI cJ cD s) (hXe : gXe sa (fun a => s.heap.size ≤ a) s s.heap) (N : Nat) (k : Nat) (hk : 5 * k ≤ L) (Tn : Int32) (Ta : (Nat → Int32)) (Fn : Int32) (Fa : (Nat → Int32)) (Ba : (Nat → Int32)) (Rn : Int32) (Ra : (Nat → Int32)) (Rb : (Nat → Int32)) (Rd : (Nat → Int32)) (Ua : (Nat → Int32)) (Wg : Int32) (Wz : Int32) (Ww : Int32) (Wr : Int32) (Mh : Int32) (Mn : Int32) (Mm : Int32) (Mt : (Nat → Int32)) (Mk : (Nat → Int32)) (Ms : (Nat → Int32)) (Me : (Nat → Int32)) (Mp : (Nat → Int32)) (Mw : (Nat → Int32)) (Ml : (Nat → Int32)) (My : (Nat → Int64)) (Oa : (Nat → Int64)) (Od : (Nat → UInt64)) (hf : fL_law_J287 N L xs Tn Ta Fn Fa Ba Rn Ra Rb Rd Ua Wg Wz Ww Wr Mh Mn Mm Mt Mk Ms Me Mp Mw Ml My Oa Od = some 1) : ∀ (H : Heap) (locs : List Loc), va_P D vwCl (w_0_1_2_3_4_5_6_7_8_9_10_11_12_13_14_15_16_17_18_19_20_21_22_23_24 q cI cJ cD Tn Ta Fn Fa Ba Rn Ra Rb Rd Ua Wg Wz Ww Wr Mh Mn Mm Mt Mk Ms Me Mp Mw Ml My Oa Od) H → va_S (fun a : Nat => s.heap.size ≤ a) s.heap H locs → ∀ ls : Array Slot, lv_has ls 10 [] → W p l e room_1 s m #[Value.ref b] below meth c H locs (25 + k + 1) (1025 + 6 * k + 6) (lw_Z below #[Value.ref b] s) (F0 m 287 ls []) := by
  obtain ⟨hx, hb, hr, hml, hown, hts0, hX, hbl, hlocks, hgv⟩ := id C0
  have hown : s.vm.findClass RL = some m.cls := hown
  have hts : ∀ w ∈ wsL_law, w.before #[Value.ref b] s = true := fun w h => hts0 w (wsL_law_in w h)
  have hbA : ¬ (fun a : Nat => s.heap.size ≤ a) b := Nat.not_le.mpr hbl
  intro H locs hP hS ls hl
  unfold fL_law_J287 at hf
  refine lv_iconst (v := (0 : Int32)) hx hb dL_law_287 (by decide) ?_
  exact absurd hf (by decide)
set_option maxHeartbeats 4000000 in
set_option maxRecDepth 100000 in
theorem law_J1829 {p : Program} {l : Launch} {e : Env} {s : State} {m : MethodId} {below : List Frame} {meth : Method} {c : Code} {b L : Nat} {xs : Nat → Int32} (hL : L ≤ 2560) (C0 : lw_At p s m meth c b L xs) (hlt : l.stackTraces = false) (D : va_G) (cI cJ cD : ClassId) (sa : Nat → Nat) (q : Nat → Nat) (hq : gInj q) (hqA : ∀ k, k < 25 → s.heap.size ≤ q k) (hE : gEv D cI cJ cD s) (hXe : gXe sa (fun a => s.heap.size ≤ a) s s.heap) (N : Nat) (k : Nat) (hk : 5 * k ≤ L) (Tn : Int32) (Ta : (Nat → Int32)) (Fn : Int32) (Fa : (Nat → Int32)) (Ba : (Nat → Int32)) (Rn : Int32) (Ra : (Nat → Int32)) (Rb : (Nat → Int32)) (Rd : (Nat → Int32)) (Ua : (Nat → Int32)) (Wg : Int32) (Wz : Int32) (Ww : Int32) (Wr : Int32) (Mh : Int32) (Mn : Int32) (Mm : Int32) (Mt : (Nat → Int32)) (Mk : (Nat → Int32)) (Ms : (Nat → Int32)) (Me : (Nat → Int32)) (Mp : (Nat → Int32)) (Mw : (Nat → Int32)) (Ml : (Nat → Int32)) (My : (Nat → Int64)) (Oa : (Nat → Int64)) (Od : (Nat → UInt64)) (hf : fL_law_J1829 N L xs Tn Ta Fn Fa Ba Rn Ra Rb Rd Ua Wg Wz Ww Wr Mh Mn Mm Mt Mk Ms Me Mp Mw Ml My Oa Od = some 1) : ∀ (H : Heap) (locs : List Loc), va_P D vwCl (w_0_1_2_3_4_5_6_7_8_9_10_11_12_13_14_15_16_17_18_19_20_21_22_23_24 q cI cJ cD Tn Ta Fn Fa Ba Rn Ra Rb Rd Ua Wg Wz Ww Wr Mh Mn Mm Mt Mk Ms Me Mp Mw Ml My Oa Od) H → va_S (fun a : Nat => s.heap.size ≤ a) s.heap H locs → ∀ ls : Array Slot, lv_has ls 10 [] → W p l e room_1 s m #[Value.ref b] below meth c H locs (25 + k + 1) (1025 + 6 * k + 6) (lw_Z below #[Value.ref b] s) (F0 m 1829 ls []) := by
  obtain ⟨hx, hb, hr, hml, hown, hts0, hX, hbl, hlocks, hgv⟩ := id C0
  have hown : s.vm.findClass RL = some m.cls := hown
  have hts : ∀ w ∈ wsL_law, w.before #[Value.ref b] s = true := fun w h => hts0 w (wsL_law_in w h)
  have hbA : ¬ (fun a : Nat => s.heap.size ≤ a) b := Nat.not_le.mpr hbl
  intro H locs hP hS ls hl
  unfold fL_law_J1829 at hf
  refine lv_iconst (v := (0 : Int32)) hx hb dL_law_1829 (by decide) ?_
  exact absurd hf (by decide)
set_option maxHeartbeats 4000000 in
set_option maxRecDepth 100000 in
theorem law_J1329 {p : Program} {l : Launch} {e : Env} {s : State} {m : MethodId} {below : List Frame} {meth : Method} {c : Code} {b L : Nat} {xs : Nat → Int32} (hL : L ≤ 2560) (C0 : lw_At p s m meth c b L xs) (hlt : l.stackTraces = false) (D : va_G) (cI cJ cD : ClassId) (sa : Nat → Nat) (q : Nat → Nat) (hq : gInj q) (hqA : ∀ k, k < 25 → s.heap.size ≤ q k) (hE : gEv D cI cJ cD s) (hXe : gXe sa (fun a => s.heap.size ≤ a) s s.heap) (N : Nat) (k : Nat) (hk : 5 * k ≤ L) (Tn : Int32) (Ta : (Nat → Int32)) (Fn : Int32) (Fa : (Nat → Int32)) (Ba : (Nat → Int32)) (Rn : Int32) (Ra : (Nat → Int32)) (Rb : (Nat → Int32)) (Rd : (Nat → Int32)) (Ua : (Nat → Int32)) (Wg : Int32) (Wz : Int32) (Ww : Int32) (Wr : Int32) (Mh : Int32) (Mn : Int32) (Mm : Int32) (Mt : (Nat → Int32)) (Mk : (Nat → Int32)) (Ms : (Nat → Int32)) (Me : (Nat → Int32)) (Mp : (Nat → Int32)) (Mw : (Nat → Int32)) (Ml : (Nat → Int32)) (My : (Nat → Int64)) (Oa : (Nat → Int64)) (Od : (Nat → UInt64)) (hf : fL_law_J1329 N L xs Tn Ta Fn Fa Ba Rn Ra Rb Rd Ua Wg Wz Ww Wr Mh Mn Mm Mt Mk Ms Me Mp Mw Ml My Oa Od = some 1) : ∀ (H : Heap) (locs : List Loc), va_P D vwCl (w_0_1_2_3_4_5_6_7_8_9_10_11_12_13_14_15_16_17_18_19_20_21_22_23_24 q cI cJ cD Tn Ta Fn Fa Ba Rn Ra Rb Rd Ua Wg Wz Ww Wr Mh Mn Mm Mt Mk Ms Me Mp Mw Ml My Oa Od) H → va_S (fun a : Nat => s.heap.size ≤ a) s.heap H locs → ∀ ls : Array Slot, lv_has ls 10 [] → W p l e room_1 s m #[Value.ref b] below meth c H locs (25 + k + 1) (1025 + 6 * k + 6) (lw_Z below #[Value.ref b] s) (F0 m 1329 ls []) := by
  obtain ⟨hx, hb, hr, hml, hown, hts0, hX, hbl, hlocks, hgv⟩ := id C0
  have hown : s.vm.findClass RL = some m.cls := hown
  have hts : ∀ w ∈ wsL_law, w.before #[Value.ref b] s = true := fun w h => hts0 w (wsL_law_in w h)
  have hbA : ¬ (fun a : Nat => s.heap.size ≤ a) b := Nat.not_le.mpr hbl
  intro H locs hP hS ls hl
  unfold fL_law_J1329 at hf
  refine lv_iconst (v := (0 : Int32)) hx hb dL_law_1329 (by decide) ?_
  exact absurd hf (by decide)
set_option maxHeartbeats 4000000 in
set_option maxRecDepth 100000 in
theorem law_J829 {p : Program} {l : Launch} {e : Env} {s : State} {m : MethodId} {below : List Frame} {meth : Method} {c : Code} {b L : Nat} {xs : Nat → Int32} (hL : L ≤ 2560) (C0 : lw_At p s m meth c b L xs) (hlt : l.stackTraces = false) (D : va_G) (cI cJ cD : ClassId) (sa : Nat → Nat) (q : Nat → Nat) (hq : gInj q) (hqA : ∀ k, k < 25 → s.heap.size ≤ q k) (hE : gEv D cI cJ cD s) (hXe : gXe sa (fun a => s.heap.size ≤ a) s s.heap) (N : Nat) (k : Nat) (hk : 5 * k ≤ L) (Tn : Int32) (Ta : (Nat → Int32)) (Fn : Int32) (Fa : (Nat → Int32)) (Ba : (Nat → Int32)) (Rn : Int32) (Ra : (Nat → Int32)) (Rb : (Nat → Int32)) (Rd : (Nat → Int32)) (Ua : (Nat → Int32)) (Wg : Int32) (Wz : Int32) (Ww : Int32) (Wr : Int32) (Mh : Int32) (Mn : Int32) (Mm : Int32) (Mt : (Nat → Int32)) (Mk : (Nat → Int32)) (Ms : (Nat → Int32)) (Me : (Nat → Int32)) (Mp : (Nat → Int32)) (Mw : (Nat → Int32)) (Ml : (Nat → Int32)) (My : (Nat → Int64)) (Oa : (Nat → Int64)) (Od : (Nat → UInt64)) (hf : fL_law_J829 N L xs Tn Ta Fn Fa Ba Rn Ra Rb Rd Ua Wg Wz Ww Wr Mh Mn Mm Mt Mk Ms Me Mp Mw Ml My Oa Od = some 1) : ∀ (H : Heap) (locs : List Loc), va_P D vwCl (w_0_1_2_3_4_5_6_7_8_9_10_11_12_13_14_15_16_17_18_19_20_21_22_23_24 q cI cJ cD Tn Ta Fn Fa Ba Rn Ra Rb Rd Ua Wg Wz Ww Wr Mh Mn Mm Mt Mk Ms Me Mp Mw Ml My Oa Od) H → va_S (fun a : Nat => s.heap.size ≤ a) s.heap H locs → ∀ ls : Array Slot, lv_has ls 10 [] → W p l e room_1 s m #[Value.ref b] below meth c H locs (25 + k + 1) (1025 + 6 * k + 6) (lw_Z below #[Value.ref b] s) (F0 m 829 ls []) := by
  obtain ⟨hx, hb, hr, hml, hown, hts0, hX, hbl, hlocks, hgv⟩ := id C0
  have hown : s.vm.findClass RL = some m.cls := hown
  have hts : ∀ w ∈ wsL_law, w.before #[Value.ref b] s = true := fun w h => hts0 w (wsL_law_in w h)
  have hbA : ¬ (fun a : Nat => s.heap.size ≤ a) b := Nat.not_le.mpr hbl
  intro H locs hP hS ls hl
  unfold fL_law_J829 at hf
  refine lv_iconst (v := (0 : Int32)) hx hb dL_law_829 (by decide) ?_
  exact absurd hf (by decide)
set_option maxHeartbeats 4000000 in
set_option maxRecDepth 100000 in
theorem law_J1346 {p : Program} {l : Launch} {e : Env} {s : State} {m : MethodId} {below : List Frame} {meth : Method} {c : Code} {b L : Nat} {xs : Nat → Int32} (hL : L ≤ 2560) (C0 : lw_At p s m meth c b L xs) (hlt : l.stackTraces = false) (D : va_G) (cI cJ cD : ClassId) (sa : Nat → Nat) (q : Nat → Nat) (hq : gInj q) (hqA : ∀ k, k < 25 → s.heap.size ≤ q k) (hE : gEv D cI cJ cD s) (hXe : gXe sa (fun a => s.heap.size ≤ a) s s.heap) (N : Nat) (k : Nat) (hk : 5 * k ≤ L) (Tn : Int32) (Ta : (Nat → Int32)) (Fn : Int32) (Fa : (Nat → Int32)) (Ba : (Nat → Int32)) (Rn : Int32) (Ra : (Nat → Int32)) (Rb : (Nat → Int32)) (Rd : (Nat → Int32)) (Ua : (Nat → Int32)) (Wg : Int32) (Wz : Int32) (Ww : Int32) (Wr : Int32) (Mh : Int32) (Mn : Int32) (Mm : Int32) (Mt : (Nat → Int32)) (Mk : (Nat → Int32)) (Ms : (Nat → Int32)) (Me : (Nat → Int32)) (Mp : (Nat → Int32)) (Mw : (Nat → Int32)) (Ml : (Nat → Int32)) (My : (Nat → Int64)) (Oa : (Nat → Int64)) (Od : (Nat → UInt64)) (hf : fL_law_J1346 N L xs Tn Ta Fn Fa Ba Rn Ra Rb Rd Ua Wg Wz Ww Wr Mh Mn Mm Mt Mk Ms Me Mp Mw Ml My Oa Od = some 1) : ∀ (H : Heap) (locs : List Loc), va_P D vwCl (w_0_1_2_3_4_5_6_7_8_9_10_11_12_13_14_15_16_17_18_19_20_21_22_23_24 q cI cJ cD Tn Ta Fn Fa Ba Rn Ra Rb Rd Ua Wg Wz Ww Wr Mh Mn Mm Mt Mk Ms Me Mp Mw Ml My Oa Od) H → va_S (fun a : Nat => s.heap.size ≤ a) s.heap H locs → ∀ ls : Array Slot, lv_has ls 10 [] → W p l e room_1 s m #[Value.ref b] below meth c H locs (25 + k + 1) (1025 + 6 * k + 6) (lw_Z below #[Value.ref b] s) (F0 m 1346 ls []) := by
  obtain ⟨hx, hb, hr, hml, hown, hts0, hX, hbl, hlocks, hgv⟩ := id C0
  have hown : s.vm.findClass RL = some m.cls := hown
  have hts : ∀ w ∈ wsL_law, w.before #[Value.ref b] s = true := fun w h => hts0 w (wsL_law_in w h)
  have hbA : ¬ (fun a : Nat => s.heap.size ≤ a) b := Nat.not_le.mpr hbl
  intro H locs hP hS ls hl
  unfold fL_law_J1346 at hf
  refine lv_iconst (v := (0 : Int32)) hx hb dL_law_1346 (by decide) ?_
  exact absurd hf (by decide)
set_option maxHeartbeats 4000000 in
set_option maxRecDepth 100000 in
theorem law_J2373 {p : Program} {l : Launch} {e : Env} {s : State} {m : MethodId} {below : List Frame} {meth : Method} {c : Code} {b L : Nat} {xs : Nat → Int32} (hL : L ≤ 2560) (C0 : lw_At p s m meth c b L xs) (hlt : l.stackTraces = false) (D : va_G) (cI cJ cD : ClassId) (sa : Nat → Nat) (q : Nat → Nat) (hq : gInj q) (hqA : ∀ k, k < 25 → s.heap.size ≤ q k) (hE : gEv D cI cJ cD s) (hXe : gXe sa (fun a => s.heap.size ≤ a) s s.heap) (N : Nat) (k : Nat) (hk : 5 * k ≤ L) (Tn : Int32) (Ta : (Nat → Int32)) (Fn : Int32) (Fa : (Nat → Int32)) (Ba : (Nat → Int32)) (Rn : Int32) (Ra : (Nat → Int32)) (Rb : (Nat → Int32)) (Rd : (Nat → Int32)) (Ua : (Nat → Int32)) (Wg : Int32) (Wz : Int32) (Ww : Int32) (Wr : Int32) (Mh : Int32) (Mn : Int32) (Mm : Int32) (Mt : (Nat → Int32)) (Mk : (Nat → Int32)) (Ms : (Nat → Int32)) (Me : (Nat → Int32)) (Mp : (Nat → Int32)) (Mw : (Nat → Int32)) (Ml : (Nat → Int32)) (My : (Nat → Int64)) (Oa : (Nat → Int64)) (Od : (Nat → UInt64)) (hf : fL_law_J2373 N L xs Tn Ta Fn Fa Ba Rn Ra Rb Rd Ua Wg Wz Ww Wr Mh Mn Mm Mt Mk Ms Me Mp Mw Ml My Oa Od = some 1) : ∀ (H : Heap) (locs : List Loc), va_P D vwCl (w_0_1_2_3_4_5_6_7_8_9_10_11_12_13_14_15_16_17_18_19_20_21_22_23_24 q cI cJ cD Tn Ta Fn Fa Ba Rn Ra Rb Rd Ua Wg Wz Ww Wr Mh Mn Mm Mt Mk Ms Me Mp Mw Ml My Oa Od) H → va_S (fun a : Nat => s.heap.size ≤ a) s.heap H locs → ∀ ls : Array Slot, lv_has ls 10 [] → W p l e room_1 s m #[Value.ref b] below meth c H locs (25 + k + 1) (1025 + 6 * k + 6) (lw_Z below #[Value.ref b] s) (F0 m 2373 ls []) := by
  obtain ⟨hx, hb, hr, hml, hown, hts0, hX, hbl, hlocks, hgv⟩ := id C0
  have hown : s.vm.findClass RL = some m.cls := hown
  have hts : ∀ w ∈ wsL_law, w.before #[Value.ref b] s = true := fun w h => hts0 w (wsL_law_in w h)
  have hbA : ¬ (fun a : Nat => s.heap.size ≤ a) b := Nat.not_le.mpr hbl
  intro H locs hP hS ls hl
  unfold fL_law_J2373 at hf
  refine lv_iconst (v := (0 : Int32)) hx hb dL_law_2373 (by decide) ?_
  exact absurd hf (by decide)
set_option maxHeartbeats 4000000 in
set_option maxRecDepth 100000 in
theorem law_J846 {p : Program} {l : Launch} {e : Env} {s : State} {m : MethodId} {below : List Frame} {meth : Method} {c : Code} {b L : Nat} {xs : Nat → Int32} (hL : L ≤ 2560) (C0 : lw_At p s m meth c b L xs) (hlt : l.stackTraces = false) (D : va_G) (cI cJ cD : ClassId) (sa : Nat → Nat) (q : Nat → Nat) (hq : gInj q) (hqA : ∀ k, k < 25 → s.heap.size ≤ q k) (hE : gEv D cI cJ cD s) (hXe : gXe sa (fun a => s.heap.size ≤ a) s s.heap) (N : Nat) (k : Nat) (hk : 5 * k ≤ L) (Tn : Int32) (Ta : (Nat → Int32)) (Fn : Int32) (Fa : (Nat → Int32)) (Ba : (Nat → Int32)) (Rn : Int32) (Ra : (Nat → Int32)) (Rb : (Nat → Int32)) (Rd : (Nat → Int32)) (Ua : (Nat → Int32)) (Wg : Int32) (Wz : Int32) (Ww : Int32) (Wr : Int32) (Mh : Int32) (Mn : Int32) (Mm : Int32) (Mt : (Nat → Int32)) (Mk : (Nat → Int32)) (Ms : (Nat → Int32)) (Me : (Nat → Int32)) (Mp : (Nat → Int32)) (Mw : (Nat → Int32)) (Ml : (Nat → Int32)) (My : (Nat → Int64)) (Oa : (Nat → Int64)) (Od : (Nat → UInt64)) (hf : fL_law_J846 N L xs Tn Ta Fn Fa Ba Rn Ra Rb Rd Ua Wg Wz Ww Wr Mh Mn Mm Mt Mk Ms Me Mp Mw Ml My Oa Od = some 1) : ∀ (H : Heap) (locs : List Loc), va_P D vwCl (w_0_1_2_3_4_5_6_7_8_9_10_11_12_13_14_15_16_17_18_19_20_21_22_23_24 q cI cJ cD Tn Ta Fn Fa Ba Rn Ra Rb Rd Ua Wg Wz Ww Wr Mh Mn Mm Mt Mk Ms Me Mp Mw Ml My Oa Od) H → va_S (fun a : Nat => s.heap.size ≤ a) s.heap H locs → ∀ ls : Array Slot, lv_has ls 10 [] → W p l e room_1 s m #[Value.ref b] below meth c H locs (25 + k + 1) (1025 + 6 * k + 6) (lw_Z below #[Value.ref b] s) (F0 m 846 ls []) := by
  obtain ⟨hx, hb, hr, hml, hown, hts0, hX, hbl, hlocks, hgv⟩ := id C0
  have hown : s.vm.findClass RL = some m.cls := hown
  have hts : ∀ w ∈ wsL_law, w.before #[Value.ref b] s = true := fun w h => hts0 w (wsL_law_in w h)
  have hbA : ¬ (fun a : Nat => s.heap.size ≤ a) b := Nat.not_le.mpr hbl
  intro H locs hP hS ls hl
  unfold fL_law_J846 at hf
  refine lv_iconst (v := (0 : Int32)) hx hb dL_law_846 (by decide) ?_
  exact absurd hf (by decide)
set_option maxHeartbeats 4000000 in
set_option maxRecDepth 100000 in
theorem law_J338 {p : Program} {l : Launch} {e : Env} {s : State} {m : MethodId} {below : List Frame} {meth : Method} {c : Code} {b L : Nat} {xs : Nat → Int32} (hL : L ≤ 2560) (C0 : lw_At p s m meth c b L xs) (hlt : l.stackTraces = false) (D : va_G) (cI cJ cD : ClassId) (sa : Nat → Nat) (q : Nat → Nat) (hq : gInj q) (hqA : ∀ k, k < 25 → s.heap.size ≤ q k) (hE : gEv D cI cJ cD s) (hXe : gXe sa (fun a => s.heap.size ≤ a) s s.heap) (N : Nat) (k : Nat) (hk : 5 * k ≤ L) (Tn : Int32) (Ta : (Nat → Int32)) (Fn : Int32) (Fa : (Nat → Int32)) (Ba : (Nat → Int32)) (Rn : Int32) (Ra : (Nat → Int32)) (Rb : (Nat → Int32)) (Rd : (Nat → Int32)) (Ua : (Nat → Int32)) (Wg : Int32) (Wz : Int32) (Ww : Int32) (Wr : Int32) (Mh : Int32) (Mn : Int32) (Mm : Int32) (Mt : (Nat → Int32)) (Mk : (Nat → Int32)) (Ms : (Nat → Int32)) (Me : (Nat → Int32)) (Mp : (Nat → Int32)) (Mw : (Nat → Int32)) (Ml : (Nat → Int32)) (My : (Nat → Int64)) (Oa : (Nat → Int64)) (Od : (Nat → UInt64)) (hf : fL_law_J338 N L xs Tn Ta Fn Fa Ba Rn Ra Rb Rd Ua Wg Wz Ww Wr Mh Mn Mm Mt Mk Ms Me Mp Mw Ml My Oa Od = some 1) : ∀ (H : Heap) (locs : List Loc), va_P D vwCl (w_0_1_2_3_4_5_6_7_8_9_10_11_12_13_14_15_16_17_18_19_20_21_22_23_24 q cI cJ cD Tn Ta Fn Fa Ba Rn Ra Rb Rd Ua Wg Wz Ww Wr Mh Mn Mm Mt Mk Ms Me Mp Mw Ml My Oa Od) H → va_S (fun a : Nat => s.heap.size ≤ a) s.heap H locs → ∀ ls : Array Slot, lv_has ls 10 [] → W p l e room_1 s m #[Value.ref b] below meth c H locs (25 + k + 1) (1025 + 6 * k + 6) (lw_Z below #[Value.ref b] s) (F0 m 338 ls []) := by
  obtain ⟨hx, hb, hr, hml, hown, hts0, hX, hbl, hlocks, hgv⟩ := id C0
  have hown : s.vm.findClass RL = some m.cls := hown
  have hts : ∀ w ∈ wsL_law, w.before #[Value.ref b] s = true := fun w h => hts0 w (wsL_law_in w h)
  have hbA : ¬ (fun a : Nat => s.heap.size ≤ a) b := Nat.not_le.mpr hbl
  intro H locs hP hS ls hl
  unfold fL_law_J338 at hf
  refine lv_iconst (v := (0 : Int32)) hx hb dL_law_338 (by decide) ?_
  exact absurd hf (by decide)
set_option maxHeartbeats 4000000 in
set_option maxRecDepth 100000 in
theorem law_J2390 {p : Program} {l : Launch} {e : Env} {s : State} {m : MethodId} {below : List Frame} {meth : Method} {c : Code} {b L : Nat} {xs : Nat → Int32} (hL : L ≤ 2560) (C0 : lw_At p s m meth c b L xs) (hlt : l.stackTraces = false) (D : va_G) (cI cJ cD : ClassId) (sa : Nat → Nat) (q : Nat → Nat) (hq : gInj q) (hqA : ∀ k, k < 25 → s.heap.size ≤ q k) (hE : gEv D cI cJ cD s) (hXe : gXe sa (fun a => s.heap.size ≤ a) s s.heap) (N : Nat) (k : Nat) (hk : 5 * k ≤ L) (Tn : Int32) (Ta : (Nat → Int32)) (Fn : Int32) (Fa : (Nat → Int32)) (Ba : (Nat → Int32)) (Rn : Int32) (Ra : (Nat → Int32)) (Rb : (Nat → Int32)) (Rd : (Nat → Int32)) (Ua : (Nat → Int32)) (Wg : Int32) (Wz : Int32) (Ww : Int32) (Wr : Int32) (Mh : Int32) (Mn : Int32) (Mm : Int32) (Mt : (Nat → Int32)) (Mk : (Nat → Int32)) (Ms : (Nat → Int32)) (Me : (Nat → Int32)) (Mp : (Nat → Int32)) (Mw : (Nat → Int32)) (Ml : (Nat → Int32)) (My : (Nat → Int64)) (Oa : (Nat → Int64)) (Od : (Nat → UInt64)) (hf : fL_law_J2390 N L xs Tn Ta Fn Fa Ba Rn Ra Rb Rd Ua Wg Wz Ww Wr Mh Mn Mm Mt Mk Ms Me Mp Mw Ml My Oa Od = some 1) : ∀ (H : Heap) (locs : List Loc), va_P D vwCl (w_0_1_2_3_4_5_6_7_8_9_10_11_12_13_14_15_16_17_18_19_20_21_22_23_24 q cI cJ cD Tn Ta Fn Fa Ba Rn Ra Rb Rd Ua Wg Wz Ww Wr Mh Mn Mm Mt Mk Ms Me Mp Mw Ml My Oa Od) H → va_S (fun a : Nat => s.heap.size ≤ a) s.heap H locs → ∀ ls : Array Slot, lv_has ls 10 [] → W p l e room_1 s m #[Value.ref b] below meth c H locs (25 + k + 1) (1025 + 6 * k + 6) (lw_Z below #[Value.ref b] s) (F0 m 2390 ls []) := by
  obtain ⟨hx, hb, hr, hml, hown, hts0, hX, hbl, hlocks, hgv⟩ := id C0
  have hown : s.vm.findClass RL = some m.cls := hown
  have hts : ∀ w ∈ wsL_law, w.before #[Value.ref b] s = true := fun w h => hts0 w (wsL_law_in w h)
  have hbA : ¬ (fun a : Nat => s.heap.size ≤ a) b := Nat.not_le.mpr hbl
  intro H locs hP hS ls hl
  unfold fL_law_J2390 at hf
  refine lv_iconst (v := (0 : Int32)) hx hb dL_law_2390 (by decide) ?_
  exact absurd hf (by decide)
set_option maxHeartbeats 4000000 in
set_option maxRecDepth 100000 in
theorem law_J355 {p : Program} {l : Launch} {e : Env} {s : State} {m : MethodId} {below : List Frame} {meth : Method} {c : Code} {b L : Nat} {xs : Nat → Int32} (hL : L ≤ 2560) (C0 : lw_At p s m meth c b L xs) (hlt : l.stackTraces = false) (D : va_G) (cI cJ cD : ClassId) (sa : Nat → Nat) (q : Nat → Nat) (hq : gInj q) (hqA : ∀ k, k < 25 → s.heap.size ≤ q k) (hE : gEv D cI cJ cD s) (hXe : gXe sa (fun a => s.heap.size ≤ a) s s.heap) (N : Nat) (k : Nat) (hk : 5 * k ≤ L) (Tn : Int32) (Ta : (Nat → Int32)) (Fn : Int32) (Fa : (Nat → Int32)) (Ba : (Nat → Int32)) (Rn : Int32) (Ra : (Nat → Int32)) (Rb : (Nat → Int32)) (Rd : (Nat → Int32)) (Ua : (Nat → Int32)) (Wg : Int32) (Wz : Int32) (Ww : Int32) (Wr : Int32) (Mh : Int32) (Mn : Int32) (Mm : Int32) (Mt : (Nat → Int32)) (Mk : (Nat → Int32)) (Ms : (Nat → Int32)) (Me : (Nat → Int32)) (Mp : (Nat → Int32)) (Mw : (Nat → Int32)) (Ml : (Nat → Int32)) (My : (Nat → Int64)) (Oa : (Nat → Int64)) (Od : (Nat → UInt64)) (hf : fL_law_J355 N L xs Tn Ta Fn Fa Ba Rn Ra Rb Rd Ua Wg Wz Ww Wr Mh Mn Mm Mt Mk Ms Me Mp Mw Ml My Oa Od = some 1) : ∀ (H : Heap) (locs : List Loc), va_P D vwCl (w_0_1_2_3_4_5_6_7_8_9_10_11_12_13_14_15_16_17_18_19_20_21_22_23_24 q cI cJ cD Tn Ta Fn Fa Ba Rn Ra Rb Rd Ua Wg Wz Ww Wr Mh Mn Mm Mt Mk Ms Me Mp Mw Ml My Oa Od) H → va_S (fun a : Nat => s.heap.size ≤ a) s.heap H locs → ∀ ls : Array Slot, lv_has ls 10 [] → W p l e room_1 s m #[Value.ref b] below meth c H locs (25 + k + 1) (1025 + 6 * k + 6) (lw_Z below #[Value.ref b] s) (F0 m 355 ls []) := by
  obtain ⟨hx, hb, hr, hml, hown, hts0, hX, hbl, hlocks, hgv⟩ := id C0
  have hown : s.vm.findClass RL = some m.cls := hown
  have hts : ∀ w ∈ wsL_law, w.before #[Value.ref b] s = true := fun w h => hts0 w (wsL_law_in w h)
  have hbA : ¬ (fun a : Nat => s.heap.size ≤ a) b := Nat.not_le.mpr hbl
  intro H locs hP hS ls hl
  unfold fL_law_J355 at hf
  refine lv_iconst (v := (0 : Int32)) hx hb dL_law_355 (by decide) ?_
  exact absurd hf (by decide)
set_option maxHeartbeats 4000000 in
set_option maxRecDepth 100000 in
theorem law_J1892 {p : Program} {l : Launch} {e : Env} {s : State} {m : MethodId} {below : List Frame} {meth : Method} {c : Code} {b L : Nat} {xs : Nat → Int32} (hL : L ≤ 2560) (C0 : lw_At p s m meth c b L xs) (hlt : l.stackTraces = false) (D : va_G) (cI cJ cD : ClassId) (sa : Nat → Nat) (q : Nat → Nat) (hq : gInj q) (hqA : ∀ k, k < 25 → s.heap.size ≤ q k) (hE : gEv D cI cJ cD s) (hXe : gXe sa (fun a => s.heap.size ≤ a) s s.heap) (N : Nat) (k : Nat) (hk : 5 * k ≤ L) (Tn : Int32) (Ta : (Nat → Int32)) (Fn : Int32) (Fa : (Nat → Int32)) (Ba : (Nat → Int32)) (Rn : Int32) (Ra : (Nat → Int32)) (Rb : (Nat → Int32)) (Rd : (Nat → Int32)) (Ua : (Nat → Int32)) (Wg : Int32) (Wz : Int32) (Ww : Int32) (Wr : Int32) (Mh : Int32) (Mn : Int32) (Mm : Int32) (Mt : (Nat → Int32)) (Mk : (Nat → Int32)) (Ms : (Nat → Int32)) (Me : (Nat → Int32)) (Mp : (Nat → Int32)) (Mw : (Nat → Int32)) (Ml : (Nat → Int32)) (My : (Nat → Int64)) (Oa : (Nat → Int64)) (Od : (Nat → UInt64)) (hf : fL_law_J1892 N L xs Tn Ta Fn Fa Ba Rn Ra Rb Rd Ua Wg Wz Ww Wr Mh Mn Mm Mt Mk Ms Me Mp Mw Ml My Oa Od = some 1) : ∀ (H : Heap) (locs : List Loc), va_P D vwCl (w_0_1_2_3_4_5_6_7_8_9_10_11_12_13_14_15_16_17_18_19_20_21_22_23_24 q cI cJ cD Tn Ta Fn Fa Ba Rn Ra Rb Rd Ua Wg Wz Ww Wr Mh Mn Mm Mt Mk Ms Me Mp Mw Ml My Oa Od) H → va_S (fun a : Nat => s.heap.size ≤ a) s.heap H locs → ∀ ls : Array Slot, lv_has ls 10 [] → W p l e room_1 s m #[Value.ref b] below meth c H locs (25 + k + 1) (1025 + 6 * k + 6) (lw_Z below #[Value.ref b] s) (F0 m 1892 ls []) := by
  obtain ⟨hx, hb, hr, hml, hown, hts0, hX, hbl, hlocks, hgv⟩ := id C0
  have hown : s.vm.findClass RL = some m.cls := hown
  have hts : ∀ w ∈ wsL_law, w.before #[Value.ref b] s = true := fun w h => hts0 w (wsL_law_in w h)
  have hbA : ¬ (fun a : Nat => s.heap.size ≤ a) b := Nat.not_le.mpr hbl
  intro H locs hP hS ls hl
  unfold fL_law_J1892 at hf
  refine lv_iconst (v := (0 : Int32)) hx hb dL_law_1892 (by decide) ?_
  exact absurd hf (by decide)
set_option maxHeartbeats 4000000 in
set_option maxRecDepth 100000 in
theorem law_J1397 {p : Program} {l : Launch} {e : Env} {s : State} {m : MethodId} {below : List Frame} {meth : Method} {c : Code} {b L : Nat} {xs : Nat → Int32} (hL : L ≤ 2560) (C0 : lw_At p s m meth c b L xs) (hlt : l.stackTraces = false) (D : va_G) (cI cJ cD : ClassId) (sa : Nat → Nat) (q : Nat → Nat) (hq : gInj q) (hqA : ∀ k, k < 25 → s.heap.size ≤ q k) (hE : gEv D cI cJ cD s) (hXe : gXe sa (fun a => s.heap.size ≤ a) s s.heap) (N : Nat) (k : Nat) (hk : 5 * k ≤ L) (Tn : Int32) (Ta : (Nat → Int32)) (Fn : Int32) (Fa : (Nat → Int32)) (Ba : (Nat → Int32)) (Rn : Int32) (Ra : (Nat → Int32)) (Rb : (Nat → Int32)) (Rd : (Nat → Int32)) (Ua : (Nat → Int32)) (Wg : Int32) (Wz : Int32) (Ww : Int32) (Wr : Int32) (Mh : Int32) (Mn : Int32) (Mm : Int32) (Mt : (Nat → Int32)) (Mk : (Nat → Int32)) (Ms : (Nat → Int32)) (Me : (Nat → Int32)) (Mp : (Nat → Int32)) (Mw : (Nat → Int32)) (Ml : (Nat → Int32)) (My : (Nat → Int64)) (Oa : (Nat → Int64)) (Od : (Nat → UInt64)) (hf : fL_law_J1397 N L xs Tn Ta Fn Fa Ba Rn Ra Rb Rd Ua Wg Wz Ww Wr Mh Mn Mm Mt Mk Ms Me Mp Mw Ml My Oa Od = some 1) : ∀ (H : Heap) (locs : List Loc), va_P D vwCl (w_0_1_2_3_4_5_6_7_8_9_10_11_12_13_14_15_16_17_18_19_20_21_22_23_24 q cI cJ cD Tn Ta Fn Fa Ba Rn Ra Rb Rd Ua Wg Wz Ww Wr Mh Mn Mm Mt Mk Ms Me Mp Mw Ml My Oa Od) H → va_S (fun a : Nat => s.heap.size ≤ a) s.heap H locs → ∀ ls : Array Slot, lv_has ls 10 [] → W p l e room_1 s m #[Value.ref b] below meth c H locs (25 + k + 1) (1025 + 6 * k + 6) (lw_Z below #[Value.ref b] s) (F0 m 1397 ls []) := by
  obtain ⟨hx, hb, hr, hml, hown, hts0, hX, hbl, hlocks, hgv⟩ := id C0
  have hown : s.vm.findClass RL = some m.cls := hown
  have hts : ∀ w ∈ wsL_law, w.before #[Value.ref b] s = true := fun w h => hts0 w (wsL_law_in w h)
  have hbA : ¬ (fun a : Nat => s.heap.size ≤ a) b := Nat.not_le.mpr hbl
  intro H locs hP hS ls hl
  unfold fL_law_J1397 at hf
  refine lv_iconst (v := (0 : Int32)) hx hb dL_law_1397 (by decide) ?_
  exact absurd hf (by decide)
set_option maxHeartbeats 4000000 in
set_option maxRecDepth 100000 in
theorem law_J1916 {p : Program} {l : Launch} {e : Env} {s : State} {m : MethodId} {below : List Frame} {meth : Method} {c : Code} {b L : Nat} {xs : Nat → Int32} (hL : L ≤ 2560) (C0 : lw_At p s m meth c b L xs) (hlt : l.stackTraces = false) (D : va_G) (cI cJ cD : ClassId) (sa : Nat → Nat) (q : Nat → Nat) (hq : gInj q) (hqA : ∀ k, k < 25 → s.heap.size ≤ q k) (hE : gEv D cI cJ cD s) (hXe : gXe sa (fun a => s.heap.size ≤ a) s s.heap) (N : Nat) (k : Nat) (hk : 5 * k ≤ L) (Tn : Int32) (Ta : (Nat → Int32)) (Fn : Int32) (Fa : (Nat → Int32)) (Ba : (Nat → Int32)) (Rn : Int32) (Ra : (Nat → Int32)) (Rb : (Nat → Int32)) (Rd : (Nat → Int32)) (Ua : (Nat → Int32)) (Wg : Int32) (Wz : Int32) (Ww : Int32) (Wr : Int32) (Mh : Int32) (Mn : Int32) (Mm : Int32) (Mt : (Nat → Int32)) (Mk : (Nat → Int32)) (Ms : (Nat → Int32)) (Me : (Nat → Int32)) (Mp : (Nat → Int32)) (Mw : (Nat → Int32)) (Ml : (Nat → Int32)) (My : (Nat → Int64)) (Oa : (Nat → Int64)) (Od : (Nat → UInt64)) (hf : fL_law_J1916 N L xs Tn Ta Fn Fa Ba Rn Ra Rb Rd Ua Wg Wz Ww Wr Mh Mn Mm Mt Mk Ms Me Mp Mw Ml My Oa Od = some 1) : ∀ (H : Heap) (locs : List Loc), va_P D vwCl (w_0_1_2_3_4_5_6_7_8_9_10_11_12_13_14_15_16_17_18_19_20_21_22_23_24 q cI cJ cD Tn Ta Fn Fa Ba Rn Ra Rb Rd Ua Wg Wz Ww Wr Mh Mn Mm Mt Mk Ms Me Mp Mw Ml My Oa Od) H → va_S (fun a : Nat => s.heap.size ≤ a) s.heap H locs → ∀ ls : Array Slot, lv_has ls 10 [] → W p l e room_1 s m #[Value.ref b] below meth c H locs (25 + k + 1) (1025 + 6 * k + 6) (lw_Z below #[Value.ref b] s) (F0 m 1916 ls []) := by
  obtain ⟨hx, hb, hr, hml, hown, hts0, hX, hbl, hlocks, hgv⟩ := id C0
  have hown : s.vm.findClass RL = some m.cls := hown
  have hts : ∀ w ∈ wsL_law, w.before #[Value.ref b] s = true := fun w h => hts0 w (wsL_law_in w h)
  have hbA : ¬ (fun a : Nat => s.heap.size ≤ a) b := Nat.not_le.mpr hbl
  intro H locs hP hS ls hl
  unfold fL_law_J1916 at hf
  refine lv_iconst (v := (0 : Int32)) hx hb dL_law_1916 (by decide) ?_
  exact absurd hf (by decide)
set_option maxHeartbeats 4000000 in
set_option maxRecDepth 100000 in
theorem law_J2429 {p : Program} {l : Launch} {e : Env} {s : State} {m : MethodId} {below : List Frame} {meth : Method} {c : Code} {b L : Nat} {xs : Nat → Int32} (hL : L ≤ 2560) (C0 : lw_At p s m meth c b L xs) (hlt : l.stackTraces = false) (D : va_G) (cI cJ cD : ClassId) (sa : Nat → Nat) (q : Nat → Nat) (hq : gInj q) (hqA : ∀ k, k < 25 → s.heap.size ≤ q k) (hE : gEv D cI cJ cD s) (hXe : gXe sa (fun a => s.heap.size ≤ a) s s.heap) (N : Nat) (k : Nat) (hk : 5 * k ≤ L) (Tn : Int32) (Ta : (Nat → Int32)) (Fn : Int32) (Fa : (Nat → Int32)) (Ba : (Nat → Int32)) (Rn : Int32) (Ra : (Nat → Int32)) (Rb : (Nat → Int32)) (Rd : (Nat → Int32)) (Ua : (Nat → Int32)) (Wg : Int32) (Wz : Int32) (Ww : Int32) (Wr : Int32) (Mh : Int32) (Mn : Int32) (Mm : Int32) (Mt : (Nat → Int32)) (Mk : (Nat → Int32)) (Ms : (Nat → Int32)) (Me : (Nat → Int32)) (Mp : (Nat → Int32)) (Mw : (Nat → Int32)) (Ml : (Nat → Int32)) (My : (Nat → Int64)) (Oa : (Nat → Int64)) (Od : (Nat → UInt64)) (hf : fL_law_J2429 N L xs Tn Ta Fn Fa Ba Rn Ra Rb Rd Ua Wg Wz Ww Wr Mh Mn Mm Mt Mk Ms Me Mp Mw Ml My Oa Od = some 1) : ∀ (H : Heap) (locs : List Loc), va_P D vwCl (w_0_1_2_3_4_5_6_7_8_9_10_11_12_13_14_15_16_17_18_19_20_21_22_23_24 q cI cJ cD Tn Ta Fn Fa Ba Rn Ra Rb Rd Ua Wg Wz Ww Wr Mh Mn Mm Mt Mk Ms Me Mp Mw Ml My Oa Od) H → va_S (fun a : Nat => s.heap.size ≤ a) s.heap H locs → ∀ ls : Array Slot, lv_has ls 10 [] → W p l e room_1 s m #[Value.ref b] below meth c H locs (25 + k + 1) (1025 + 6 * k + 6) (lw_Z below #[Value.ref b] s) (F0 m 2429 ls []) := by
  obtain ⟨hx, hb, hr, hml, hown, hts0, hX, hbl, hlocks, hgv⟩ := id C0
  have hown : s.vm.findClass RL = some m.cls := hown
  have hts : ∀ w ∈ wsL_law, w.before #[Value.ref b] s = true := fun w h => hts0 w (wsL_law_in w h)
  have hbA : ¬ (fun a : Nat => s.heap.size ≤ a) b := Nat.not_le.mpr hbl
  intro H locs hP hS ls hl
  unfold fL_law_J2429 at hf
  refine lv_iconst (v := (0 : Int32)) hx hb dL_law_2429 (by decide) ?_
  exact absurd hf (by decide)
set_option maxHeartbeats 4000000 in
set_option maxRecDepth 100000 in
theorem law_J1414 {p : Program} {l : Launch} {e : Env} {s : State} {m : MethodId} {below : List Frame} {meth : Method} {c : Code} {b L : Nat} {xs : Nat → Int32} (hL : L ≤ 2560) (C0 : lw_At p s m meth c b L xs) (hlt : l.stackTraces = false) (D : va_G) (cI cJ cD : ClassId) (sa : Nat → Nat) (q : Nat → Nat) (hq : gInj q) (hqA : ∀ k, k < 25 → s.heap.size ≤ q k) (hE : gEv D cI cJ cD s) (hXe : gXe sa (fun a => s.heap.size ≤ a) s s.heap) (N : Nat) (k : Nat) (hk : 5 * k ≤ L) (Tn : Int32) (Ta : (Nat → Int32)) (Fn : Int32) (Fa : (Nat → Int32)) (Ba : (Nat → Int32)) (Rn : Int32) (Ra : (Nat → Int32)) (Rb : (Nat → Int32)) (Rd : (Nat → Int32)) (Ua : (Nat → Int32)) (Wg : Int32) (Wz : Int32) (Ww : Int32) (Wr : Int32) (Mh : Int32) (Mn : Int32) (Mm : Int32) (Mt : (Nat → Int32)) (Mk : (Nat → Int32)) (Ms : (Nat → Int32)) (Me : (Nat → Int32)) (Mp : (Nat → Int32)) (Mw : (Nat → Int32)) (Ml : (Nat → Int32)) (My : (Nat → Int64)) (Oa : (Nat → Int64)) (Od : (Nat → UInt64)) (hf : fL_law_J1414 N L xs Tn Ta Fn Fa Ba Rn Ra Rb Rd Ua Wg Wz Ww Wr Mh Mn Mm Mt Mk Ms Me Mp Mw Ml My Oa Od = some 1) : ∀ (H : Heap) (locs : List Loc), va_P D vwCl (w_0_1_2_3_4_5_6_7_8_9_10_11_12_13_14_15_16_17_18_19_20_21_22_23_24 q cI cJ cD Tn Ta Fn Fa Ba Rn Ra Rb Rd Ua Wg Wz Ww Wr Mh Mn Mm Mt Mk Ms Me Mp Mw Ml My Oa Od) H → va_S (fun a : Nat => s.heap.size ≤ a) s.heap H locs → ∀ ls : Array Slot, lv_has ls 10 [] → W p l e room_1 s m #[Value.ref b] below meth c H locs (25 + k + 1) (1025 + 6 * k + 6) (lw_Z below #[Value.ref b] s) (F0 m 1414 ls []) := by
  obtain ⟨hx, hb, hr, hml, hown, hts0, hX, hbl, hlocks, hgv⟩ := id C0
  have hown : s.vm.findClass RL = some m.cls := hown
  have hts : ∀ w ∈ wsL_law, w.before #[Value.ref b] s = true := fun w h => hts0 w (wsL_law_in w h)
  have hbA : ¬ (fun a : Nat => s.heap.size ≤ a) b := Nat.not_le.mpr hbl
  intro H locs hP hS ls hl
  unfold fL_law_J1414 at hf
  refine lv_iconst (v := (0 : Int32)) hx hb dL_law_1414 (by decide) ?_
  exact absurd hf (by decide)
set_option maxHeartbeats 4000000 in
set_option maxRecDepth 100000 in
theorem law_J2446 {p : Program} {l : Launch} {e : Env} {s : State} {m : MethodId} {below : List Frame} {meth : Method} {c : Code} {b L : Nat} {xs : Nat → Int32} (hL : L ≤ 2560) (C0 : lw_At p s m meth c b L xs) (hlt : l.stackTraces = false) (D : va_G) (cI cJ cD : ClassId) (sa : Nat → Nat) (q : Nat → Nat) (hq : gInj q) (hqA : ∀ k, k < 25 → s.heap.size ≤ q k) (hE : gEv D cI cJ cD s) (hXe : gXe sa (fun a => s.heap.size ≤ a) s s.heap) (N : Nat) (k : Nat) (hk : 5 * k ≤ L) (Tn : Int32) (Ta : (Nat → Int32)) (Fn : Int32) (Fa : (Nat → Int32)) (Ba : (Nat → Int32)) (Rn : Int32) (Ra : (Nat → Int32)) (Rb : (Nat → Int32)) (Rd : (Nat → Int32)) (Ua : (Nat → Int32)) (Wg : Int32) (Wz : Int32) (Ww : Int32) (Wr : Int32) (Mh : Int32) (Mn : Int32) (Mm : Int32) (Mt : (Nat → Int32)) (Mk : (Nat → Int32)) (Ms : (Nat → Int32)) (Me : (Nat → Int32)) (Mp : (Nat → Int32)) (Mw : (Nat → Int32)) (Ml : (Nat → Int32)) (My : (Nat → Int64)) (Oa : (Nat → Int64)) (Od : (Nat → UInt64)) (hf : fL_law_J2446 N L xs Tn Ta Fn Fa Ba Rn Ra Rb Rd Ua Wg Wz Ww Wr Mh Mn Mm Mt Mk Ms Me Mp Mw Ml My Oa Od = some 1) : ∀ (H : Heap) (locs : List Loc), va_P D vwCl (w_0_1_2_3_4_5_6_7_8_9_10_11_12_13_14_15_16_17_18_19_20_21_22_23_24 q cI cJ cD Tn Ta Fn Fa Ba Rn Ra Rb Rd Ua Wg Wz Ww Wr Mh Mn Mm Mt Mk Ms Me Mp Mw Ml My Oa Od) H → va_S (fun a : Nat => s.heap.size ≤ a) s.heap H locs → ∀ ls : Array Slot, lv_has ls 10 [] → W p l e room_1 s m #[Value.ref b] below meth c H locs (25 + k + 1) (1025 + 6 * k + 6) (lw_Z below #[Value.ref b] s) (F0 m 2446 ls []) := by
  obtain ⟨hx, hb, hr, hml, hown, hts0, hX, hbl, hlocks, hgv⟩ := id C0
  have hown : s.vm.findClass RL = some m.cls := hown
  have hts : ∀ w ∈ wsL_law, w.before #[Value.ref b] s = true := fun w h => hts0 w (wsL_law_in w h)
  have hbA : ¬ (fun a : Nat => s.heap.size ≤ a) b := Nat.not_le.mpr hbl
  intro H locs hP hS ls hl
  unfold fL_law_J2446 at hf
  refine lv_iconst (v := (0 : Int32)) hx hb dL_law_2446 (by decide) ?_
  exact absurd hf (by decide)
set_option maxHeartbeats 4000000 in
set_option maxRecDepth 100000 in
theorem law_J406 {p : Program} {l : Launch} {e : Env} {s : State} {m : MethodId} {below : List Frame} {meth : Method} {c : Code} {b L : Nat} {xs : Nat → Int32} (hL : L ≤ 2560) (C0 : lw_At p s m meth c b L xs) (hlt : l.stackTraces = false) (D : va_G) (cI cJ cD : ClassId) (sa : Nat → Nat) (q : Nat → Nat) (hq : gInj q) (hqA : ∀ k, k < 25 → s.heap.size ≤ q k) (hE : gEv D cI cJ cD s) (hXe : gXe sa (fun a => s.heap.size ≤ a) s s.heap) (N : Nat) (k : Nat) (hk : 5 * k ≤ L) (Tn : Int32) (Ta : (Nat → Int32)) (Fn : Int32) (Fa : (Nat → Int32)) (Ba : (Nat → Int32)) (Rn : Int32) (Ra : (Nat → Int32)) (Rb : (Nat → Int32)) (Rd : (Nat → Int32)) (Ua : (Nat → Int32)) (Wg : Int32) (Wz : Int32) (Ww : Int32) (Wr : Int32) (Mh : Int32) (Mn : Int32) (Mm : Int32) (Mt : (Nat → Int32)) (Mk : (Nat → Int32)) (Ms : (Nat → Int32)) (Me : (Nat → Int32)) (Mp : (Nat → Int32)) (Mw : (Nat → Int32)) (Ml : (Nat → Int32)) (My : (Nat → Int64)) (Oa : (Nat → Int64)) (Od : (Nat → UInt64)) (hf : fL_law_J406 N L xs Tn Ta Fn Fa Ba Rn Ra Rb Rd Ua Wg Wz Ww Wr Mh Mn Mm Mt Mk Ms Me Mp Mw Ml My Oa Od = some 1) : ∀ (H : Heap) (locs : List Loc), va_P D vwCl (w_0_1_2_3_4_5_6_7_8_9_10_11_12_13_14_15_16_17_18_19_20_21_22_23_24 q cI cJ cD Tn Ta Fn Fa Ba Rn Ra Rb Rd Ua Wg Wz Ww Wr Mh Mn Mm Mt Mk Ms Me Mp Mw Ml My Oa Od) H → va_S (fun a : Nat => s.heap.size ≤ a) s.heap H locs → ∀ ls : Array Slot, lv_has ls 10 [] → W p l e room_1 s m #[Value.ref b] below meth c H locs (25 + k + 1) (1025 + 6 * k + 6) (lw_Z below #[Value.ref b] s) (F0 m 406 ls []) := by
  obtain ⟨hx, hb, hr, hml, hown, hts0, hX, hbl, hlocks, hgv⟩ := id C0
  have hown : s.vm.findClass RL = some m.cls := hown
  have hts : ∀ w ∈ wsL_law, w.before #[Value.ref b] s = true := fun w h => hts0 w (wsL_law_in w h)
  have hbA : ¬ (fun a : Nat => s.heap.size ≤ a) b := Nat.not_le.mpr hbl
  intro H locs hP hS ls hl
  unfold fL_law_J406 at hf
  refine lv_iconst (v := (0 : Int32)) hx hb dL_law_406 (by decide) ?_
  exact absurd hf (by decide)
set_option maxHeartbeats 4000000 in
set_option maxRecDepth 100000 in
theorem law_J921 {p : Program} {l : Launch} {e : Env} {s : State} {m : MethodId} {below : List Frame} {meth : Method} {c : Code} {b L : Nat} {xs : Nat → Int32} (hL : L ≤ 2560) (C0 : lw_At p s m meth c b L xs) (hlt : l.stackTraces = false) (D : va_G) (cI cJ cD : ClassId) (sa : Nat → Nat) (q : Nat → Nat) (hq : gInj q) (hqA : ∀ k, k < 25 → s.heap.size ≤ q k) (hE : gEv D cI cJ cD s) (hXe : gXe sa (fun a => s.heap.size ≤ a) s s.heap) (N : Nat) (k : Nat) (hk : 5 * k ≤ L) (Tn : Int32) (Ta : (Nat → Int32)) (Fn : Int32) (Fa : (Nat → Int32)) (Ba : (Nat → Int32)) (Rn : Int32) (Ra : (Nat → Int32)) (Rb : (Nat → Int32)) (Rd : (Nat → Int32)) (Ua : (Nat → Int32)) (Wg : Int32) (Wz : Int32) (Ww : Int32) (Wr : Int32) (Mh : Int32) (Mn : Int32) (Mm : Int32) (Mt : (Nat → Int32)) (Mk : (Nat → Int32)) (Ms : (Nat → Int32)) (Me : (Nat → Int32)) (Mp : (Nat → Int32)) (Mw : (Nat → Int32)) (Ml : (Nat → Int32)) (My : (Nat → Int64)) (Oa : (Nat → Int64)) (Od : (Nat → UInt64)) (hf : fL_law_J921 N L xs Tn Ta Fn Fa Ba Rn Ra Rb Rd Ua Wg Wz Ww Wr Mh Mn Mm Mt Mk Ms Me Mp Mw Ml My Oa Od = some 1) : ∀ (H : Heap) (locs : List Loc), va_P D vwCl (w_0_1_2_3_4_5_6_7_8_9_10_11_12_13_14_15_16_17_18_19_20_21_22_23_24 q cI cJ cD Tn Ta Fn Fa Ba Rn Ra Rb Rd Ua Wg Wz Ww Wr Mh Mn Mm Mt Mk Ms Me Mp Mw Ml My Oa Od) H → va_S (fun a : Nat => s.heap.size ≤ a) s.heap H locs → ∀ ls : Array Slot, lv_has ls 10 [] → W p l e room_1 s m #[Value.ref b] below meth c H locs (25 + k + 1) (1025 + 6 * k + 6) (lw_Z below #[Value.ref b] s) (F0 m 921 ls []) := by
  obtain ⟨hx, hb, hr, hml, hown, hts0, hX, hbl, hlocks, hgv⟩ := id C0
  have hown : s.vm.findClass RL = some m.cls := hown
  have hts : ∀ w ∈ wsL_law, w.before #[Value.ref b] s = true := fun w h => hts0 w (wsL_law_in w h)
  have hbA : ¬ (fun a : Nat => s.heap.size ≤ a) b := Nat.not_le.mpr hbl
  intro H locs hP hS ls hl
  unfold fL_law_J921 at hf
  refine lv_iconst (v := (0 : Int32)) hx hb dL_law_921 (by decide) ?_
  exact absurd hf (by decide)
set_option maxHeartbeats 4000000 in
set_option maxRecDepth 100000 in
theorem law_J423 {p : Program} {l : Launch} {e : Env} {s : State} {m : MethodId} {below : List Frame} {meth : Method} {c : Code} {b L : Nat} {xs : Nat → Int32} (hL : L ≤ 2560) (C0 : lw_At p s m meth c b L xs) (hlt : l.stackTraces = false) (D : va_G) (cI cJ cD : ClassId) (sa : Nat → Nat) (q : Nat → Nat) (hq : gInj q) (hqA : ∀ k, k < 25 → s.heap.size ≤ q k) (hE : gEv D cI cJ cD s) (hXe : gXe sa (fun a => s.heap.size ≤ a) s s.heap) (N : Nat) (k : Nat) (hk : 5 * k ≤ L) (Tn : Int32) (Ta : (Nat → Int32)) (Fn : Int32) (Fa : (Nat → Int32)) (Ba : (Nat → Int32)) (Rn : Int32) (Ra : (Nat → Int32)) (Rb : (Nat → Int32)) (Rd : (Nat → Int32)) (Ua : (Nat → Int32)) (Wg : Int32) (Wz : Int32) (Ww : Int32) (Wr : Int32) (Mh : Int32) (Mn : Int32) (Mm : Int32) (Mt : (Nat → Int32)) (Mk : (Nat → Int32)) (Ms : (Nat → Int32)) (Me : (Nat → Int32)) (Mp : (Nat → Int32)) (Mw : (Nat → Int32)) (Ml : (Nat → Int32)) (My : (Nat → Int64)) (Oa : (Nat → Int64)) (Od : (Nat → UInt64)) (hf : fL_law_J423 N L xs Tn Ta Fn Fa Ba Rn Ra Rb Rd Ua Wg Wz Ww Wr Mh Mn Mm Mt Mk Ms Me Mp Mw Ml My Oa Od = some 1) : ∀ (H : Heap) (locs : List Loc), va_P D vwCl (w_0_1_2_3_4_5_6_7_8_9_10_11_12_13_14_15_16_17_18_19_20_21_22_23_24 q cI cJ cD Tn Ta Fn Fa Ba Rn Ra Rb Rd Ua Wg Wz Ww Wr Mh Mn Mm Mt Mk Ms Me Mp Mw Ml My Oa Od) H → va_S (fun a : Nat => s.heap.size ≤ a) s.heap H locs → ∀ ls : Array Slot, lv_has ls 10 [] → W p l e room_1 s m #[Value.ref b] below meth c H locs (25 + k + 1) (1025 + 6 * k + 6) (lw_Z below #[Value.ref b] s) (F0 m 423 ls []) := by
  obtain ⟨hx, hb, hr, hml, hown, hts0, hX, hbl, hlocks, hgv⟩ := id C0
  have hown : s.vm.findClass RL = some m.cls := hown
  have hts : ∀ w ∈ wsL_law, w.before #[Value.ref b] s = true := fun w h => hts0 w (wsL_law_in w h)
  have hbA : ¬ (fun a : Nat => s.heap.size ≤ a) b := Nat.not_le.mpr hbl
  intro H locs hP hS ls hl
  unfold fL_law_J423 at hf
  refine lv_iconst (v := (0 : Int32)) hx hb dL_law_423 (by decide) ?_
  exact absurd hf (by decide)
set_option maxHeartbeats 4000000 in
set_option maxRecDepth 100000 in
theorem law_J938 {p : Program} {l : Launch} {e : Env} {s : State} {m : MethodId} {below : List Frame} {meth : Method} {c : Code} {b L : Nat} {xs : Nat → Int32} (hL : L ≤ 2560) (C0 : lw_At p s m meth c b L xs) (hlt : l.stackTraces = false) (D : va_G) (cI cJ cD : ClassId) (sa : Nat → Nat) (q : Nat → Nat) (hq : gInj q) (hqA : ∀ k, k < 25 → s.heap.size ≤ q k) (hE : gEv D cI cJ cD s) (hXe : gXe sa (fun a => s.heap.size ≤ a) s s.heap) (N : Nat) (k : Nat) (hk : 5 * k ≤ L) (Tn : Int32) (Ta : (Nat → Int32)) (Fn : Int32) (Fa : (Nat → Int32)) (Ba : (Nat → Int32)) (Rn : Int32) (Ra : (Nat → Int32)) (Rb : (Nat → Int32)) (Rd : (Nat → Int32)) (Ua : (Nat → Int32)) (Wg : Int32) (Wz : Int32) (Ww : Int32) (Wr : Int32) (Mh : Int32) (Mn : Int32) (Mm : Int32) (Mt : (Nat → Int32)) (Mk : (Nat → Int32)) (Ms : (Nat → Int32)) (Me : (Nat → Int32)) (Mp : (Nat → Int32)) (Mw : (Nat → Int32)) (Ml : (Nat → Int32)) (My : (Nat → Int64)) (Oa : (Nat → Int64)) (Od : (Nat → UInt64)) (hf : fL_law_J938 N L xs Tn Ta Fn Fa Ba Rn Ra Rb Rd Ua Wg Wz Ww Wr Mh Mn Mm Mt Mk Ms Me Mp Mw Ml My Oa Od = some 1) : ∀ (H : Heap) (locs : List Loc), va_P D vwCl (w_0_1_2_3_4_5_6_7_8_9_10_11_12_13_14_15_16_17_18_19_20_21_22_23_24 q cI cJ cD Tn Ta Fn Fa Ba Rn Ra Rb Rd Ua Wg Wz Ww Wr Mh Mn Mm Mt Mk Ms Me Mp Mw Ml My Oa Od) H → va_S (fun a : Nat => s.heap.size ≤ a) s.heap H locs → ∀ ls : Array Slot, lv_has ls 10 [] → W p l e room_1 s m #[Value.ref b] below meth c H locs (25 + k + 1) (1025 + 6 * k + 6) (lw_Z below #[Value.ref b] s) (F0 m 938 ls []) := by
  obtain ⟨hx, hb, hr, hml, hown, hts0, hX, hbl, hlocks, hgv⟩ := id C0
  have hown : s.vm.findClass RL = some m.cls := hown
  have hts : ∀ w ∈ wsL_law, w.before #[Value.ref b] s = true := fun w h => hts0 w (wsL_law_in w h)
  have hbA : ¬ (fun a : Nat => s.heap.size ≤ a) b := Nat.not_le.mpr hbl
  intro H locs hP hS ls hl
  unfold fL_law_J938 at hf
  refine lv_iconst (v := (0 : Int32)) hx hb dL_law_938 (by decide) ?_
  exact absurd hf (by decide)
set_option maxHeartbeats 4000000 in
set_option maxRecDepth 100000 in
theorem law_J1967 {p : Program} {l : Launch} {e : Env} {s : State} {m : MethodId} {below : List Frame} {meth : Method} {c : Code} {b L : Nat} {xs : Nat → Int32} (hL : L ≤ 2560) (C0 : lw_At p s m meth c b L xs) (hlt : l.stackTraces = false) (D : va_G) (cI cJ cD : ClassId) (sa : Nat → Nat) (q : Nat → Nat) (hq : gInj q) (hqA : ∀ k, k < 25 → s.heap.size ≤ q k) (hE : gEv D cI cJ cD s) (hXe : gXe sa (fun a => s.heap.size ≤ a) s s.heap) (N : Nat) (k : Nat) (hk : 5 * k ≤ L) (Tn : Int32) (Ta : (Nat → Int32)) (Fn : Int32) (Fa : (Nat → Int32)) (Ba : (Nat → Int32)) (Rn : Int32) (Ra : (Nat → Int32)) (Rb : (Nat → Int32)) (Rd : (Nat → Int32)) (Ua : (Nat → Int32)) (Wg : Int32) (Wz : Int32) (Ww : Int32) (Wr : Int32) (Mh : Int32) (Mn : Int32) (Mm : Int32) (Mt : (Nat → Int32)) (Mk : (Nat → Int32)) (Ms : (Nat → Int32)) (Me : (Nat → Int32)) (Mp : (Nat → Int32)) (Mw : (Nat → Int32)) (Ml : (Nat → Int32)) (My : (Nat → Int64)) (Oa : (Nat → Int64)) (Od : (Nat → UInt64)) (hf : fL_law_J1967 N L xs Tn Ta Fn Fa Ba Rn Ra Rb Rd Ua Wg Wz Ww Wr Mh Mn Mm Mt Mk Ms Me Mp Mw Ml My Oa Od = some 1) : ∀ (H : Heap) (locs : List Loc), va_P D vwCl (w_0_1_2_3_4_5_6_7_8_9_10_11_12_13_14_15_16_17_18_19_20_21_22_23_24 q cI cJ cD Tn Ta Fn Fa Ba Rn Ra Rb Rd Ua Wg Wz Ww Wr Mh Mn Mm Mt Mk Ms Me Mp Mw Ml My Oa Od) H → va_S (fun a : Nat => s.heap.size ≤ a) s.heap H locs → ∀ ls : Array Slot, lv_has ls 10 [] → W p l e room_1 s m #[Value.ref b] below meth c H locs (25 + k + 1) (1025 + 6 * k + 6) (lw_Z below #[Value.ref b] s) (F0 m 1967 ls []) := by
  obtain ⟨hx, hb, hr, hml, hown, hts0, hX, hbl, hlocks, hgv⟩ := id C0
  have hown : s.vm.findClass RL = some m.cls := hown
  have hts : ∀ w ∈ wsL_law, w.before #[Value.ref b] s = true := fun w h => hts0 w (wsL_law_in w h)
  have hbA : ¬ (fun a : Nat => s.heap.size ≤ a) b := Nat.not_le.mpr hbl
  intro H locs hP hS ls hl
  unfold fL_law_J1967 at hf
  refine lv_iconst (v := (0 : Int32)) hx hb dL_law_1967 (by decide) ?_
  exact absurd hf (by decide)
set_option maxHeartbeats 4000000 in
set_option maxRecDepth 100000 in
theorem law_J2487 {p : Program} {l : Launch} {e : Env} {s : State} {m : MethodId} {below : List Frame} {meth : Method} {c : Code} {b L : Nat} {xs : Nat → Int32} (hL : L ≤ 2560) (C0 : lw_At p s m meth c b L xs) (hlt : l.stackTraces = false) (D : va_G) (cI cJ cD : ClassId) (sa : Nat → Nat) (q : Nat → Nat) (hq : gInj q) (hqA : ∀ k, k < 25 → s.heap.size ≤ q k) (hE : gEv D cI cJ cD s) (hXe : gXe sa (fun a => s.heap.size ≤ a) s s.heap) (N : Nat) (k : Nat) (hk : 5 * k ≤ L) (Tn : Int32) (Ta : (Nat → Int32)) (Fn : Int32) (Fa : (Nat → Int32)) (Ba : (Nat → Int32)) (Rn : Int32) (Ra : (Nat → Int32)) (Rb : (Nat → Int32)) (Rd : (Nat → Int32)) (Ua : (Nat → Int32)) (Wg : Int32) (Wz : Int32) (Ww : Int32) (Wr : Int32) (Mh : Int32) (Mn : Int32) (Mm : Int32) (Mt : (Nat → Int32)) (Mk : (Nat → Int32)) (Ms : (Nat → Int32)) (Me : (Nat → Int32)) (Mp : (Nat → Int32)) (Mw : (Nat → Int32)) (Ml : (Nat → Int32)) (My : (Nat → Int64)) (Oa : (Nat → Int64)) (Od : (Nat → UInt64)) (hf : fL_law_J2487 N L xs Tn Ta Fn Fa Ba Rn Ra Rb Rd Ua Wg Wz Ww Wr Mh Mn Mm Mt Mk Ms Me Mp Mw Ml My Oa Od = some 1) : ∀ (H : Heap) (locs : List Loc), va_P D vwCl (w_0_1_2_3_4_5_6_7_8_9_10_11_12_13_14_15_16_17_18_19_20_21_22_23_24 q cI cJ cD Tn Ta Fn Fa Ba Rn Ra Rb Rd Ua Wg Wz Ww Wr Mh Mn Mm Mt Mk Ms Me Mp Mw Ml My Oa Od) H → va_S (fun a : Nat => s.heap.size ≤ a) s.heap H locs → ∀ ls : Array Slot, lv_has ls 10 [] → W p l e room_1 s m #[Value.ref b] below meth c H locs (25 + k) (1025 + 6 * k) (lw_Z below #[Value.ref b] s) (F0 m 2487 ls []) := by
  obtain ⟨hx, hb, hr, hml, hown, hts0, hX, hbl, hlocks, hgv⟩ := id C0
  have hown : s.vm.findClass RL = some m.cls := hown
  have hts : ∀ w ∈ wsL_law, w.before #[Value.ref b] s = true := fun w h => hts0 w (wsL_law_in w h)
  have hbA : ¬ (fun a : Nat => s.heap.size ≤ a) b := Nat.not_le.mpr hbl
  intro H locs hP hS ls hl
  unfold fL_law_J2487 at hf
  refine lv_iconst (v := (0 : Int32)) hx hb dL_law_2487 (by decide) ?_
  exact absurd hf (by decide)
set_option maxHeartbeats 4000000 in
set_option maxRecDepth 100000 in
theorem law_J1465 {p : Program} {l : Launch} {e : Env} {s : State} {m : MethodId} {below : List Frame} {meth : Method} {c : Code} {b L : Nat} {xs : Nat → Int32} (hL : L ≤ 2560) (C0 : lw_At p s m meth c b L xs) (hlt : l.stackTraces = false) (D : va_G) (cI cJ cD : ClassId) (sa : Nat → Nat) (q : Nat → Nat) (hq : gInj q) (hqA : ∀ k, k < 25 → s.heap.size ≤ q k) (hE : gEv D cI cJ cD s) (hXe : gXe sa (fun a => s.heap.size ≤ a) s s.heap) (N : Nat) (k : Nat) (hk : 5 * k ≤ L) (Tn : Int32) (Ta : (Nat → Int32)) (Fn : Int32) (Fa : (Nat → Int32)) (Ba : (Nat → Int32)) (Rn : Int32) (Ra : (Nat → Int32)) (Rb : (Nat → Int32)) (Rd : (Nat → Int32)) (Ua : (Nat → Int32)) (Wg : Int32) (Wz : Int32) (Ww : Int32) (Wr : Int32) (Mh : Int32) (Mn : Int32) (Mm : Int32) (Mt : (Nat → Int32)) (Mk : (Nat → Int32)) (Ms : (Nat → Int32)) (Me : (Nat → Int32)) (Mp : (Nat → Int32)) (Mw : (Nat → Int32)) (Ml : (Nat → Int32)) (My : (Nat → Int64)) (Oa : (Nat → Int64)) (Od : (Nat → UInt64)) (hf : fL_law_J1465 N L xs Tn Ta Fn Fa Ba Rn Ra Rb Rd Ua Wg Wz Ww Wr Mh Mn Mm Mt Mk Ms Me Mp Mw Ml My Oa Od = some 1) : ∀ (H : Heap) (locs : List Loc), va_P D vwCl (w_0_1_2_3_4_5_6_7_8_9_10_11_12_13_14_15_16_17_18_19_20_21_22_23_24 q cI cJ cD Tn Ta Fn Fa Ba Rn Ra Rb Rd Ua Wg Wz Ww Wr Mh Mn Mm Mt Mk Ms Me Mp Mw Ml My Oa Od) H → va_S (fun a : Nat => s.heap.size ≤ a) s.heap H locs → ∀ ls : Array Slot, lv_has ls 10 [] → W p l e room_1 s m #[Value.ref b] below meth c H locs (25 + k + 1) (1025 + 6 * k + 6) (lw_Z below #[Value.ref b] s) (F0 m 1465 ls []) := by
  obtain ⟨hx, hb, hr, hml, hown, hts0, hX, hbl, hlocks, hgv⟩ := id C0
  have hown : s.vm.findClass RL = some m.cls := hown
  have hts : ∀ w ∈ wsL_law, w.before #[Value.ref b] s = true := fun w h => hts0 w (wsL_law_in w h)
  have hbA : ¬ (fun a : Nat => s.heap.size ≤ a) b := Nat.not_le.mpr hbl
  intro H locs hP hS ls hl
  unfold fL_law_J1465 at hf
  refine lv_iconst (v := (0 : Int32)) hx hb dL_law_1465 (by decide) ?_
  exact absurd hf (by decide)
set_option maxHeartbeats 4000000 in
set_option maxRecDepth 100000 in
theorem law_J1984 {p : Program} {l : Launch} {e : Env} {s : State} {m : MethodId} {below : List Frame} {meth : Method} {c : Code} {b L : Nat} {xs : Nat → Int32} (hL : L ≤ 2560) (C0 : lw_At p s m meth c b L xs) (hlt : l.stackTraces = false) (D : va_G) (cI cJ cD : ClassId) (sa : Nat → Nat) (q : Nat → Nat) (hq : gInj q) (hqA : ∀ k, k < 25 → s.heap.size ≤ q k) (hE : gEv D cI cJ cD s) (hXe : gXe sa (fun a => s.heap.size ≤ a) s s.heap) (N : Nat) (k : Nat) (hk : 5 * k ≤ L) (Tn : Int32) (Ta : (Nat → Int32)) (Fn : Int32) (Fa : (Nat → Int32)) (Ba : (Nat → Int32)) (Rn : Int32) (Ra : (Nat → Int32)) (Rb : (Nat → Int32)) (Rd : (Nat → Int32)) (Ua : (Nat → Int32)) (Wg : Int32) (Wz : Int32) (Ww : Int32) (Wr : Int32) (Mh : Int32) (Mn : Int32) (Mm : Int32) (Mt : (Nat → Int32)) (Mk : (Nat → Int32)) (Ms : (Nat → Int32)) (Me : (Nat → Int32)) (Mp : (Nat → Int32)) (Mw : (Nat → Int32)) (Ml : (Nat → Int32)) (My : (Nat → Int64)) (Oa : (Nat → Int64)) (Od : (Nat → UInt64)) (hf : fL_law_J1984 N L xs Tn Ta Fn Fa Ba Rn Ra Rb Rd Ua Wg Wz Ww Wr Mh Mn Mm Mt Mk Ms Me Mp Mw Ml My Oa Od = some 1) : ∀ (H : Heap) (locs : List Loc), va_P D vwCl (w_0_1_2_3_4_5_6_7_8_9_10_11_12_13_14_15_16_17_18_19_20_21_22_23_24 q cI cJ cD Tn Ta Fn Fa Ba Rn Ra Rb Rd Ua Wg Wz Ww Wr Mh Mn Mm Mt Mk Ms Me Mp Mw Ml My Oa Od) H → va_S (fun a : Nat => s.heap.size ≤ a) s.heap H locs → ∀ ls : Array Slot, lv_has ls 10 [] → W p l e room_1 s m #[Value.ref b] below meth c H locs (25 + k + 1) (1025 + 6 * k + 6) (lw_Z below #[Value.ref b] s) (F0 m 1984 ls []) := by
  obtain ⟨hx, hb, hr, hml, hown, hts0, hX, hbl, hlocks, hgv⟩ := id C0
  have hown : s.vm.findClass RL = some m.cls := hown
  have hts : ∀ w ∈ wsL_law, w.before #[Value.ref b] s = true := fun w h => hts0 w (wsL_law_in w h)
  have hbA : ¬ (fun a : Nat => s.heap.size ≤ a) b := Nat.not_le.mpr hbl
  intro H locs hP hS ls hl
  unfold fL_law_J1984 at hf
  refine lv_iconst (v := (0 : Int32)) hx hb dL_law_1984 (by decide) ?_
  exact absurd hf (by decide)
set_option maxHeartbeats 4000000 in
set_option maxRecDepth 100000 in
theorem law_J2503 {p : Program} {l : Launch} {e : Env} {s : State} {m : MethodId} {below : List Frame} {meth : Method} {c : Code} {b L : Nat} {xs : Nat → Int32} (hL : L ≤ 2560) (C0 : lw_At p s m meth c b L xs) (hlt : l.stackTraces = false) (D : va_G) (cI cJ cD : ClassId) (sa : Nat → Nat) (q : Nat → Nat) (hq : gInj q) (hqA : ∀ k, k < 25 → s.heap.size ≤ q k) (hE : gEv D cI cJ cD s) (hXe : gXe sa (fun a => s.heap.size ≤ a) s s.heap) (N : Nat) (k : Nat) (hk : 5 * k ≤ L) (Tn : Int32) (Ta : (Nat → Int32)) (Fn : Int32) (Fa : (Nat → Int32)) (Ba : (Nat → Int32)) (Rn : Int32) (Ra : (Nat → Int32)) (Rb : (Nat → Int32)) (Rd : (Nat → Int32)) (Ua : (Nat → Int32)) (Wg : Int32) (Wz : Int32) (Ww : Int32) (Wr : Int32) (Mh : Int32) (Mn : Int32) (Mm : Int32) (Mt : (Nat → Int32)) (Mk : (Nat → Int32)) (Ms : (Nat → Int32)) (Me : (Nat → Int32)) (Mp : (Nat → Int32)) (Mw : (Nat → Int32)) (Ml : (Nat → Int32)) (My : (Nat → Int64)) (Oa : (Nat → Int64)) (Od : (Nat → UInt64)) (hf : fL_law_J2503 N L xs Tn Ta Fn Fa Ba Rn Ra Rb Rd Ua Wg Wz Ww Wr Mh Mn Mm Mt Mk Ms Me Mp Mw Ml My Oa Od = some 1) : ∀ (H : Heap) (locs : List Loc), va_P D vwCl (w_0_1_2_3_4_5_6_7_8_9_10_11_12_13_14_15_16_17_18_19_20_21_22_23_24 q cI cJ cD Tn Ta Fn Fa Ba Rn Ra Rb Rd Ua Wg Wz Ww Wr Mh Mn Mm Mt Mk Ms Me Mp Mw Ml My Oa Od) H → va_S (fun a : Nat => s.heap.size ≤ a) s.heap H locs → ∀ ls : Array Slot, lv_has ls 10 [] → W p l e room_1 s m #[Value.ref b] below meth c H locs (25 + k) (1025 + 6 * k) (lw_Z below #[Value.ref b] s) (F0 m 2503 ls []) := by
  obtain ⟨hx, hb, hr, hml, hown, hts0, hX, hbl, hlocks, hgv⟩ := id C0
  have hown : s.vm.findClass RL = some m.cls := hown
  have hts : ∀ w ∈ wsL_law, w.before #[Value.ref b] s = true := fun w h => hts0 w (wsL_law_in w h)
  have hbA : ¬ (fun a : Nat => s.heap.size ≤ a) b := Nat.not_le.mpr hbl
  intro H locs hP hS ls hl
  unfold fL_law_J2503 at hf
  refine lv_iconst (v := (0 : Int32)) hx hb dL_law_2503 (by decide) ?_
  exact absurd hf (by decide)
set_option maxHeartbeats 4000000 in
set_option maxRecDepth 100000 in
theorem law_J1482 {p : Program} {l : Launch} {e : Env} {s : State} {m : MethodId} {below : List Frame} {meth : Method} {c : Code} {b L : Nat} {xs : Nat → Int32} (hL : L ≤ 2560) (C0 : lw_At p s m meth c b L xs) (hlt : l.stackTraces = false) (D : va_G) (cI cJ cD : ClassId) (sa : Nat → Nat) (q : Nat → Nat) (hq : gInj q) (hqA : ∀ k, k < 25 → s.heap.size ≤ q k) (hE : gEv D cI cJ cD s) (hXe : gXe sa (fun a => s.heap.size ≤ a) s s.heap) (N : Nat) (k : Nat) (hk : 5 * k ≤ L) (Tn : Int32) (Ta : (Nat → Int32)) (Fn : Int32) (Fa : (Nat → Int32)) (Ba : (Nat → Int32)) (Rn : Int32) (Ra : (Nat → Int32)) (Rb : (Nat → Int32)) (Rd : (Nat → Int32)) (Ua : (Nat → Int32)) (Wg : Int32) (Wz : Int32) (Ww : Int32) (Wr : Int32) (Mh : Int32) (Mn : Int32) (Mm : Int32) (Mt : (Nat → Int32)) (Mk : (Nat → Int32)) (Ms : (Nat → Int32)) (Me : (Nat → Int32)) (Mp : (Nat → Int32)) (Mw : (Nat → Int32)) (Ml : (Nat → Int32)) (My : (Nat → Int64)) (Oa : (Nat → Int64)) (Od : (Nat → UInt64)) (hf : fL_law_J1482 N L xs Tn Ta Fn Fa Ba Rn Ra Rb Rd Ua Wg Wz Ww Wr Mh Mn Mm Mt Mk Ms Me Mp Mw Ml My Oa Od = some 1) : ∀ (H : Heap) (locs : List Loc), va_P D vwCl (w_0_1_2_3_4_5_6_7_8_9_10_11_12_13_14_15_16_17_18_19_20_21_22_23_24 q cI cJ cD Tn Ta Fn Fa Ba Rn Ra Rb Rd Ua Wg Wz Ww Wr Mh Mn Mm Mt Mk Ms Me Mp Mw Ml My Oa Od) H → va_S (fun a : Nat => s.heap.size ≤ a) s.heap H locs → ∀ ls : Array Slot, lv_has ls 10 [] → W p l e room_1 s m #[Value.ref b] below meth c H locs (25 + k + 1) (1025 + 6 * k + 6) (lw_Z below #[Value.ref b] s) (F0 m 1482 ls []) := by
  obtain ⟨hx, hb, hr, hml, hown, hts0, hX, hbl, hlocks, hgv⟩ := id C0
  have hown : s.vm.findClass RL = some m.cls := hown
  have hts : ∀ w ∈ wsL_law, w.before #[Value.ref b] s = true := fun w h => hts0 w (wsL_law_in w h)
  have hbA : ¬ (fun a : Nat => s.heap.size ≤ a) b := Nat.not_le.mpr hbl
  intro H locs hP hS ls hl
  unfold fL_law_J1482 at hf
  refine lv_iconst (v := (0 : Int32)) hx hb dL_law_1482 (by decide) ?_
  exact absurd hf (by decide)
set_option maxHeartbeats 4000000 in
set_option maxRecDepth 100000 in
theorem law_J462 {p : Program} {l : Launch} {e : Env} {s : State} {m : MethodId} {below : List Frame} {meth : Method} {c : Code} {b L : Nat} {xs : Nat → Int32} (hL : L ≤ 2560) (C0 : lw_At p s m meth c b L xs) (hlt : l.stackTraces = false) (D : va_G) (cI cJ cD : ClassId) (sa : Nat → Nat) (q : Nat → Nat) (hq : gInj q) (hqA : ∀ k, k < 25 → s.heap.size ≤ q k) (hE : gEv D cI cJ cD s) (hXe : gXe sa (fun a => s.heap.size ≤ a) s s.heap) (N : Nat) (k : Nat) (hk : 5 * k ≤ L) (Tn : Int32) (Ta : (Nat → Int32)) (Fn : Int32) (Fa : (Nat → Int32)) (Ba : (Nat → Int32)) (Rn : Int32) (Ra : (Nat → Int32)) (Rb : (Nat → Int32)) (Rd : (Nat → Int32)) (Ua : (Nat → Int32)) (Wg : Int32) (Wz : Int32) (Ww : Int32) (Wr : Int32) (Mh : Int32) (Mn : Int32) (Mm : Int32) (Mt : (Nat → Int32)) (Mk : (Nat → Int32)) (Ms : (Nat → Int32)) (Me : (Nat → Int32)) (Mp : (Nat → Int32)) (Mw : (Nat → Int32)) (Ml : (Nat → Int32)) (My : (Nat → Int64)) (Oa : (Nat → Int64)) (Od : (Nat → UInt64)) (hf : fL_law_J462 N L xs Tn Ta Fn Fa Ba Rn Ra Rb Rd Ua Wg Wz Ww Wr Mh Mn Mm Mt Mk Ms Me Mp Mw Ml My Oa Od = some 1) : ∀ (H : Heap) (locs : List Loc), va_P D vwCl (w_0_1_2_3_4_5_6_7_8_9_10_11_12_13_14_15_16_17_18_19_20_21_22_23_24 q cI cJ cD Tn Ta Fn Fa Ba Rn Ra Rb Rd Ua Wg Wz Ww Wr Mh Mn Mm Mt Mk Ms Me Mp Mw Ml My Oa Od) H → va_S (fun a : Nat => s.heap.size ≤ a) s.heap H locs → ∀ ls : Array Slot, lv_has ls 10 [] → W p l e room_1 s m #[Value.ref b] below meth c H locs (25 + k + 1) (1025 + 6 * k + 6) (lw_Z below #[Value.ref b] s) (F0 m 462 ls []) := by
  obtain ⟨hx, hb, hr, hml, hown, hts0, hX, hbl, hlocks, hgv⟩ := id C0
  have hown : s.vm.findClass RL = some m.cls := hown
  have hts : ∀ w ∈ wsL_law, w.before #[Value.ref b] s = true := fun w h => hts0 w (wsL_law_in w h)
  have hbA : ¬ (fun a : Nat => s.heap.size ≤ a) b := Nat.not_le.mpr hbl
  intro H locs hP hS ls hl
  unfold fL_law_J462 at hf
  refine lv_iconst (v := (0 : Int32)) hx hb dL_law_462 (by decide) ?_
  exact absurd hf (by decide)
set_option maxHeartbeats 4000000 in
set_option maxRecDepth 100000 in
theorem law_J989 {p : Program} {l : Launch} {e : Env} {s : State} {m : MethodId} {below : List Frame} {meth : Method} {c : Code} {b L : Nat} {xs : Nat → Int32} (hL : L ≤ 2560) (C0 : lw_At p s m meth c b L xs) (hlt : l.stackTraces = false) (D : va_G) (cI cJ cD : ClassId) (sa : Nat → Nat) (q : Nat → Nat) (hq : gInj q) (hqA : ∀ k, k < 25 → s.heap.size ≤ q k) (hE : gEv D cI cJ cD s) (hXe : gXe sa (fun a => s.heap.size ≤ a) s s.heap) (N : Nat) (k : Nat) (hk : 5 * k ≤ L) (Tn : Int32) (Ta : (Nat → Int32)) (Fn : Int32) (Fa : (Nat → Int32)) (Ba : (Nat → Int32)) (Rn : Int32) (Ra : (Nat → Int32)) (Rb : (Nat → Int32)) (Rd : (Nat → Int32)) (Ua : (Nat → Int32)) (Wg : Int32) (Wz : Int32) (Ww : Int32) (Wr : Int32) (Mh : Int32) (Mn : Int32) (Mm : Int32) (Mt : (Nat → Int32)) (Mk : (Nat → Int32)) (Ms : (Nat → Int32)) (Me : (Nat → Int32)) (Mp : (Nat → Int32)) (Mw : (Nat → Int32)) (Ml : (Nat → Int32)) (My : (Nat → Int64)) (Oa : (Nat → Int64)) (Od : (Nat → UInt64)) (hf : fL_law_J989 N L xs Tn Ta Fn Fa Ba Rn Ra Rb Rd Ua Wg Wz Ww Wr Mh Mn Mm Mt Mk Ms Me Mp Mw Ml My Oa Od = some 1) : ∀ (H : Heap) (locs : List Loc), va_P D vwCl (w_0_1_2_3_4_5_6_7_8_9_10_11_12_13_14_15_16_17_18_19_20_21_22_23_24 q cI cJ cD Tn Ta Fn Fa Ba Rn Ra Rb Rd Ua Wg Wz Ww Wr Mh Mn Mm Mt Mk Ms Me Mp Mw Ml My Oa Od) H → va_S (fun a : Nat => s.heap.size ≤ a) s.heap H locs → ∀ ls : Array Slot, lv_has ls 10 [] → W p l e room_1 s m #[Value.ref b] below meth c H locs (25 + k + 1) (1025 + 6 * k + 6) (lw_Z below #[Value.ref b] s) (F0 m 989 ls []) := by
  obtain ⟨hx, hb, hr, hml, hown, hts0, hX, hbl, hlocks, hgv⟩ := id C0
  have hown : s.vm.findClass RL = some m.cls := hown
  have hts : ∀ w ∈ wsL_law, w.before #[Value.ref b] s = true := fun w h => hts0 w (wsL_law_in w h)
  have hbA : ¬ (fun a : Nat => s.heap.size ≤ a) b := Nat.not_le.mpr hbl
  intro H locs hP hS ls hl
  unfold fL_law_J989 at hf
  refine lv_iconst (v := (0 : Int32)) hx hb dL_law_989 (by decide) ?_
  exact absurd hf (by decide)
set_option maxHeartbeats 4000000 in
set_option maxRecDepth 100000 in
theorem law_J479 {p : Program} {l : Launch} {e : Env} {s : State} {m : MethodId} {below : List Frame} {meth : Method} {c : Code} {b L : Nat} {xs : Nat → Int32} (hL : L ≤ 2560) (C0 : lw_At p s m meth c b L xs) (hlt : l.stackTraces = false) (D : va_G) (cI cJ cD : ClassId) (sa : Nat → Nat) (q : Nat → Nat) (hq : gInj q) (hqA : ∀ k, k < 25 → s.heap.size ≤ q k) (hE : gEv D cI cJ cD s) (hXe : gXe sa (fun a => s.heap.size ≤ a) s s.heap) (N : Nat) (k : Nat) (hk : 5 * k ≤ L) (Tn : Int32) (Ta : (Nat → Int32)) (Fn : Int32) (Fa : (Nat → Int32)) (Ba : (Nat → Int32)) (Rn : Int32) (Ra : (Nat → Int32)) (Rb : (Nat → Int32)) (Rd : (Nat → Int32)) (Ua : (Nat → Int32)) (Wg : Int32) (Wz : Int32) (Ww : Int32) (Wr : Int32) (Mh : Int32) (Mn : Int32) (Mm : Int32) (Mt : (Nat → Int32)) (Mk : (Nat → Int32)) (Ms : (Nat → Int32)) (Me : (Nat → Int32)) (Mp : (Nat → Int32)) (Mw : (Nat → Int32)) (Ml : (Nat → Int32)) (My : (Nat → Int64)) (Oa : (Nat → Int64)) (Od : (Nat → UInt64)) (hf : fL_law_J479 N L xs Tn Ta Fn Fa Ba Rn Ra Rb Rd Ua Wg Wz Ww Wr Mh Mn Mm Mt Mk Ms Me Mp Mw Ml My Oa Od = some 1) : ∀ (H : Heap) (locs : List Loc), va_P D vwCl (w_0_1_2_3_4_5_6_7_8_9_10_11_12_13_14_15_16_17_18_19_20_21_22_23_24 q cI cJ cD Tn Ta Fn Fa Ba Rn Ra Rb Rd Ua Wg Wz Ww Wr Mh Mn Mm Mt Mk Ms Me Mp Mw Ml My Oa Od) H → va_S (fun a : Nat => s.heap.size ≤ a) s.heap H locs → ∀ ls : Array Slot, lv_has ls 10 [] → W p l e room_1 s m #[Value.ref b] below meth c H locs (25 + k + 1) (1025 + 6 * k + 6) (lw_Z below #[Value.ref b] s) (F0 m 479 ls []) := by
  obtain ⟨hx, hb, hr, hml, hown, hts0, hX, hbl, hlocks, hgv⟩ := id C0
  have hown : s.vm.findClass RL = some m.cls := hown
  have hts : ∀ w ∈ wsL_law, w.before #[Value.ref b] s = true := fun w h => hts0 w (wsL_law_in w h)
  have hbA : ¬ (fun a : Nat => s.heap.size ≤ a) b := Nat.not_le.mpr hbl
  intro H locs hP hS ls hl
  unfold fL_law_J479 at hf
  refine lv_iconst (v := (0 : Int32)) hx hb dL_law_479 (by decide) ?_
  exact absurd hf (by decide)
set_option maxHeartbeats 4000000 in
set_option maxRecDepth 100000 in
theorem law_J2539 {p : Program} {l : Launch} {e : Env} {s : State} {m : MethodId} {below : List Frame} {meth : Method} {c : Code} {b L : Nat} {xs : Nat → Int32} (hL : L ≤ 2560) (C0 : lw_At p s m meth c b L xs) (hlt : l.stackTraces = false) (D : va_G) (cI cJ cD : ClassId) (sa : Nat → Nat) (q : Nat → Nat) (hq : gInj q) (hqA : ∀ k, k < 25 → s.heap.size ≤ q k) (hE : gEv D cI cJ cD s) (hXe : gXe sa (fun a => s.heap.size ≤ a) s s.heap) (N : Nat) (k : Nat) (hk : 5 * k ≤ L) (Tn : Int32) (Ta : (Nat → Int32)) (Fn : Int32) (Fa : (Nat → Int32)) (Ba : (Nat → Int32)) (Rn : Int32) (Ra : (Nat → Int32)) (Rb : (Nat → Int32)) (Rd : (Nat → Int32)) (Ua : (Nat → Int32)) (Wg : Int32) (Wz : Int32) (Ww : Int32) (Wr : Int32) (Mh : Int32) (Mn : Int32) (Mm : Int32) (Mt : (Nat → Int32)) (Mk : (Nat → Int32)) (Ms : (Nat → Int32)) (Me : (Nat → Int32)) (Mp : (Nat → Int32)) (Mw : (Nat → Int32)) (Ml : (Nat → Int32)) (My : (Nat → Int64)) (Oa : (Nat → Int64)) (Od : (Nat → UInt64)) (hf : fL_law_J2539 N L xs Tn Ta Fn Fa Ba Rn Ra Rb Rd Ua Wg Wz Ww Wr Mh Mn Mm Mt Mk Ms Me Mp Mw Ml My Oa Od = some 1) : ∀ (H : Heap) (locs : List Loc), va_P D vwCl (w_0_1_2_3_4_5_6_7_8_9_10_11_12_13_14_15_16_17_18_19_20_21_22_23_24 q cI cJ cD Tn Ta Fn Fa Ba Rn Ra Rb Rd Ua Wg Wz Ww Wr Mh Mn Mm Mt Mk Ms Me Mp Mw Ml My Oa Od) H → va_S (fun a : Nat => s.heap.size ≤ a) s.heap H locs → ∀ ls : Array Slot, lv_has ls 10 [] → W p l e room_1 s m #[Value.ref b] below meth c H locs (25 + k + 1) (1025 + 6 * k + 6) (lw_Z below #[Value.ref b] s) (F0 m 2539 ls []) := by
  obtain ⟨hx, hb, hr, hml, hown, hts0, hX, hbl, hlocks, hgv⟩ := id C0
  have hown : s.vm.findClass RL = some m.cls := hown
  have hts : ∀ w ∈ wsL_law, w.before #[Value.ref b] s = true := fun w h => hts0 w (wsL_law_in w h)
  have hbA : ¬ (fun a : Nat => s.heap.size ≤ a) b := Nat.not_le.mpr hbl
  intro H locs hP hS ls hl
  unfold fL_law_J2539 at hf
  refine lv_iconst (v := (0 : Int32)) hx hb dL_law_2539 (by decide) ?_
  exact absurd hf (by decide)
set_option maxHeartbeats 4000000 in
set_option maxRecDepth 100000 in
theorem law_J1006 {p : Program} {l : Launch} {e : Env} {s : State} {m : MethodId} {below : List Frame} {meth : Method} {c : Code} {b L : Nat} {xs : Nat → Int32} (hL : L ≤ 2560) (C0 : lw_At p s m meth c b L xs) (hlt : l.stackTraces = false) (D : va_G) (cI cJ cD : ClassId) (sa : Nat → Nat) (q : Nat → Nat) (hq : gInj q) (hqA : ∀ k, k < 25 → s.heap.size ≤ q k) (hE : gEv D cI cJ cD s) (hXe : gXe sa (fun a => s.heap.size ≤ a) s s.heap) (N : Nat) (k : Nat) (hk : 5 * k ≤ L) (Tn : Int32) (Ta : (Nat → Int32)) (Fn : Int32) (Fa : (Nat → Int32)) (Ba : (Nat → Int32)) (Rn : Int32) (Ra : (Nat → Int32)) (Rb : (Nat → Int32)) (Rd : (Nat → Int32)) (Ua : (Nat → Int32)) (Wg : Int32) (Wz : Int32) (Ww : Int32) (Wr : Int32) (Mh : Int32) (Mn : Int32) (Mm : Int32) (Mt : (Nat → Int32)) (Mk : (Nat → Int32)) (Ms : (Nat → Int32)) (Me : (Nat → Int32)) (Mp : (Nat → Int32)) (Mw : (Nat → Int32)) (Ml : (Nat → Int32)) (My : (Nat → Int64)) (Oa : (Nat → Int64)) (Od : (Nat → UInt64)) (hf : fL_law_J1006 N L xs Tn Ta Fn Fa Ba Rn Ra Rb Rd Ua Wg Wz Ww Wr Mh Mn Mm Mt Mk Ms Me Mp Mw Ml My Oa Od = some 1) : ∀ (H : Heap) (locs : List Loc), va_P D vwCl (w_0_1_2_3_4_5_6_7_8_9_10_11_12_13_14_15_16_17_18_19_20_21_22_23_24 q cI cJ cD Tn Ta Fn Fa Ba Rn Ra Rb Rd Ua Wg Wz Ww Wr Mh Mn Mm Mt Mk Ms Me Mp Mw Ml My Oa Od) H → va_S (fun a : Nat => s.heap.size ≤ a) s.heap H locs → ∀ ls : Array Slot, lv_has ls 10 [] → W p l e room_1 s m #[Value.ref b] below meth c H locs (25 + k + 1) (1025 + 6 * k + 6) (lw_Z below #[Value.ref b] s) (F0 m 1006 ls []) := by
  obtain ⟨hx, hb, hr, hml, hown, hts0, hX, hbl, hlocks, hgv⟩ := id C0
  have hown : s.vm.findClass RL = some m.cls := hown
  have hts : ∀ w ∈ wsL_law, w.before #[Value.ref b] s = true := fun w h => hts0 w (wsL_law_in w h)
  have hbA : ¬ (fun a : Nat => s.heap.size ≤ a) b := Nat.not_le.mpr hbl
  intro H locs hP hS ls hl
  unfold fL_law_J1006 at hf
  refine lv_iconst (v := (0 : Int32)) hx hb dL_law_1006 (by decide) ?_
  exact absurd hf (by decide)
set_option maxHeartbeats 4000000 in
set_option maxRecDepth 100000 in
theorem law_J495 {p : Program} {l : Launch} {e : Env} {s : State} {m : MethodId} {below : List Frame} {meth : Method} {c : Code} {b L : Nat} {xs : Nat → Int32} (hL : L ≤ 2560) (C0 : lw_At p s m meth c b L xs) (hlt : l.stackTraces = false) (D : va_G) (cI cJ cD : ClassId) (sa : Nat → Nat) (q : Nat → Nat) (hq : gInj q) (hqA : ∀ k, k < 25 → s.heap.size ≤ q k) (hE : gEv D cI cJ cD s) (hXe : gXe sa (fun a => s.heap.size ≤ a) s s.heap) (N : Nat) (k : Nat) (hk : 5 * k ≤ L) (Tn : Int32) (Ta : (Nat → Int32)) (Fn : Int32) (Fa : (Nat → Int32)) (Ba : (Nat → Int32)) (Rn : Int32) (Ra : (Nat → Int32)) (Rb : (Nat → Int32)) (Rd : (Nat → Int32)) (Ua : (Nat → Int32)) (Wg : Int32) (Wz : Int32) (Ww : Int32) (Wr : Int32) (Mh : Int32) (Mn : Int32) (Mm : Int32) (Mt : (Nat → Int32)) (Mk : (Nat → Int32)) (Ms : (Nat → Int32)) (Me : (Nat → Int32)) (Mp : (Nat → Int32)) (Mw : (Nat → Int32)) (Ml : (Nat → Int32)) (My : (Nat → Int64)) (Oa : (Nat → Int64)) (Od : (Nat → UInt64)) (hf : fL_law_J495 N L xs Tn Ta Fn Fa Ba Rn Ra Rb Rd Ua Wg Wz Ww Wr Mh Mn Mm Mt Mk Ms Me Mp Mw Ml My Oa Od = some 1) : ∀ (H : Heap) (locs : List Loc), va_P D vwCl (w_0_1_2_3_4_5_6_7_8_9_10_11_12_13_14_15_16_17_18_19_20_21_22_23_24 q cI cJ cD Tn Ta Fn Fa Ba Rn Ra Rb Rd Ua Wg Wz Ww Wr Mh Mn Mm Mt Mk Ms Me Mp Mw Ml My Oa Od) H → va_S (fun a : Nat => s.heap.size ≤ a) s.heap H locs → ∀ ls : Array Slot, lv_has ls 10 [] → W p l e room_1 s m #[Value.ref b] below meth c H locs (25 + k) (1025 + 6 * k) (lw_Z below #[Value.ref b] s) (F0 m 495 ls []) := by
  obtain ⟨hx, hb, hr, hml, hown, hts0, hX, hbl, hlocks, hgv⟩ := id C0
  have hown : s.vm.findClass RL = some m.cls := hown
  have hts : ∀ w ∈ wsL_law, w.before #[Value.ref b] s = true := fun w h => hts0 w (wsL_law_in w h)
  have hbA : ¬ (fun a : Nat => s.heap.size ≤ a) b := Nat.not_le.mpr hbl
  intro H locs hP hS ls hl
  unfold fL_law_J495 at hf
  refine lv_iconst (v := (0 : Int32)) hx hb dL_law_495 (by decide) ?_
  exact absurd hf (by decide)
set_option maxHeartbeats 4000000 in
set_option maxRecDepth 100000 in
theorem law_J2035 {p : Program} {l : Launch} {e : Env} {s : State} {m : MethodId} {below : List Frame} {meth : Method} {c : Code} {b L : Nat} {xs : Nat → Int32} (hL : L ≤ 2560) (C0 : lw_At p s m meth c b L xs) (hlt : l.stackTraces = false) (D : va_G) (cI cJ cD : ClassId) (sa : Nat → Nat) (q : Nat → Nat) (hq : gInj q) (hqA : ∀ k, k < 25 → s.heap.size ≤ q k) (hE : gEv D cI cJ cD s) (hXe : gXe sa (fun a => s.heap.size ≤ a) s s.heap) (N : Nat) (k : Nat) (hk : 5 * k ≤ L) (Tn : Int32) (Ta : (Nat → Int32)) (Fn : Int32) (Fa : (Nat → Int32)) (Ba : (Nat → Int32)) (Rn : Int32) (Ra : (Nat → Int32)) (Rb : (Nat → Int32)) (Rd : (Nat → Int32)) (Ua : (Nat → Int32)) (Wg : Int32) (Wz : Int32) (Ww : Int32) (Wr : Int32) (Mh : Int32) (Mn : Int32) (Mm : Int32) (Mt : (Nat → Int32)) (Mk : (Nat → Int32)) (Ms : (Nat → Int32)) (Me : (Nat → Int32)) (Mp : (Nat → Int32)) (Mw : (Nat → Int32)) (Ml : (Nat → Int32)) (My : (Nat → Int64)) (Oa : (Nat → Int64)) (Od : (Nat → UInt64)) (hf : fL_law_J2035 N L xs Tn Ta Fn Fa Ba Rn Ra Rb Rd Ua Wg Wz Ww Wr Mh Mn Mm Mt Mk Ms Me Mp Mw Ml My Oa Od = some 1) : ∀ (H : Heap) (locs : List Loc), va_P D vwCl (w_0_1_2_3_4_5_6_7_8_9_10_11_12_13_14_15_16_17_18_19_20_21_22_23_24 q cI cJ cD Tn Ta Fn Fa Ba Rn Ra Rb Rd Ua Wg Wz Ww Wr Mh Mn Mm Mt Mk Ms Me Mp Mw Ml My Oa Od) H → va_S (fun a : Nat => s.heap.size ≤ a) s.heap H locs → ∀ ls : Array Slot, lv_has ls 10 [] → W p l e room_1 s m #[Value.ref b] below meth c H locs (25 + k + 1) (1025 + 6 * k + 6) (lw_Z below #[Value.ref b] s) (F0 m 2035 ls []) := by
  obtain ⟨hx, hb, hr, hml, hown, hts0, hX, hbl, hlocks, hgv⟩ := id C0
  have hown : s.vm.findClass RL = some m.cls := hown
  have hts : ∀ w ∈ wsL_law, w.before #[Value.ref b] s = true := fun w h => hts0 w (wsL_law_in w h)
  have hbA : ¬ (fun a : Nat => s.heap.size ≤ a) b := Nat.not_le.mpr hbl
  intro H locs hP hS ls hl
  unfold fL_law_J2035 at hf
  refine lv_iconst (v := (0 : Int32)) hx hb dL_law_2035 (by decide) ?_
  exact absurd hf (by decide)
set_option maxHeartbeats 4000000 in
set_option maxRecDepth 100000 in
theorem law_J508 {p : Program} {l : Launch} {e : Env} {s : State} {m : MethodId} {below : List Frame} {meth : Method} {c : Code} {b L : Nat} {xs : Nat → Int32} (hL : L ≤ 2560) (C0 : lw_At p s m meth c b L xs) (hlt : l.stackTraces = false) (D : va_G) (cI cJ cD : ClassId) (sa : Nat → Nat) (q : Nat → Nat) (hq : gInj q) (hqA : ∀ k, k < 25 → s.heap.size ≤ q k) (hE : gEv D cI cJ cD s) (hXe : gXe sa (fun a => s.heap.size ≤ a) s s.heap) (N : Nat) (k : Nat) (hk : 5 * k ≤ L) (Tn : Int32) (Ta : (Nat → Int32)) (Fn : Int32) (Fa : (Nat → Int32)) (Ba : (Nat → Int32)) (Rn : Int32) (Ra : (Nat → Int32)) (Rb : (Nat → Int32)) (Rd : (Nat → Int32)) (Ua : (Nat → Int32)) (Wg : Int32) (Wz : Int32) (Ww : Int32) (Wr : Int32) (Mh : Int32) (Mn : Int32) (Mm : Int32) (Mt : (Nat → Int32)) (Mk : (Nat → Int32)) (Ms : (Nat → Int32)) (Me : (Nat → Int32)) (Mp : (Nat → Int32)) (Mw : (Nat → Int32)) (Ml : (Nat → Int32)) (My : (Nat → Int64)) (Oa : (Nat → Int64)) (Od : (Nat → UInt64)) (hf : fL_law_J508 N L xs Tn Ta Fn Fa Ba Rn Ra Rb Rd Ua Wg Wz Ww Wr Mh Mn Mm Mt Mk Ms Me Mp Mw Ml My Oa Od = some 1) : ∀ (H : Heap) (locs : List Loc), va_P D vwCl (w_0_1_2_3_4_5_6_7_8_9_10_11_12_13_14_15_16_17_18_19_20_21_22_23_24 q cI cJ cD Tn Ta Fn Fa Ba Rn Ra Rb Rd Ua Wg Wz Ww Wr Mh Mn Mm Mt Mk Ms Me Mp Mw Ml My Oa Od) H → va_S (fun a : Nat => s.heap.size ≤ a) s.heap H locs → ∀ ls : Array Slot, lv_has ls 10 [] → W p l e room_1 s m #[Value.ref b] below meth c H locs (25 + k) (1025 + 6 * k) (lw_Z below #[Value.ref b] s) (F0 m 508 ls []) := by
  obtain ⟨hx, hb, hr, hml, hown, hts0, hX, hbl, hlocks, hgv⟩ := id C0
  have hown : s.vm.findClass RL = some m.cls := hown
  have hts : ∀ w ∈ wsL_law, w.before #[Value.ref b] s = true := fun w h => hts0 w (wsL_law_in w h)
  have hbA : ¬ (fun a : Nat => s.heap.size ≤ a) b := Nat.not_le.mpr hbl
  intro H locs hP hS ls hl
  unfold fL_law_J508 at hf
  refine lv_iconst (v := (0 : Int32)) hx hb dL_law_508 (by decide) ?_
  exact absurd hf (by decide)
set_option maxHeartbeats 4000000 in
set_option maxRecDepth 100000 in
theorem law_J1533 {p : Program} {l : Launch} {e : Env} {s : State} {m : MethodId} {below : List Frame} {meth : Method} {c : Code} {b L : Nat} {xs : Nat → Int32} (hL : L ≤ 2560) (C0 : lw_At p s m meth c b L xs) (hlt : l.stackTraces = false) (D : va_G) (cI cJ cD : ClassId) (sa : Nat → Nat) (q : Nat → Nat) (hq : gInj q) (hqA : ∀ k, k < 25 → s.heap.size ≤ q k) (hE : gEv D cI cJ cD s) (hXe : gXe sa (fun a => s.heap.size ≤ a) s s.heap) (N : Nat) (k : Nat) (hk : 5 * k ≤ L) (Tn : Int32) (Ta : (Nat → Int32)) (Fn : Int32) (Fa : (Nat → Int32)) (Ba : (Nat → Int32)) (Rn : Int32) (Ra : (Nat → Int32)) (Rb : (Nat → Int32)) (Rd : (Nat → Int32)) (Ua : (Nat → Int32)) (Wg : Int32) (Wz : Int32) (Ww : Int32) (Wr : Int32) (Mh : Int32) (Mn : Int32) (Mm : Int32) (Mt : (Nat → Int32)) (Mk : (Nat → Int32)) (Ms : (Nat → Int32)) (Me : (Nat → Int32)) (Mp : (Nat → Int32)) (Mw : (Nat → Int32)) (Ml : (Nat → Int32)) (My : (Nat → Int64)) (Oa : (Nat → Int64)) (Od : (Nat → UInt64)) (hf : fL_law_J1533 N L xs Tn Ta Fn Fa Ba Rn Ra Rb Rd Ua Wg Wz Ww Wr Mh Mn Mm Mt Mk Ms Me Mp Mw Ml My Oa Od = some 1) : ∀ (H : Heap) (locs : List Loc), va_P D vwCl (w_0_1_2_3_4_5_6_7_8_9_10_11_12_13_14_15_16_17_18_19_20_21_22_23_24 q cI cJ cD Tn Ta Fn Fa Ba Rn Ra Rb Rd Ua Wg Wz Ww Wr Mh Mn Mm Mt Mk Ms Me Mp Mw Ml My Oa Od) H → va_S (fun a : Nat => s.heap.size ≤ a) s.heap H locs → ∀ ls : Array Slot, lv_has ls 10 [] → W p l e room_1 s m #[Value.ref b] below meth c H locs (25 + k + 1) (1025 + 6 * k + 6) (lw_Z below #[Value.ref b] s) (F0 m 1533 ls []) := by
  obtain ⟨hx, hb, hr, hml, hown, hts0, hX, hbl, hlocks, hgv⟩ := id C0
  have hown : s.vm.findClass RL = some m.cls := hown
  have hts : ∀ w ∈ wsL_law, w.before #[Value.ref b] s = true := fun w h => hts0 w (wsL_law_in w h)
  have hbA : ¬ (fun a : Nat => s.heap.size ≤ a) b := Nat.not_le.mpr hbl
  intro H locs hP hS ls hl
  unfold fL_law_J1533 at hf
  refine lv_iconst (v := (0 : Int32)) hx hb dL_law_1533 (by decide) ?_
  exact absurd hf (by decide)
set_option maxHeartbeats 4000000 in
set_option maxRecDepth 100000 in
theorem law_J2831 {p : Program} {l : Launch} {e : Env} {s : State} {m : MethodId} {below : List Frame} {meth : Method} {c : Code} {b L : Nat} {xs : Nat → Int32} (hL : L ≤ 2560) (C0 : lw_At p s m meth c b L xs) (hlt : l.stackTraces = false) (D : va_G) (cI cJ cD : ClassId) (sa : Nat → Nat) (q : Nat → Nat) (hq : gInj q) (hqA : ∀ k, k < 25 → s.heap.size ≤ q k) (hE : gEv D cI cJ cD s) (hXe : gXe sa (fun a => s.heap.size ≤ a) s s.heap) (N : Nat) (k : Nat) (h5 : 5 * k + 5 ≤ L) (k28 : Int32 → (Nat → Int32) → Int32 → (Nat → Int32) → (Nat → Int32) → Int32 → (Nat → Int32) → (Nat → Int32) → (Nat → Int32) → (Nat → Int32) → Int32 → Int32 → Int32 → Int32 → Int32 → Int32 → Int32 → (Nat → Int32) → (Nat → Int32) → (Nat → Int32) → (Nat → Int32) → (Nat → Int32) → (Nat → Int32) → (Nat → Int32) → (Nat → Int64) → (Nat → Int64) → (Nat → UInt64) → Int32 → Option Int32) (ih : lawIH p l e s m below meth c b D cI cJ cD q k k28) (Tn : Int32) (Ta : (Nat → Int32)) (Fn : Int32) (Fa : (Nat → Int32)) (Ba : (Nat → Int32)) (Rn : Int32) (Ra : (Nat → Int32)) (Rb : (Nat → Int32)) (Rd : (Nat → Int32)) (Ua : (Nat → Int32)) (Wg : Int32) (Wz : Int32) (Ww : Int32) (Wr : Int32) (Mh : Int32) (Mn : Int32) (Mm : Int32) (Mt : (Nat → Int32)) (Mk : (Nat → Int32)) (Ms : (Nat → Int32)) (Me : (Nat → Int32)) (Mp : (Nat → Int32)) (Mw : (Nat → Int32)) (Ml : (Nat → Int32)) (My : (Nat → Int64)) (Oa : (Nat → Int64)) (Od : (Nat → UInt64)) (x5 : Int32) (hx5 : x5 = nI (5 * k)) (hf : fL_law_J2831 N L xs k28 Tn Ta Fn Fa Ba Rn Ra Rb Rd Ua Wg Wz Ww Wr Mh Mn Mm Mt Mk Ms Me Mp Mw Ml My Oa Od x5 = some 1) : ∀ (H : Heap) (locs : List Loc), va_P D vwCl (w_0_1_2_3_4_5_6_7_8_9_10_11_12_13_14_15_16_17_18_19_20_21_22_23_24 q cI cJ cD Tn Ta Fn Fa Ba Rn Ra Rb Rd Ua Wg Wz Ww Wr Mh Mn Mm Mt Mk Ms Me Mp Mw Ml My Oa Od) H → va_S (fun a : Nat => s.heap.size ≤ a) s.heap H locs → ∀ ls : Array Slot, lv_has ls 10 [(0, .ref b), (1, .ref (q 0)), (2, .ref (q 14)), (3, .ref (q 23)), (4, .ref (q 24)), (5, .int x5)] → W p l e room_1 s m #[Value.ref b] below meth c H locs (25 + k + 1) (1025 + 6 * k + 6) (lw_Z below #[Value.ref b] s) (F0 m 2831 ls []) := by
  obtain ⟨hx, hb, hr, hml, hown, hts0, hX, hbl, hlocks, hgv⟩ := id C0
  have hown : s.vm.findClass RL = some m.cls := hown
  have hts : ∀ w ∈ wsL_law, w.before #[Value.ref b] s = true := fun w h => hts0 w (wsL_law_in w h)
  have hbA : ¬ (fun a : Nat => s.heap.size ≤ a) b := Nat.not_le.mpr hbl
  have hcm : 25 + k + 1 ≤ 1058 := by omega
  have hsm : 1025 + 6 * k + 6 ≤ 9271 := by omega
  have hc0 : 25 + k ≤ 1058 := by omega
  have hs0 : 1025 + 6 * k ≤ 9271 := by omega
  intro H locs hP hS ls hl
  unfold fL_law_J2831 at hf
  refine lv_iinc (v := (x5 + 5)) (lv' := [(5, .int (x5 + 5)), (0, .ref b), (1, .ref (q 0)), (2, .ref (q 14)), (3, .ref (q 23)), (4, .ref (q 24))]) hx hb dL_law_2831 hl (k := 5) rfl rfl (by decide) rfl (fun ls hl => ?_)
  refine lv_goto (tgt := 28) hx hb dL_law_2834 (by decide) ?_
  refine W.widen (k := 25 + (k + 1)) (n := 1025 + 6 * (k + 1)) (by omega) (by omega) ?_
  exact ih Tn Ta Fn Fa Ba Rn Ra Rb Rd Ua Wg Wz Ww Wr Mh Mn Mm Mt Mk Ms Me Mp Mw Ml My Oa Od (x5 + 5) (by rw [hx5]; exact law_n5 k) hf _ _ hP hS _ (lv_sub hl [1, 2, 3, 4, 5, 0] rfl)
set_option maxHeartbeats 4000000 in
set_option maxRecDepth 100000 in
theorem law_J289 {p : Program} {l : Launch} {e : Env} {s : State} {m : MethodId} {below : List Frame} {meth : Method} {c : Code} {b L : Nat} {xs : Nat → Int32} (hL : L ≤ 2560) (C0 : lw_At p s m meth c b L xs) (hlt : l.stackTraces = false) (D : va_G) (cI cJ cD : ClassId) (sa : Nat → Nat) (q : Nat → Nat) (hq : gInj q) (hqA : ∀ k, k < 25 → s.heap.size ≤ q k) (hE : gEv D cI cJ cD s) (hXe : gXe sa (fun a => s.heap.size ≤ a) s s.heap) (N : Nat) (k : Nat) (h5 : 5 * k + 5 ≤ L) (k28 : Int32 → (Nat → Int32) → Int32 → (Nat → Int32) → (Nat → Int32) → Int32 → (Nat → Int32) → (Nat → Int32) → (Nat → Int32) → (Nat → Int32) → Int32 → Int32 → Int32 → Int32 → Int32 → Int32 → Int32 → (Nat → Int32) → (Nat → Int32) → (Nat → Int32) → (Nat → Int32) → (Nat → Int32) → (Nat → Int32) → (Nat → Int32) → (Nat → Int64) → (Nat → Int64) → (Nat → UInt64) → Int32 → Option Int32) (ih : lawIH p l e s m below meth c b D cI cJ cD q k k28) (Tn : Int32) (Ta : (Nat → Int32)) (Fn : Int32) (Fa : (Nat → Int32)) (Ba : (Nat → Int32)) (Rn : Int32) (Ra : (Nat → Int32)) (Rb : (Nat → Int32)) (Rd : (Nat → Int32)) (Ua : (Nat → Int32)) (Wg : Int32) (Wz : Int32) (Ww : Int32) (Wr : Int32) (Mh : Int32) (Mn : Int32) (Mm : Int32) (Mt : (Nat → Int32)) (Mk : (Nat → Int32)) (Ms : (Nat → Int32)) (Me : (Nat → Int32)) (Mp : (Nat → Int32)) (Mw : (Nat → Int32)) (Ml : (Nat → Int32)) (My : (Nat → Int64)) (Oa : (Nat → Int64)) (Od : (Nat → UInt64)) (x5 : Int32) (hx5 : x5 = nI (5 * k)) (hf : fL_law_J289 N L xs k28 Tn Ta Fn Fa Ba Rn Ra Rb Rd Ua Wg Wz Ww Wr Mh Mn Mm Mt Mk Ms Me Mp Mw Ml My Oa Od x5 = some 1) : ∀ (H : Heap) (locs : List Loc), va_P D vwCl (w_0_1_2_3_4_5_6_7_8_9_10_11_12_13_14_15_16_17_18_19_20_21_22_23_24 q cI cJ cD Tn Ta Fn Fa Ba Rn Ra Rb Rd Ua Wg Wz Ww Wr Mh Mn Mm Mt Mk Ms Me Mp Mw Ml My Oa Od) H → va_S (fun a : Nat => s.heap.size ≤ a) s.heap H locs → ∀ ls : Array Slot, lv_has ls 10 [(0, .ref b), (1, .ref (q 0)), (2, .ref (q 14)), (3, .ref (q 23)), (4, .ref (q 24)), (5, .int x5)] → W p l e room_1 s m #[Value.ref b] below meth c H locs (25 + k + 1) (1025 + 6 * k + 6) (lw_Z below #[Value.ref b] s) (F0 m 289 ls []) := by
  obtain ⟨hx, hb, hr, hml, hown, hts0, hX, hbl, hlocks, hgv⟩ := id C0
  have hown : s.vm.findClass RL = some m.cls := hown
  have hts : ∀ w ∈ wsL_law, w.before #[Value.ref b] s = true := fun w h => hts0 w (wsL_law_in w h)
  have hbA : ¬ (fun a : Nat => s.heap.size ≤ a) b := Nat.not_le.mpr hbl
  have hcm : 25 + k + 1 ≤ 1058 := by omega
  have hsm : 1025 + 6 * k + 6 ≤ 9271 := by omega
  have hc0 : 25 + k ≤ 1058 := by omega
  have hs0 : 1025 + 6 * k ≤ 9271 := by omega
  intro H locs hP hS ls hl
  unfold fL_law_J289 at hf
  refine lv_goto (tgt := 2831) hx hb dL_law_289 (by decide) ?_
  exact law_J2831 hL C0 hlt D cI cJ cD sa q hq hqA hE hXe N k h5 k28 ih Tn Ta Fn Fa Ba Rn Ra Rb Rd Ua Wg Wz Ww Wr Mh Mn Mm Mt Mk Ms Me Mp Mw Ml My Oa Od x5 hx5 hf _ _ hP hS _ (lv_sub hl [0, 1, 2, 3, 4, 5] rfl)
set_option maxHeartbeats 4000000 in
set_option maxRecDepth 100000 in
theorem law_J236 {p : Program} {l : Launch} {e : Env} {s : State} {m : MethodId} {below : List Frame} {meth : Method} {c : Code} {b L : Nat} {xs : Nat → Int32} (hL : L ≤ 2560) (C0 : lw_At p s m meth c b L xs) (hlt : l.stackTraces = false) (D : va_G) (cI cJ cD : ClassId) (sa : Nat → Nat) (q : Nat → Nat) (hq : gInj q) (hqA : ∀ k, k < 25 → s.heap.size ≤ q k) (hE : gEv D cI cJ cD s) (hXe : gXe sa (fun a => s.heap.size ≤ a) s s.heap) (N : Nat) (k : Nat) (h5 : 5 * k + 5 ≤ L) (k28 : Int32 → (Nat → Int32) → Int32 → (Nat → Int32) → (Nat → Int32) → Int32 → (Nat → Int32) → (Nat → Int32) → (Nat → Int32) → (Nat → Int32) → Int32 → Int32 → Int32 → Int32 → Int32 → Int32 → Int32 → (Nat → Int32) → (Nat → Int32) → (Nat → Int32) → (Nat → Int32) → (Nat → Int32) → (Nat → Int32) → (Nat → Int32) → (Nat → Int64) → (Nat → Int64) → (Nat → UInt64) → Int32 → Option Int32) (ih : lawIH p l e s m below meth c b D cI cJ cD q k k28) (Tn : Int32) (Ta : (Nat → Int32)) (Fn : Int32) (Fa : (Nat → Int32)) (Ba : (Nat → Int32)) (Rn : Int32) (Ra : (Nat → Int32)) (Rb : (Nat → Int32)) (Rd : (Nat → Int32)) (Ua : (Nat → Int32)) (Wg : Int32) (Wz : Int32) (Ww : Int32) (Wr : Int32) (Mh : Int32) (Mn : Int32) (Mm : Int32) (Mt : (Nat → Int32)) (Mk : (Nat → Int32)) (Ms : (Nat → Int32)) (Me : (Nat → Int32)) (Mp : (Nat → Int32)) (Mw : (Nat → Int32)) (Ml : (Nat → Int32)) (My : (Nat → Int64)) (Oa : (Nat → Int64)) (Od : (Nat → UInt64)) (x5 : Int32) (hx5 : x5 = nI (5 * k)) (hf : fL_law_J236 N L xs k28 Tn Ta Fn Fa Ba Rn Ra Rb Rd Ua Wg Wz Ww Wr Mh Mn Mm Mt Mk Ms Me Mp Mw Ml My Oa Od x5 = some 1) : ∀ (H : Heap) (locs : List Loc), va_P D vwCl (w_0_1_2_3_4_5_6_7_8_9_10_11_12_13_14_15_16_17_18_19_20_21_22_23_24 q cI cJ cD Tn Ta Fn Fa Ba Rn Ra Rb Rd Ua Wg Wz Ww Wr Mh Mn Mm Mt Mk Ms Me Mp Mw Ml My Oa Od) H → va_S (fun a : Nat => s.heap.size ≤ a) s.heap H locs → ∀ ls : Array Slot, lv_has ls 10 [(0, .ref b), (1, .ref (q 0)), (2, .ref (q 14)), (3, .ref (q 23)), (4, .ref (q 24)), (5, .int x5)] → W p l e room_1 s m #[Value.ref b] below meth c H locs (25 + k) (1025 + 6 * k) (lw_Z below #[Value.ref b] s) (F0 m 236 ls []) := by
  obtain ⟨hx, hb, hr, hml, hown, hts0, hX, hbl, hlocks, hgv⟩ := id C0
  have hown : s.vm.findClass RL = some m.cls := hown
  have hts : ∀ w ∈ wsL_law, w.before #[Value.ref b] s = true := fun w h => hts0 w (wsL_law_in w h)
  have hbA : ¬ (fun a : Nat => s.heap.size ≤ a) b := Nat.not_le.mpr hbl
  have hcm : 25 + k + 1 ≤ 1058 := by omega
  have hsm : 1025 + 6 * k + 6 ≤ 9271 := by omega
  have hc0 : 25 + k ≤ 1058 := by omega
  have hs0 : 1025 + 6 * k ≤ 9271 := by omega
  intro H locs hP hS ls hl
  unfold fL_law_J236 at hf
  refine lv_aload_n hx hb dL_law_236 rfl (lv_at hl 1 rfl) ?_
  refine lv_aload_n hx hb dL_law_237 rfl (lv_at hl 0 rfl) ?_
  refine lv_iload hx hb dL_law_238 (lv_at hl 5 rfl) ?_
  refine lv_iconst (v := (1 : Int32)) hx hb dL_law_240 (by decide) ?_
  refine lv_iadd hx hb dL_law_241 ?_
  obtain ⟨g_1, hf⟩ := gd_some hf
  refine va_sld hx hb hX hbl hbA hS (inb_in g_1) dL_law_242 ?_
  refine lv_aload_n hx hb dL_law_243 rfl (lv_at hl 3 rfl) ?_
  obtain ⟨⟨r244, Tn244, Ta244, Oa244⟩, hc, hf⟩ := bn_some hf
  try dsimp only at hf
  refine g_call (mc := 1) (ms := 6) (ws' := (w_0_1_2_3_4_5_6_7_8_9_10_11_12_13_14_15_16_17_18_19_20_21_22_23_24 q cI cJ cD Tn244 Ta244 Fn Fa Ba Rn Ra Rb Rd Ua Wg Wz Ww Wr Mh Mn Mm Mt Mk Ms Me Mp Mw Ml My Oa244 Od)) (st1 := [.int r244]) hq [0, 1, 2, 3, 4, 5, 6, 7, 8, 9, 10, 11, 12, 13, 14, 15, 16, 17, 18, 19, 20, 21, 22, 23, 24] [0, 1, 2, 23] [.inl 0, .inl 1, .inl 2, .inr 3, .inr 4, .inr 5, .inr 6, .inr 7, .inr 8, .inr 9, .inr 10, .inr 11, .inr 12, .inr 13, .inr 14, .inr 15, .inr 16, .inr 17, .inr 18, .inr 19, .inr 20, .inr 21, .inr 22, .inl 3, .inr 24] (vx_runSW (As := [.ref (q 0), .int (xs ((x5 + (1 : Int32))).toNatClampNeg), .ref (q 23)]) (rest := []) ⟨hx, hb, hml, hown, hts⟩ (kL_append l hlt D cI cJ cD sa q hq N Tn Ta Oa (xs ((x5 + (1 : Int32))).toNatClampNeg) r244 Tn244 Ta244 Oa244 hc) (vx_cwSW 3 hts gL_law_L_append rfl rfl rfl (by decide +kernel) ⟨(Nat.le_of_ble_eq_true rfl), (Nat.le_of_ble_eq_true rfl)⟩) ⟨gPx_blind, fun U hU hW => ⟨rfl, by rw [hU]; exact hP.sub (ws' := (w_0_1_2_23 q cI cJ cD Tn Ta Oa)) [0, 1, 2, 23] rfl, gEv.warm hW hE, gXe.go hW hS (gMonoL hqA rfl) hXe hU⟩⟩ rfl rfl hl.1 rfl (lv_room (Nat.le_of_ble_eq_true rfl)) dL_law_244 ⟨hcm, hsm⟩) hP hS (gSubL hqA rfl) rfl rfl rfl rfl rfl (fun H locs hP hS => ?_)
  refine lv_istore (lv' := [(6, .int r244), (0, .ref b), (1, .ref (q 0)), (2, .ref (q 14)), (3, .ref (q 23)), (4, .ref (q 24)), (5, .int x5)]) hx hb dL_law_247 hl (by decide) rfl (fun ls hl => ?_)
  refine lv_aload_n hx hb dL_law_249 rfl (lv_at hl 3 rfl) ?_
  refine lv_aload_n hx hb dL_law_250 rfl (lv_at hl 1 rfl) ?_
  refine lv_iload hx hb dL_law_251 (lv_at hl 6 rfl) ?_
  refine lv_iconst (v := (1 : Int32)) hx hb dL_law_253 (by decide) ?_
  refine lv_iadd hx hb dL_law_254 ?_
  obtain ⟨g_2, hf⟩ := gd_some hf
  refine va_sld hx hb hX hbl hbA hS (inb_in g_2) dL_law_255 ?_
  obtain ⟨⟨r256, Mh256, Mn256, Mt256⟩, hc, hf⟩ := bn_some hf
  try dsimp only at hf
  refine g_call0 (ws' := (w_0_1_2_3_4_5_6_7_8_9_10_11_12_13_14_15_16_17_18_19_20_21_22_23_24 q cI cJ cD Tn244 Ta244 Fn Fa Ba Rn Ra Rb Rd Ua Wg Wz Ww Wr Mh256 Mn256 Mm Mt256 Mk Ms Me Mp Mw Ml My Oa244 Od)) (st1 := [.int r256]) hq [0, 1, 2, 3, 4, 5, 6, 7, 8, 9, 10, 11, 12, 13, 14, 15, 16, 17, 18, 19, 20, 21, 22, 23, 24] [14, 15] [.inr 0, .inr 1, .inr 2, .inr 3, .inr 4, .inr 5, .inr 6, .inr 7, .inr 8, .inr 9, .inr 10, .inr 11, .inr 12, .inr 13, .inl 0, .inl 1, .inr 16, .inr 17, .inr 18, .inr 19, .inr 20, .inr 21, .inr 22, .inr 23, .inr 24] (va_runV (As := [.int (xs ((x5 + (1 : Int32))).toNatClampNeg)]) (rest := []) ⟨hx, hb, hml, hown, hts⟩ (kX9_append l D cI cJ cD q hq N Mh Mn Mm Mt (xs ((x5 + (1 : Int32))).toNatClampNeg) r256 Mh256 Mn256 Mt256 hc) (cwV 1 hts gL_law_X9_append rfl rfl rfl (by decide +kernel) ⟨(Nat.le_of_ble_eq_true rfl), (Nat.le_of_ble_eq_true rfl)⟩) ⟨gP_blind, va_recv hE.1 hP (ci := 7) (q0 := 14) rfl rfl, fun U hU hW => ⟨rfl, by rw [hU]; exact hP.sub (ws' := (w_14_15 q cI cJ cD Mh Mn Mm Mt)) [14, 15] rfl, gEv.warm hW hE⟩⟩ rfl rfl hl.1 rfl (lv_room (Nat.le_of_ble_eq_true rfl)) dL_law_256 ⟨hcm, hsm⟩) hP hS (gSubL hqA rfl) rfl rfl rfl rfl rfl (fun H locs hP hS => ?_)
  refine lv_istore (lv' := [(7, .int r256), (6, .int r244), (0, .ref b), (1, .ref (q 0)), (2, .ref (q 14)), (3, .ref (q 23)), (4, .ref (q 24)), (5, .int x5)]) hx hb dL_law_259 hl (by decide) rfl (fun ls hl => ?_)
  refine lv_aload_n hx hb dL_law_261 rfl (lv_at hl 4 rfl) ?_
  obtain ⟨r262, hc, hf⟩ := bn_some hf
  try dsimp only at hf
  refine g_call0 (ws' := (w_0_1_2_3_4_5_6_7_8_9_10_11_12_13_14_15_16_17_18_19_20_21_22_23_24 q cI cJ cD Tn244 Ta244 Fn Fa Ba Rn Ra Rb Rd Ua Wg Wz Ww Wr Mh256 Mn256 Mm Mt256 Mk Ms Me Mp Mw Ml My Oa244 Od)) (st1 := [.int r262]) hq [0, 1, 2, 3, 4, 5, 6, 7, 8, 9, 10, 11, 12, 13, 14, 15, 16, 17, 18, 19, 20, 21, 22, 23, 24] [14] [.inr 0, .inr 1, .inr 2, .inr 3, .inr 4, .inr 5, .inr 6, .inr 7, .inr 8, .inr 9, .inr 10, .inr 11, .inr 12, .inr 13, .inl 0, .inr 15, .inr 16, .inr 17, .inr 18, .inr 19, .inr 20, .inr 21, .inr 22, .inr 23, .inr 24] (va_runV (As := []) (rest := []) ⟨hx, hb, hml, hown, hts⟩ (kX9_thrown l D cI cJ cD q hq N Mh256 Mn256 Mm r262 hc) (cwV 0 hts gL_law_X9_thrown rfl rfl rfl (by decide +kernel) ⟨(Nat.le_of_ble_eq_true rfl), (Nat.le_of_ble_eq_true rfl)⟩) ⟨gP_blind, va_recv hE.1 hP (ci := 7) (q0 := 14) rfl rfl, fun U hU hW => ⟨rfl, by rw [hU]; exact hP.sub (ws' := (w_14 q cI cJ cD Mh256 Mn256 Mm)) [14] rfl, gEv.warm hW hE⟩⟩ rfl rfl hl.1 rfl (lv_room (Nat.le_of_ble_eq_true rfl)) dL_law_262 ⟨hcm, hsm⟩) hP hS (gSubL hqA rfl) rfl rfl rfl rfl rfl (fun H locs hP hS => ?_)
  refine lv_iload hx hb dL_law_265 (lv_at hl 1 rfl) ?_
  refine lv_icmp_eq (tgt := 272) hx hb dL_law_267 (by decide) (fun c_3 => ?_) (fun c_3 => ?_)
  · have hf := (if_pos c_3).symm.trans hf
    refine lv_iload hx hb dL_law_272 (lv_at hl 1 rfl) ?_
    refine lv_if_ne (tgt := 289) hx hb dL_law_274 (by decide) (fun c_4 => ?_) (fun c_4 => ?_)
    · have hf := (if_neg c_4).symm.trans hf
      exact law_J289 hL C0 hlt D cI cJ cD sa q hq hqA hE hXe N k h5 k28 ih Tn244 Ta244 Fn Fa Ba Rn Ra Rb Rd Ua Wg Wz Ww Wr Mh256 Mn256 Mm Mt256 Mk Ms Me Mp Mw Ml My Oa244 Od x5 hx5 hf _ _ hP hS _ (lv_sub hl [2, 3, 4, 5, 6, 7] rfl)
    · have hf := (if_pos c_4).symm.trans hf
      refine lv_aload_n hx hb dL_law_277 rfl (lv_at hl 5 rfl) ?_
      refine lv_iconst (v := (0 : Int32)) hx hb dL_law_278 (by decide) ?_
      obtain ⟨g_5, hf⟩ := gd_some hf
      refine va_lald hx hb hE.1 hP 23 1 rfl rfl (inb_in g_5) dL_law_279 ?_
      refine lv_iload hx hb dL_law_280 (lv_at hl 0 rfl) ?_
      refine lv_i2l (v := (r256).toInt64) hx hb dL_law_282 rfl ?_
      refine W.lcmp hx hb dL_law_283 ?_
      refine lv_if_eq (tgt := 289) hx hb dL_law_284 (by decide) (fun c_6 => ?_) (fun c_6 => ?_)
      · have hf := (if_pos c_6).symm.trans hf
        exact law_J289 hL C0 hlt D cI cJ cD sa q hq hqA hE hXe N k h5 k28 ih Tn244 Ta244 Fn Fa Ba Rn Ra Rb Rd Ua Wg Wz Ww Wr Mh256 Mn256 Mm Mt256 Mk Ms Me Mp Mw Ml My Oa244 Od x5 hx5 hf _ _ hP hS _ (lv_sub hl [2, 3, 4, 5, 6, 7] rfl)
      · have hf := (if_neg c_6).symm.trans hf
        exact law_J287 hL C0 hlt D cI cJ cD sa q hq hqA hE hXe N k (by omega) Tn244 Ta244 Fn Fa Ba Rn Ra Rb Rd Ua Wg Wz Ww Wr Mh256 Mn256 Mm Mt256 Mk Ms Me Mp Mw Ml My Oa244 Od hf _ _ hP hS _ (lv_sub hl [] rfl)
  · have hf := (if_neg c_3).symm.trans hf
    exact law_J270 hL C0 hlt D cI cJ cD sa q hq hqA hE hXe N k (by omega) Tn244 Ta244 Fn Fa Ba Rn Ra Rb Rd Ua Wg Wz Ww Wr Mh256 Mn256 Mm Mt256 Mk Ms Me Mp Mw Ml My Oa244 Od hf _ _ hP hS _ (lv_sub hl [] rfl)
set_option maxHeartbeats 4000000 in
set_option maxRecDepth 100000 in
theorem law_J357 {p : Program} {l : Launch} {e : Env} {s : State} {m : MethodId} {below : List Frame} {meth : Method} {c : Code} {b L : Nat} {xs : Nat → Int32} (hL : L ≤ 2560) (C0 : lw_At p s m meth c b L xs) (hlt : l.stackTraces = false) (D : va_G) (cI cJ cD : ClassId) (sa : Nat → Nat) (q : Nat → Nat) (hq : gInj q) (hqA : ∀ k, k < 25 → s.heap.size ≤ q k) (hE : gEv D cI cJ cD s) (hXe : gXe sa (fun a => s.heap.size ≤ a) s s.heap) (N : Nat) (k : Nat) (h5 : 5 * k + 5 ≤ L) (k28 : Int32 → (Nat → Int32) → Int32 → (Nat → Int32) → (Nat → Int32) → Int32 → (Nat → Int32) → (Nat → Int32) → (Nat → Int32) → (Nat → Int32) → Int32 → Int32 → Int32 → Int32 → Int32 → Int32 → Int32 → (Nat → Int32) → (Nat → Int32) → (Nat → Int32) → (Nat → Int32) → (Nat → Int32) → (Nat → Int32) → (Nat → Int32) → (Nat → Int64) → (Nat → Int64) → (Nat → UInt64) → Int32 → Option Int32) (ih : lawIH p l e s m below meth c b D cI cJ cD q k k28) (Tn : Int32) (Ta : (Nat → Int32)) (Fn : Int32) (Fa : (Nat → Int32)) (Ba : (Nat → Int32)) (Rn : Int32) (Ra : (Nat → Int32)) (Rb : (Nat → Int32)) (Rd : (Nat → Int32)) (Ua : (Nat → Int32)) (Wg : Int32) (Wz : Int32) (Ww : Int32) (Wr : Int32) (Mh : Int32) (Mn : Int32) (Mm : Int32) (Mt : (Nat → Int32)) (Mk : (Nat → Int32)) (Ms : (Nat → Int32)) (Me : (Nat → Int32)) (Mp : (Nat → Int32)) (Mw : (Nat → Int32)) (Ml : (Nat → Int32)) (My : (Nat → Int64)) (Oa : (Nat → Int64)) (Od : (Nat → UInt64)) (x5 : Int32) (hx5 : x5 = nI (5 * k)) (hf : fL_law_J357 N L xs k28 Tn Ta Fn Fa Ba Rn Ra Rb Rd Ua Wg Wz Ww Wr Mh Mn Mm Mt Mk Ms Me Mp Mw Ml My Oa Od x5 = some 1) : ∀ (H : Heap) (locs : List Loc), va_P D vwCl (w_0_1_2_3_4_5_6_7_8_9_10_11_12_13_14_15_16_17_18_19_20_21_22_23_24 q cI cJ cD Tn Ta Fn Fa Ba Rn Ra Rb Rd Ua Wg Wz Ww Wr Mh Mn Mm Mt Mk Ms Me Mp Mw Ml My Oa Od) H → va_S (fun a : Nat => s.heap.size ≤ a) s.heap H locs → ∀ ls : Array Slot, lv_has ls 10 [(0, .ref b), (1, .ref (q 0)), (2, .ref (q 14)), (3, .ref (q 23)), (4, .ref (q 24)), (5, .int x5)] → W p l e room_1 s m #[Value.ref b] below meth c H locs (25 + k + 1) (1025 + 6 * k + 6) (lw_Z below #[Value.ref b] s) (F0 m 357 ls []) := by
  obtain ⟨hx, hb, hr, hml, hown, hts0, hX, hbl, hlocks, hgv⟩ := id C0
  have hown : s.vm.findClass RL = some m.cls := hown
  have hts : ∀ w ∈ wsL_law, w.before #[Value.ref b] s = true := fun w h => hts0 w (wsL_law_in w h)
  have hbA : ¬ (fun a : Nat => s.heap.size ≤ a) b := Nat.not_le.mpr hbl
  have hcm : 25 + k + 1 ≤ 1058 := by omega
  have hsm : 1025 + 6 * k + 6 ≤ 9271 := by omega
  have hc0 : 25 + k ≤ 1058 := by omega
  have hs0 : 1025 + 6 * k ≤ 9271 := by omega
  intro H locs hP hS ls hl
  unfold fL_law_J357 at hf
  refine lv_goto (tgt := 2831) hx hb dL_law_357 (by decide) ?_
  exact law_J2831 hL C0 hlt D cI cJ cD sa q hq hqA hE hXe N k h5 k28 ih Tn Ta Fn Fa Ba Rn Ra Rb Rd Ua Wg Wz Ww Wr Mh Mn Mm Mt Mk Ms Me Mp Mw Ml My Oa Od x5 hx5 hf _ _ hP hS _ (lv_sub hl [0, 1, 2, 3, 4, 5] rfl)
set_option maxHeartbeats 4000000 in
set_option maxRecDepth 100000 in
theorem law_J292 {p : Program} {l : Launch} {e : Env} {s : State} {m : MethodId} {below : List Frame} {meth : Method} {c : Code} {b L : Nat} {xs : Nat → Int32} (hL : L ≤ 2560) (C0 : lw_At p s m meth c b L xs) (hlt : l.stackTraces = false) (D : va_G) (cI cJ cD : ClassId) (sa : Nat → Nat) (q : Nat → Nat) (hq : gInj q) (hqA : ∀ k, k < 25 → s.heap.size ≤ q k) (hE : gEv D cI cJ cD s) (hXe : gXe sa (fun a => s.heap.size ≤ a) s s.heap) (N : Nat) (k : Nat) (h5 : 5 * k + 5 ≤ L) (k28 : Int32 → (Nat → Int32) → Int32 → (Nat → Int32) → (Nat → Int32) → Int32 → (Nat → Int32) → (Nat → Int32) → (Nat → Int32) → (Nat → Int32) → Int32 → Int32 → Int32 → Int32 → Int32 → Int32 → Int32 → (Nat → Int32) → (Nat → Int32) → (Nat → Int32) → (Nat → Int32) → (Nat → Int32) → (Nat → Int32) → (Nat → Int32) → (Nat → Int64) → (Nat → Int64) → (Nat → UInt64) → Int32 → Option Int32) (ih : lawIH p l e s m below meth c b D cI cJ cD q k k28) (Tn : Int32) (Ta : (Nat → Int32)) (Fn : Int32) (Fa : (Nat → Int32)) (Ba : (Nat → Int32)) (Rn : Int32) (Ra : (Nat → Int32)) (Rb : (Nat → Int32)) (Rd : (Nat → Int32)) (Ua : (Nat → Int32)) (Wg : Int32) (Wz : Int32) (Ww : Int32) (Wr : Int32) (Mh : Int32) (Mn : Int32) (Mm : Int32) (Mt : (Nat → Int32)) (Mk : (Nat → Int32)) (Ms : (Nat → Int32)) (Me : (Nat → Int32)) (Mp : (Nat → Int32)) (Mw : (Nat → Int32)) (Ml : (Nat → Int32)) (My : (Nat → Int64)) (Oa : (Nat → Int64)) (Od : (Nat → UInt64)) (x5 : Int32) (hx5 : x5 = nI (5 * k)) (hf : fL_law_J292 N L xs k28 Tn Ta Fn Fa Ba Rn Ra Rb Rd Ua Wg Wz Ww Wr Mh Mn Mm Mt Mk Ms Me Mp Mw Ml My Oa Od x5 = some 1) : ∀ (H : Heap) (locs : List Loc), va_P D vwCl (w_0_1_2_3_4_5_6_7_8_9_10_11_12_13_14_15_16_17_18_19_20_21_22_23_24 q cI cJ cD Tn Ta Fn Fa Ba Rn Ra Rb Rd Ua Wg Wz Ww Wr Mh Mn Mm Mt Mk Ms Me Mp Mw Ml My Oa Od) H → va_S (fun a : Nat => s.heap.size ≤ a) s.heap H locs → ∀ ls : Array Slot, lv_has ls 10 [(0, .ref b), (1, .ref (q 0)), (2, .ref (q 14)), (3, .ref (q 23)), (4, .ref (q 24)), (5, .int x5)] → W p l e room_1 s m #[Value.ref b] below meth c H locs (25 + k) (1025 + 6 * k) (lw_Z below #[Value.ref b] s) (F0 m 292 ls []) := by
  obtain ⟨hx, hb, hr, hml, hown, hts0, hX, hbl, hlocks, hgv⟩ := id C0
  have hown : s.vm.findClass RL = some m.cls := hown
  have hts : ∀ w ∈ wsL_law, w.before #[Value.ref b] s = true := fun w h => hts0 w (wsL_law_in w h)
  have hbA : ¬ (fun a : Nat => s.heap.size ≤ a) b := Nat.not_le.mpr hbl
  have hcm : 25 + k + 1 ≤ 1058 := by omega
  have hsm : 1025 + 6 * k + 6 ≤ 9271 := by omega
  have hc0 : 25 + k ≤ 1058 := by omega
  have hs0 : 1025 + 6 * k ≤ 9271 := by omega
  intro H locs hP hS ls hl
  unfold fL_law_J292 at hf
  refine lv_aload_n hx hb dL_law_292 rfl (lv_at hl 1 rfl) ?_
  refine lv_aload_n hx hb dL_law_293 rfl (lv_at hl 0 rfl) ?_
  refine lv_iload hx hb dL_law_294 (lv_at hl 5 rfl) ?_
  refine lv_iconst (v := (1 : Int32)) hx hb dL_law_296 (by decide) ?_
  refine lv_iadd hx hb dL_law_297 ?_
  obtain ⟨g_1, hf⟩ := gd_some hf
  refine va_sld hx hb hX hbl hbA hS (inb_in g_1) dL_law_298 ?_
  refine lv_aload_n hx hb dL_law_299 rfl (lv_at hl 0 rfl) ?_
  refine lv_iload hx hb dL_law_300 (lv_at hl 5 rfl) ?_
  refine lv_iconst (v := (2 : Int32)) hx hb dL_law_302 (by decide) ?_
  refine lv_iadd hx hb dL_law_303 ?_
  obtain ⟨g_2, hf⟩ := gd_some hf
  refine va_sld hx hb hX hbl hbA hS (inb_in g_2) dL_law_304 ?_
  refine lv_aload_n hx hb dL_law_305 rfl (lv_at hl 3 rfl) ?_
  obtain ⟨⟨r306, Tn306, Ta306, Oa306⟩, hc, hf⟩ := bn_some hf
  try dsimp only at hf
  refine g_call (mc := 1) (ms := 6) (ws' := (w_0_1_2_3_4_5_6_7_8_9_10_11_12_13_14_15_16_17_18_19_20_21_22_23_24 q cI cJ cD Tn306 Ta306 Fn Fa Ba Rn Ra Rb Rd Ua Wg Wz Ww Wr Mh Mn Mm Mt Mk Ms Me Mp Mw Ml My Oa306 Od)) (st1 := [.int r306]) hq [0, 1, 2, 3, 4, 5, 6, 7, 8, 9, 10, 11, 12, 13, 14, 15, 16, 17, 18, 19, 20, 21, 22, 23, 24] [0, 1, 2, 23] [.inl 0, .inl 1, .inl 2, .inr 3, .inr 4, .inr 5, .inr 6, .inr 7, .inr 8, .inr 9, .inr 10, .inr 11, .inr 12, .inr 13, .inr 14, .inr 15, .inr 16, .inr 17, .inr 18, .inr 19, .inr 20, .inr 21, .inr 22, .inl 3, .inr 24] (vx_runSW (As := [.ref (q 0), .int (xs ((x5 + (1 : Int32))).toNatClampNeg), .int (xs ((x5 + (2 : Int32))).toNatClampNeg), .ref (q 23)]) (rest := []) ⟨hx, hb, hml, hown, hts⟩ (kL_insert l hlt D cI cJ cD sa q hq N Tn Ta Oa (xs ((x5 + (1 : Int32))).toNatClampNeg) (xs ((x5 + (2 : Int32))).toNatClampNeg) r306 Tn306 Ta306 Oa306 hc) (vx_cwSW 4 hts gL_law_L_insert rfl rfl rfl (by decide +kernel) ⟨(Nat.le_of_ble_eq_true rfl), (Nat.le_of_ble_eq_true rfl)⟩) ⟨gPx_blind, fun U hU hW => ⟨rfl, by rw [hU]; exact hP.sub (ws' := (w_0_1_2_23 q cI cJ cD Tn Ta Oa)) [0, 1, 2, 23] rfl, gEv.warm hW hE, gXe.go hW hS (gMonoL hqA rfl) hXe hU⟩⟩ rfl rfl hl.1 rfl (lv_room (Nat.le_of_ble_eq_true rfl)) dL_law_306 ⟨hcm, hsm⟩) hP hS (gSubL hqA rfl) rfl rfl rfl rfl rfl (fun H locs hP hS => ?_)
  refine lv_istore (lv' := [(6, .int r306), (0, .ref b), (1, .ref (q 0)), (2, .ref (q 14)), (3, .ref (q 23)), (4, .ref (q 24)), (5, .int x5)]) hx hb dL_law_309 hl (by decide) rfl (fun ls hl => ?_)
  refine lv_aload_n hx hb dL_law_311 rfl (lv_at hl 3 rfl) ?_
  refine lv_aload_n hx hb dL_law_312 rfl (lv_at hl 1 rfl) ?_
  refine lv_iload hx hb dL_law_313 (lv_at hl 6 rfl) ?_
  refine lv_iconst (v := (1 : Int32)) hx hb dL_law_315 (by decide) ?_
  refine lv_iadd hx hb dL_law_316 ?_
  obtain ⟨g_3, hf⟩ := gd_some hf
  refine va_sld hx hb hX hbl hbA hS (inb_in g_3) dL_law_317 ?_
  refine lv_aload_n hx hb dL_law_318 rfl (lv_at hl 1 rfl) ?_
  refine lv_iload hx hb dL_law_319 (lv_at hl 6 rfl) ?_
  refine lv_iconst (v := (2 : Int32)) hx hb dL_law_321 (by decide) ?_
  refine lv_iadd hx hb dL_law_322 ?_
  obtain ⟨g_4, hf⟩ := gd_some hf
  refine va_sld hx hb hX hbl hbA hS (inb_in g_4) dL_law_323 ?_
  obtain ⟨⟨r324, Mh324, Mn324, Mt324⟩, hc, hf⟩ := bn_some hf
  try dsimp only at hf
  refine g_call0 (ws' := (w_0_1_2_3_4_5_6_7_8_9_10_11_12_13_14_15_16_17_18_19_20_21_22_23_24 q cI cJ cD Tn306 Ta306 Fn Fa Ba Rn Ra Rb Rd Ua Wg Wz Ww Wr Mh324 Mn324 Mm Mt324 Mk Ms Me Mp Mw Ml My Oa306 Od)) (st1 := [.int r324]) hq [0, 1, 2, 3, 4, 5, 6, 7, 8, 9, 10, 11, 12, 13, 14, 15, 16, 17, 18, 19, 20, 21, 22, 23, 24] [14, 15] [.inr 0, .inr 1, .inr 2, .inr 3, .inr 4, .inr 5, .inr 6, .inr 7, .inr 8, .inr 9, .inr 10, .inr 11, .inr 12, .inr 13, .inl 0, .inl 1, .inr 16, .inr 17, .inr 18, .inr 19, .inr 20, .inr 21, .inr 22, .inr 23, .inr 24] (va_runV (As := [.int (xs ((x5 + (1 : Int32))).toNatClampNeg), .int (xs ((x5 + (2 : Int32))).toNatClampNeg)]) (rest := []) ⟨hx, hb, hml, hown, hts⟩ (kX9_insert l D cI cJ cD q hq N Mh Mn Mm Mt (xs ((x5 + (1 : Int32))).toNatClampNeg) (xs ((x5 + (2 : Int32))).toNatClampNeg) r324 Mh324 Mn324 Mt324 hc) (cwV 2 hts gL_law_X9_insert rfl rfl rfl (by decide +kernel) ⟨(Nat.le_of_ble_eq_true rfl), (Nat.le_of_ble_eq_true rfl)⟩) ⟨gP_blind, va_recv hE.1 hP (ci := 7) (q0 := 14) rfl rfl, fun U hU hW => ⟨rfl, by rw [hU]; exact hP.sub (ws' := (w_14_15 q cI cJ cD Mh Mn Mm Mt)) [14, 15] rfl, gEv.warm hW hE⟩⟩ rfl rfl hl.1 rfl (lv_room (Nat.le_of_ble_eq_true rfl)) dL_law_324 ⟨hcm, hsm⟩) hP hS (gSubL hqA rfl) rfl rfl rfl rfl rfl (fun H locs hP hS => ?_)
  refine lv_istore (lv' := [(7, .int r324), (6, .int r306), (0, .ref b), (1, .ref (q 0)), (2, .ref (q 14)), (3, .ref (q 23)), (4, .ref (q 24)), (5, .int x5)]) hx hb dL_law_327 hl (by decide) rfl (fun ls hl => ?_)
  refine lv_aload_n hx hb dL_law_329 rfl (lv_at hl 4 rfl) ?_
  obtain ⟨r330, hc, hf⟩ := bn_some hf
  try dsimp only at hf
  refine g_call0 (ws' := (w_0_1_2_3_4_5_6_7_8_9_10_11_12_13_14_15_16_17_18_19_20_21_22_23_24 q cI cJ cD Tn306 Ta306 Fn Fa Ba Rn Ra Rb Rd Ua Wg Wz Ww Wr Mh324 Mn324 Mm Mt324 Mk Ms Me Mp Mw Ml My Oa306 Od)) (st1 := [.int r330]) hq [0, 1, 2, 3, 4, 5, 6, 7, 8, 9, 10, 11, 12, 13, 14, 15, 16, 17, 18, 19, 20, 21, 22, 23, 24] [14] [.inr 0, .inr 1, .inr 2, .inr 3, .inr 4, .inr 5, .inr 6, .inr 7, .inr 8, .inr 9, .inr 10, .inr 11, .inr 12, .inr 13, .inl 0, .inr 15, .inr 16, .inr 17, .inr 18, .inr 19, .inr 20, .inr 21, .inr 22, .inr 23, .inr 24] (va_runV (As := []) (rest := []) ⟨hx, hb, hml, hown, hts⟩ (kX9_thrown l D cI cJ cD q hq N Mh324 Mn324 Mm r330 hc) (cwV 0 hts gL_law_X9_thrown rfl rfl rfl (by decide +kernel) ⟨(Nat.le_of_ble_eq_true rfl), (Nat.le_of_ble_eq_true rfl)⟩) ⟨gP_blind, va_recv hE.1 hP (ci := 7) (q0 := 14) rfl rfl, fun U hU hW => ⟨rfl, by rw [hU]; exact hP.sub (ws' := (w_14 q cI cJ cD Mh324 Mn324 Mm)) [14] rfl, gEv.warm hW hE⟩⟩ rfl rfl hl.1 rfl (lv_room (Nat.le_of_ble_eq_true rfl)) dL_law_330 ⟨hcm, hsm⟩) hP hS (gSubL hqA rfl) rfl rfl rfl rfl rfl (fun H locs hP hS => ?_)
  refine lv_iload hx hb dL_law_333 (lv_at hl 1 rfl) ?_
  refine lv_icmp_eq (tgt := 340) hx hb dL_law_335 (by decide) (fun c_5 => ?_) (fun c_5 => ?_)
  · have hf := (if_pos c_5).symm.trans hf
    refine lv_iload hx hb dL_law_340 (lv_at hl 1 rfl) ?_
    refine lv_if_ne (tgt := 357) hx hb dL_law_342 (by decide) (fun c_6 => ?_) (fun c_6 => ?_)
    · have hf := (if_neg c_6).symm.trans hf
      exact law_J357 hL C0 hlt D cI cJ cD sa q hq hqA hE hXe N k h5 k28 ih Tn306 Ta306 Fn Fa Ba Rn Ra Rb Rd Ua Wg Wz Ww Wr Mh324 Mn324 Mm Mt324 Mk Ms Me Mp Mw Ml My Oa306 Od x5 hx5 hf _ _ hP hS _ (lv_sub hl [2, 3, 4, 5, 6, 7] rfl)
    · have hf := (if_pos c_6).symm.trans hf
      refine lv_aload_n hx hb dL_law_345 rfl (lv_at hl 5 rfl) ?_
      refine lv_iconst (v := (0 : Int32)) hx hb dL_law_346 (by decide) ?_
      obtain ⟨g_7, hf⟩ := gd_some hf
      refine va_lald hx hb hE.1 hP 23 1 rfl rfl (inb_in g_7) dL_law_347 ?_
      refine lv_iload hx hb dL_law_348 (lv_at hl 0 rfl) ?_
      refine lv_i2l (v := (r324).toInt64) hx hb dL_law_350 rfl ?_
      refine W.lcmp hx hb dL_law_351 ?_
      refine lv_if_eq (tgt := 357) hx hb dL_law_352 (by decide) (fun c_8 => ?_) (fun c_8 => ?_)
      · have hf := (if_pos c_8).symm.trans hf
        exact law_J357 hL C0 hlt D cI cJ cD sa q hq hqA hE hXe N k h5 k28 ih Tn306 Ta306 Fn Fa Ba Rn Ra Rb Rd Ua Wg Wz Ww Wr Mh324 Mn324 Mm Mt324 Mk Ms Me Mp Mw Ml My Oa306 Od x5 hx5 hf _ _ hP hS _ (lv_sub hl [2, 3, 4, 5, 6, 7] rfl)
      · have hf := (if_neg c_8).symm.trans hf
        exact law_J355 hL C0 hlt D cI cJ cD sa q hq hqA hE hXe N k (by omega) Tn306 Ta306 Fn Fa Ba Rn Ra Rb Rd Ua Wg Wz Ww Wr Mh324 Mn324 Mm Mt324 Mk Ms Me Mp Mw Ml My Oa306 Od hf _ _ hP hS _ (lv_sub hl [] rfl)
  · have hf := (if_neg c_5).symm.trans hf
    exact law_J338 hL C0 hlt D cI cJ cD sa q hq hqA hE hXe N k (by omega) Tn306 Ta306 Fn Fa Ba Rn Ra Rb Rd Ua Wg Wz Ww Wr Mh324 Mn324 Mm Mt324 Mk Ms Me Mp Mw Ml My Oa306 Od hf _ _ hP hS _ (lv_sub hl [] rfl)
set_option maxHeartbeats 4000000 in
set_option maxRecDepth 100000 in
theorem law_J425 {p : Program} {l : Launch} {e : Env} {s : State} {m : MethodId} {below : List Frame} {meth : Method} {c : Code} {b L : Nat} {xs : Nat → Int32} (hL : L ≤ 2560) (C0 : lw_At p s m meth c b L xs) (hlt : l.stackTraces = false) (D : va_G) (cI cJ cD : ClassId) (sa : Nat → Nat) (q : Nat → Nat) (hq : gInj q) (hqA : ∀ k, k < 25 → s.heap.size ≤ q k) (hE : gEv D cI cJ cD s) (hXe : gXe sa (fun a => s.heap.size ≤ a) s s.heap) (N : Nat) (k : Nat) (h5 : 5 * k + 5 ≤ L) (k28 : Int32 → (Nat → Int32) → Int32 → (Nat → Int32) → (Nat → Int32) → Int32 → (Nat → Int32) → (Nat → Int32) → (Nat → Int32) → (Nat → Int32) → Int32 → Int32 → Int32 → Int32 → Int32 → Int32 → Int32 → (Nat → Int32) → (Nat → Int32) → (Nat → Int32) → (Nat → Int32) → (Nat → Int32) → (Nat → Int32) → (Nat → Int32) → (Nat → Int64) → (Nat → Int64) → (Nat → UInt64) → Int32 → Option Int32) (ih : lawIH p l e s m below meth c b D cI cJ cD q k k28) (Tn : Int32) (Ta : (Nat → Int32)) (Fn : Int32) (Fa : (Nat → Int32)) (Ba : (Nat → Int32)) (Rn : Int32) (Ra : (Nat → Int32)) (Rb : (Nat → Int32)) (Rd : (Nat → Int32)) (Ua : (Nat → Int32)) (Wg : Int32) (Wz : Int32) (Ww : Int32) (Wr : Int32) (Mh : Int32) (Mn : Int32) (Mm : Int32) (Mt : (Nat → Int32)) (Mk : (Nat → Int32)) (Ms : (Nat → Int32)) (Me : (Nat → Int32)) (Mp : (Nat → Int32)) (Mw : (Nat → Int32)) (Ml : (Nat → Int32)) (My : (Nat → Int64)) (Oa : (Nat → Int64)) (Od : (Nat → UInt64)) (x5 : Int32) (hx5 : x5 = nI (5 * k)) (hf : fL_law_J425 N L xs k28 Tn Ta Fn Fa Ba Rn Ra Rb Rd Ua Wg Wz Ww Wr Mh Mn Mm Mt Mk Ms Me Mp Mw Ml My Oa Od x5 = some 1) : ∀ (H : Heap) (locs : List Loc), va_P D vwCl (w_0_1_2_3_4_5_6_7_8_9_10_11_12_13_14_15_16_17_18_19_20_21_22_23_24 q cI cJ cD Tn Ta Fn Fa Ba Rn Ra Rb Rd Ua Wg Wz Ww Wr Mh Mn Mm Mt Mk Ms Me Mp Mw Ml My Oa Od) H → va_S (fun a : Nat => s.heap.size ≤ a) s.heap H locs → ∀ ls : Array Slot, lv_has ls 10 [(0, .ref b), (1, .ref (q 0)), (2, .ref (q 14)), (3, .ref (q 23)), (4, .ref (q 24)), (5, .int x5)] → W p l e room_1 s m #[Value.ref b] below meth c H locs (25 + k + 1) (1025 + 6 * k + 6) (lw_Z below #[Value.ref b] s) (F0 m 425 ls []) := by
  obtain ⟨hx, hb, hr, hml, hown, hts0, hX, hbl, hlocks, hgv⟩ := id C0
  have hown : s.vm.findClass RL = some m.cls := hown
  have hts : ∀ w ∈ wsL_law, w.before #[Value.ref b] s = true := fun w h => hts0 w (wsL_law_in w h)
  have hbA : ¬ (fun a : Nat => s.heap.size ≤ a) b := Nat.not_le.mpr hbl
  have hcm : 25 + k + 1 ≤ 1058 := by omega
  have hsm : 1025 + 6 * k + 6 ≤ 9271 := by omega
  have hc0 : 25 + k ≤ 1058 := by omega
  have hs0 : 1025 + 6 * k ≤ 9271 := by omega
  intro H locs hP hS ls hl
  unfold fL_law_J425 at hf
  refine lv_goto (tgt := 2831) hx hb dL_law_425 (by decide) ?_
  exact law_J2831 hL C0 hlt D cI cJ cD sa q hq hqA hE hXe N k h5 k28 ih Tn Ta Fn Fa Ba Rn Ra Rb Rd Ua Wg Wz Ww Wr Mh Mn Mm Mt Mk Ms Me Mp Mw Ml My Oa Od x5 hx5 hf _ _ hP hS _ (lv_sub hl [0, 1, 2, 3, 4, 5] rfl)
set_option maxHeartbeats 4000000 in
set_option maxRecDepth 100000 in
theorem law_J360 {p : Program} {l : Launch} {e : Env} {s : State} {m : MethodId} {below : List Frame} {meth : Method} {c : Code} {b L : Nat} {xs : Nat → Int32} (hL : L ≤ 2560) (C0 : lw_At p s m meth c b L xs) (hlt : l.stackTraces = false) (D : va_G) (cI cJ cD : ClassId) (sa : Nat → Nat) (q : Nat → Nat) (hq : gInj q) (hqA : ∀ k, k < 25 → s.heap.size ≤ q k) (hE : gEv D cI cJ cD s) (hXe : gXe sa (fun a => s.heap.size ≤ a) s s.heap) (N : Nat) (k : Nat) (h5 : 5 * k + 5 ≤ L) (k28 : Int32 → (Nat → Int32) → Int32 → (Nat → Int32) → (Nat → Int32) → Int32 → (Nat → Int32) → (Nat → Int32) → (Nat → Int32) → (Nat → Int32) → Int32 → Int32 → Int32 → Int32 → Int32 → Int32 → Int32 → (Nat → Int32) → (Nat → Int32) → (Nat → Int32) → (Nat → Int32) → (Nat → Int32) → (Nat → Int32) → (Nat → Int32) → (Nat → Int64) → (Nat → Int64) → (Nat → UInt64) → Int32 → Option Int32) (ih : lawIH p l e s m below meth c b D cI cJ cD q k k28) (Tn : Int32) (Ta : (Nat → Int32)) (Fn : Int32) (Fa : (Nat → Int32)) (Ba : (Nat → Int32)) (Rn : Int32) (Ra : (Nat → Int32)) (Rb : (Nat → Int32)) (Rd : (Nat → Int32)) (Ua : (Nat → Int32)) (Wg : Int32) (Wz : Int32) (Ww : Int32) (Wr : Int32) (Mh : Int32) (Mn : Int32) (Mm : Int32) (Mt : (Nat → Int32)) (Mk : (Nat → Int32)) (Ms : (Nat → Int32)) (Me : (Nat → Int32)) (Mp : (Nat → Int32)) (Mw : (Nat → Int32)) (Ml : (Nat → Int32)) (My : (Nat → Int64)) (Oa : (Nat → Int64)) (Od : (Nat → UInt64)) (x5 : Int32) (hx5 : x5 = nI (5 * k)) (hf : fL_law_J360 N L xs k28 Tn Ta Fn Fa Ba Rn Ra Rb Rd Ua Wg Wz Ww Wr Mh Mn Mm Mt Mk Ms Me Mp Mw Ml My Oa Od x5 = some 1) : ∀ (H : Heap) (locs : List Loc), va_P D vwCl (w_0_1_2_3_4_5_6_7_8_9_10_11_12_13_14_15_16_17_18_19_20_21_22_23_24 q cI cJ cD Tn Ta Fn Fa Ba Rn Ra Rb Rd Ua Wg Wz Ww Wr Mh Mn Mm Mt Mk Ms Me Mp Mw Ml My Oa Od) H → va_S (fun a : Nat => s.heap.size ≤ a) s.heap H locs → ∀ ls : Array Slot, lv_has ls 10 [(0, .ref b), (1, .ref (q 0)), (2, .ref (q 14)), (3, .ref (q 23)), (4, .ref (q 24)), (5, .int x5)] → W p l e room_1 s m #[Value.ref b] below meth c H locs (25 + k) (1025 + 6 * k) (lw_Z below #[Value.ref b] s) (F0 m 360 ls []) := by
  obtain ⟨hx, hb, hr, hml, hown, hts0, hX, hbl, hlocks, hgv⟩ := id C0
  have hown : s.vm.findClass RL = some m.cls := hown
  have hts : ∀ w ∈ wsL_law, w.before #[Value.ref b] s = true := fun w h => hts0 w (wsL_law_in w h)
  have hbA : ¬ (fun a : Nat => s.heap.size ≤ a) b := Nat.not_le.mpr hbl
  have hcm : 25 + k + 1 ≤ 1058 := by omega
  have hsm : 1025 + 6 * k + 6 ≤ 9271 := by omega
  have hc0 : 25 + k ≤ 1058 := by omega
  have hs0 : 1025 + 6 * k ≤ 9271 := by omega
  intro H locs hP hS ls hl
  unfold fL_law_J360 at hf
  refine lv_aload_n hx hb dL_law_360 rfl (lv_at hl 1 rfl) ?_
  refine lv_aload_n hx hb dL_law_361 rfl (lv_at hl 0 rfl) ?_
  refine lv_iload hx hb dL_law_362 (lv_at hl 5 rfl) ?_
  refine lv_iconst (v := (1 : Int32)) hx hb dL_law_364 (by decide) ?_
  refine lv_iadd hx hb dL_law_365 ?_
  obtain ⟨g_1, hf⟩ := gd_some hf
  refine va_sld hx hb hX hbl hbA hS (inb_in g_1) dL_law_366 ?_
  refine lv_aload_n hx hb dL_law_367 rfl (lv_at hl 0 rfl) ?_
  refine lv_iload hx hb dL_law_368 (lv_at hl 5 rfl) ?_
  refine lv_iconst (v := (2 : Int32)) hx hb dL_law_370 (by decide) ?_
  refine lv_iadd hx hb dL_law_371 ?_
  obtain ⟨g_2, hf⟩ := gd_some hf
  refine va_sld hx hb hX hbl hbA hS (inb_in g_2) dL_law_372 ?_
  refine lv_aload_n hx hb dL_law_373 rfl (lv_at hl 3 rfl) ?_
  obtain ⟨⟨r374, Ta374, Oa374⟩, hc, hf⟩ := bn_some hf
  try dsimp only at hf
  refine g_call (mc := 1) (ms := 6) (ws' := (w_0_1_2_3_4_5_6_7_8_9_10_11_12_13_14_15_16_17_18_19_20_21_22_23_24 q cI cJ cD Tn Ta374 Fn Fa Ba Rn Ra Rb Rd Ua Wg Wz Ww Wr Mh Mn Mm Mt Mk Ms Me Mp Mw Ml My Oa374 Od)) (st1 := [.int r374]) hq [0, 1, 2, 3, 4, 5, 6, 7, 8, 9, 10, 11, 12, 13, 14, 15, 16, 17, 18, 19, 20, 21, 22, 23, 24] [0, 1, 2, 23] [.inl 0, .inl 1, .inl 2, .inr 3, .inr 4, .inr 5, .inr 6, .inr 7, .inr 8, .inr 9, .inr 10, .inr 11, .inr 12, .inr 13, .inr 14, .inr 15, .inr 16, .inr 17, .inr 18, .inr 19, .inr 20, .inr 21, .inr 22, .inl 3, .inr 24] (vx_runSW (As := [.ref (q 0), .int (xs ((x5 + (1 : Int32))).toNatClampNeg), .int (xs ((x5 + (2 : Int32))).toNatClampNeg), .ref (q 23)]) (rest := []) ⟨hx, hb, hml, hown, hts⟩ (kL_set l hlt D cI cJ cD sa q hq N Tn Ta Oa (xs ((x5 + (1 : Int32))).toNatClampNeg) (xs ((x5 + (2 : Int32))).toNatClampNeg) r374 Ta374 Oa374 hc) (vx_cwSW 4 hts gL_law_L_set rfl rfl rfl (by decide +kernel) ⟨(Nat.le_of_ble_eq_true rfl), (Nat.le_of_ble_eq_true rfl)⟩) ⟨gPx_blind, fun U hU hW => ⟨rfl, by rw [hU]; exact hP.sub (ws' := (w_0_1_2_23 q cI cJ cD Tn Ta Oa)) [0, 1, 2, 23] rfl, gEv.warm hW hE, gXe.go hW hS (gMonoL hqA rfl) hXe hU⟩⟩ rfl rfl hl.1 rfl (lv_room (Nat.le_of_ble_eq_true rfl)) dL_law_374 ⟨hcm, hsm⟩) hP hS (gSubL hqA rfl) rfl rfl rfl rfl rfl (fun H locs hP hS => ?_)
  refine lv_istore (lv' := [(6, .int r374), (0, .ref b), (1, .ref (q 0)), (2, .ref (q 14)), (3, .ref (q 23)), (4, .ref (q 24)), (5, .int x5)]) hx hb dL_law_377 hl (by decide) rfl (fun ls hl => ?_)
  refine lv_aload_n hx hb dL_law_379 rfl (lv_at hl 3 rfl) ?_
  refine lv_aload_n hx hb dL_law_380 rfl (lv_at hl 1 rfl) ?_
  refine lv_iload hx hb dL_law_381 (lv_at hl 6 rfl) ?_
  refine lv_iconst (v := (1 : Int32)) hx hb dL_law_383 (by decide) ?_
  refine lv_iadd hx hb dL_law_384 ?_
  obtain ⟨g_3, hf⟩ := gd_some hf
  refine va_sld hx hb hX hbl hbA hS (inb_in g_3) dL_law_385 ?_
  refine lv_aload_n hx hb dL_law_386 rfl (lv_at hl 1 rfl) ?_
  refine lv_iload hx hb dL_law_387 (lv_at hl 6 rfl) ?_
  refine lv_iconst (v := (2 : Int32)) hx hb dL_law_389 (by decide) ?_
  refine lv_iadd hx hb dL_law_390 ?_
  obtain ⟨g_4, hf⟩ := gd_some hf
  refine va_sld hx hb hX hbl hbA hS (inb_in g_4) dL_law_391 ?_
  obtain ⟨⟨r392, Mh392, Mt392⟩, hc, hf⟩ := bn_some hf
  try dsimp only at hf
  refine g_call0 (ws' := (w_0_1_2_3_4_5_6_7_8_9_10_11_12_13_14_15_16_17_18_19_20_21_22_23_24 q cI cJ cD Tn Ta374 Fn Fa Ba Rn Ra Rb Rd Ua Wg Wz Ww Wr Mh392 Mn Mm Mt392 Mk Ms Me Mp Mw Ml My Oa374 Od)) (st1 := [.int r392]) hq [0, 1, 2, 3, 4, 5, 6, 7, 8, 9, 10, 11, 12, 13, 14, 15, 16, 17, 18, 19, 20, 21, 22, 23, 24] [14, 15] [.inr 0, .inr 1, .inr 2, .inr 3, .inr 4, .inr 5, .inr 6, .inr 7, .inr 8, .inr 9, .inr 10, .inr 11, .inr 12, .inr 13, .inl 0, .inl 1, .inr 16, .inr 17, .inr 18, .inr 19, .inr 20, .inr 21, .inr 22, .inr 23, .inr 24] (va_runV (As := [.int (xs ((x5 + (1 : Int32))).toNatClampNeg), .int (xs ((x5 + (2 : Int32))).toNatClampNeg)]) (rest := []) ⟨hx, hb, hml, hown, hts⟩ (kX9_set l D cI cJ cD q hq N Mh Mn Mm Mt (xs ((x5 + (1 : Int32))).toNatClampNeg) (xs ((x5 + (2 : Int32))).toNatClampNeg) r392 Mh392 Mt392 hc) (cwV 2 hts gL_law_X9_set rfl rfl rfl (by decide +kernel) ⟨(Nat.le_of_ble_eq_true rfl), (Nat.le_of_ble_eq_true rfl)⟩) ⟨gP_blind, va_recv hE.1 hP (ci := 7) (q0 := 14) rfl rfl, fun U hU hW => ⟨rfl, by rw [hU]; exact hP.sub (ws' := (w_14_15 q cI cJ cD Mh Mn Mm Mt)) [14, 15] rfl, gEv.warm hW hE⟩⟩ rfl rfl hl.1 rfl (lv_room (Nat.le_of_ble_eq_true rfl)) dL_law_392 ⟨hcm, hsm⟩) hP hS (gSubL hqA rfl) rfl rfl rfl rfl rfl (fun H locs hP hS => ?_)
  refine lv_istore (lv' := [(7, .int r392), (6, .int r374), (0, .ref b), (1, .ref (q 0)), (2, .ref (q 14)), (3, .ref (q 23)), (4, .ref (q 24)), (5, .int x5)]) hx hb dL_law_395 hl (by decide) rfl (fun ls hl => ?_)
  refine lv_aload_n hx hb dL_law_397 rfl (lv_at hl 4 rfl) ?_
  obtain ⟨r398, hc, hf⟩ := bn_some hf
  try dsimp only at hf
  refine g_call0 (ws' := (w_0_1_2_3_4_5_6_7_8_9_10_11_12_13_14_15_16_17_18_19_20_21_22_23_24 q cI cJ cD Tn Ta374 Fn Fa Ba Rn Ra Rb Rd Ua Wg Wz Ww Wr Mh392 Mn Mm Mt392 Mk Ms Me Mp Mw Ml My Oa374 Od)) (st1 := [.int r398]) hq [0, 1, 2, 3, 4, 5, 6, 7, 8, 9, 10, 11, 12, 13, 14, 15, 16, 17, 18, 19, 20, 21, 22, 23, 24] [14] [.inr 0, .inr 1, .inr 2, .inr 3, .inr 4, .inr 5, .inr 6, .inr 7, .inr 8, .inr 9, .inr 10, .inr 11, .inr 12, .inr 13, .inl 0, .inr 15, .inr 16, .inr 17, .inr 18, .inr 19, .inr 20, .inr 21, .inr 22, .inr 23, .inr 24] (va_runV (As := []) (rest := []) ⟨hx, hb, hml, hown, hts⟩ (kX9_thrown l D cI cJ cD q hq N Mh392 Mn Mm r398 hc) (cwV 0 hts gL_law_X9_thrown rfl rfl rfl (by decide +kernel) ⟨(Nat.le_of_ble_eq_true rfl), (Nat.le_of_ble_eq_true rfl)⟩) ⟨gP_blind, va_recv hE.1 hP (ci := 7) (q0 := 14) rfl rfl, fun U hU hW => ⟨rfl, by rw [hU]; exact hP.sub (ws' := (w_14 q cI cJ cD Mh392 Mn Mm)) [14] rfl, gEv.warm hW hE⟩⟩ rfl rfl hl.1 rfl (lv_room (Nat.le_of_ble_eq_true rfl)) dL_law_398 ⟨hcm, hsm⟩) hP hS (gSubL hqA rfl) rfl rfl rfl rfl rfl (fun H locs hP hS => ?_)
  refine lv_iload hx hb dL_law_401 (lv_at hl 1 rfl) ?_
  refine lv_icmp_eq (tgt := 408) hx hb dL_law_403 (by decide) (fun c_5 => ?_) (fun c_5 => ?_)
  · have hf := (if_pos c_5).symm.trans hf
    refine lv_iload hx hb dL_law_408 (lv_at hl 1 rfl) ?_
    refine lv_if_ne (tgt := 425) hx hb dL_law_410 (by decide) (fun c_6 => ?_) (fun c_6 => ?_)
    · have hf := (if_neg c_6).symm.trans hf
      exact law_J425 hL C0 hlt D cI cJ cD sa q hq hqA hE hXe N k h5 k28 ih Tn Ta374 Fn Fa Ba Rn Ra Rb Rd Ua Wg Wz Ww Wr Mh392 Mn Mm Mt392 Mk Ms Me Mp Mw Ml My Oa374 Od x5 hx5 hf _ _ hP hS _ (lv_sub hl [2, 3, 4, 5, 6, 7] rfl)
    · have hf := (if_pos c_6).symm.trans hf
      refine lv_aload_n hx hb dL_law_413 rfl (lv_at hl 5 rfl) ?_
      refine lv_iconst (v := (0 : Int32)) hx hb dL_law_414 (by decide) ?_
      obtain ⟨g_7, hf⟩ := gd_some hf
      refine va_lald hx hb hE.1 hP 23 1 rfl rfl (inb_in g_7) dL_law_415 ?_
      refine lv_iload hx hb dL_law_416 (lv_at hl 0 rfl) ?_
      refine lv_i2l (v := (r392).toInt64) hx hb dL_law_418 rfl ?_
      refine W.lcmp hx hb dL_law_419 ?_
      refine lv_if_eq (tgt := 425) hx hb dL_law_420 (by decide) (fun c_8 => ?_) (fun c_8 => ?_)
      · have hf := (if_pos c_8).symm.trans hf
        exact law_J425 hL C0 hlt D cI cJ cD sa q hq hqA hE hXe N k h5 k28 ih Tn Ta374 Fn Fa Ba Rn Ra Rb Rd Ua Wg Wz Ww Wr Mh392 Mn Mm Mt392 Mk Ms Me Mp Mw Ml My Oa374 Od x5 hx5 hf _ _ hP hS _ (lv_sub hl [2, 3, 4, 5, 6, 7] rfl)
      · have hf := (if_neg c_8).symm.trans hf
        exact law_J423 hL C0 hlt D cI cJ cD sa q hq hqA hE hXe N k (by omega) Tn Ta374 Fn Fa Ba Rn Ra Rb Rd Ua Wg Wz Ww Wr Mh392 Mn Mm Mt392 Mk Ms Me Mp Mw Ml My Oa374 Od hf _ _ hP hS _ (lv_sub hl [] rfl)
  · have hf := (if_neg c_5).symm.trans hf
    exact law_J406 hL C0 hlt D cI cJ cD sa q hq hqA hE hXe N k (by omega) Tn Ta374 Fn Fa Ba Rn Ra Rb Rd Ua Wg Wz Ww Wr Mh392 Mn Mm Mt392 Mk Ms Me Mp Mw Ml My Oa374 Od hf _ _ hP hS _ (lv_sub hl [] rfl)
set_option maxHeartbeats 4000000 in
set_option maxRecDepth 100000 in
theorem law_J481 {p : Program} {l : Launch} {e : Env} {s : State} {m : MethodId} {below : List Frame} {meth : Method} {c : Code} {b L : Nat} {xs : Nat → Int32} (hL : L ≤ 2560) (C0 : lw_At p s m meth c b L xs) (hlt : l.stackTraces = false) (D : va_G) (cI cJ cD : ClassId) (sa : Nat → Nat) (q : Nat → Nat) (hq : gInj q) (hqA : ∀ k, k < 25 → s.heap.size ≤ q k) (hE : gEv D cI cJ cD s) (hXe : gXe sa (fun a => s.heap.size ≤ a) s s.heap) (N : Nat) (k : Nat) (h5 : 5 * k + 5 ≤ L) (k28 : Int32 → (Nat → Int32) → Int32 → (Nat → Int32) → (Nat → Int32) → Int32 → (Nat → Int32) → (Nat → Int32) → (Nat → Int32) → (Nat → Int32) → Int32 → Int32 → Int32 → Int32 → Int32 → Int32 → Int32 → (Nat → Int32) → (Nat → Int32) → (Nat → Int32) → (Nat → Int32) → (Nat → Int32) → (Nat → Int32) → (Nat → Int32) → (Nat → Int64) → (Nat → Int64) → (Nat → UInt64) → Int32 → Option Int32) (ih : lawIH p l e s m below meth c b D cI cJ cD q k k28) (Tn : Int32) (Ta : (Nat → Int32)) (Fn : Int32) (Fa : (Nat → Int32)) (Ba : (Nat → Int32)) (Rn : Int32) (Ra : (Nat → Int32)) (Rb : (Nat → Int32)) (Rd : (Nat → Int32)) (Ua : (Nat → Int32)) (Wg : Int32) (Wz : Int32) (Ww : Int32) (Wr : Int32) (Mh : Int32) (Mn : Int32) (Mm : Int32) (Mt : (Nat → Int32)) (Mk : (Nat → Int32)) (Ms : (Nat → Int32)) (Me : (Nat → Int32)) (Mp : (Nat → Int32)) (Mw : (Nat → Int32)) (Ml : (Nat → Int32)) (My : (Nat → Int64)) (Oa : (Nat → Int64)) (Od : (Nat → UInt64)) (x5 : Int32) (hx5 : x5 = nI (5 * k)) (hf : fL_law_J481 N L xs k28 Tn Ta Fn Fa Ba Rn Ra Rb Rd Ua Wg Wz Ww Wr Mh Mn Mm Mt Mk Ms Me Mp Mw Ml My Oa Od x5 = some 1) : ∀ (H : Heap) (locs : List Loc), va_P D vwCl (w_0_1_2_3_4_5_6_7_8_9_10_11_12_13_14_15_16_17_18_19_20_21_22_23_24 q cI cJ cD Tn Ta Fn Fa Ba Rn Ra Rb Rd Ua Wg Wz Ww Wr Mh Mn Mm Mt Mk Ms Me Mp Mw Ml My Oa Od) H → va_S (fun a : Nat => s.heap.size ≤ a) s.heap H locs → ∀ ls : Array Slot, lv_has ls 10 [(0, .ref b), (1, .ref (q 0)), (2, .ref (q 14)), (3, .ref (q 23)), (4, .ref (q 24)), (5, .int x5)] → W p l e room_1 s m #[Value.ref b] below meth c H locs (25 + k + 1) (1025 + 6 * k + 6) (lw_Z below #[Value.ref b] s) (F0 m 481 ls []) := by
  obtain ⟨hx, hb, hr, hml, hown, hts0, hX, hbl, hlocks, hgv⟩ := id C0
  have hown : s.vm.findClass RL = some m.cls := hown
  have hts : ∀ w ∈ wsL_law, w.before #[Value.ref b] s = true := fun w h => hts0 w (wsL_law_in w h)
  have hbA : ¬ (fun a : Nat => s.heap.size ≤ a) b := Nat.not_le.mpr hbl
  have hcm : 25 + k + 1 ≤ 1058 := by omega
  have hsm : 1025 + 6 * k + 6 ≤ 9271 := by omega
  have hc0 : 25 + k ≤ 1058 := by omega
  have hs0 : 1025 + 6 * k ≤ 9271 := by omega
  intro H locs hP hS ls hl
  unfold fL_law_J481 at hf
  refine lv_goto (tgt := 2831) hx hb dL_law_481 (by decide) ?_
  exact law_J2831 hL C0 hlt D cI cJ cD sa q hq hqA hE hXe N k h5 k28 ih Tn Ta Fn Fa Ba Rn Ra Rb Rd Ua Wg Wz Ww Wr Mh Mn Mm Mt Mk Ms Me Mp Mw Ml My Oa Od x5 hx5 hf _ _ hP hS _ (lv_sub hl [0, 1, 2, 3, 4, 5] rfl)
set_option maxHeartbeats 4000000 in
set_option maxRecDepth 100000 in
theorem law_J428 {p : Program} {l : Launch} {e : Env} {s : State} {m : MethodId} {below : List Frame} {meth : Method} {c : Code} {b L : Nat} {xs : Nat → Int32} (hL : L ≤ 2560) (C0 : lw_At p s m meth c b L xs) (hlt : l.stackTraces = false) (D : va_G) (cI cJ cD : ClassId) (sa : Nat → Nat) (q : Nat → Nat) (hq : gInj q) (hqA : ∀ k, k < 25 → s.heap.size ≤ q k) (hE : gEv D cI cJ cD s) (hXe : gXe sa (fun a => s.heap.size ≤ a) s s.heap) (N : Nat) (k : Nat) (h5 : 5 * k + 5 ≤ L) (k28 : Int32 → (Nat → Int32) → Int32 → (Nat → Int32) → (Nat → Int32) → Int32 → (Nat → Int32) → (Nat → Int32) → (Nat → Int32) → (Nat → Int32) → Int32 → Int32 → Int32 → Int32 → Int32 → Int32 → Int32 → (Nat → Int32) → (Nat → Int32) → (Nat → Int32) → (Nat → Int32) → (Nat → Int32) → (Nat → Int32) → (Nat → Int32) → (Nat → Int64) → (Nat → Int64) → (Nat → UInt64) → Int32 → Option Int32) (ih : lawIH p l e s m below meth c b D cI cJ cD q k k28) (Tn : Int32) (Ta : (Nat → Int32)) (Fn : Int32) (Fa : (Nat → Int32)) (Ba : (Nat → Int32)) (Rn : Int32) (Ra : (Nat → Int32)) (Rb : (Nat → Int32)) (Rd : (Nat → Int32)) (Ua : (Nat → Int32)) (Wg : Int32) (Wz : Int32) (Ww : Int32) (Wr : Int32) (Mh : Int32) (Mn : Int32) (Mm : Int32) (Mt : (Nat → Int32)) (Mk : (Nat → Int32)) (Ms : (Nat → Int32)) (Me : (Nat → Int32)) (Mp : (Nat → Int32)) (Mw : (Nat → Int32)) (Ml : (Nat → Int32)) (My : (Nat → Int64)) (Oa : (Nat → Int64)) (Od : (Nat → UInt64)) (x5 : Int32) (hx5 : x5 = nI (5 * k)) (hf : fL_law_J428 N L xs k28 Tn Ta Fn Fa Ba Rn Ra Rb Rd Ua Wg Wz Ww Wr Mh Mn Mm Mt Mk Ms Me Mp Mw Ml My Oa Od x5 = some 1) : ∀ (H : Heap) (locs : List Loc), va_P D vwCl (w_0_1_2_3_4_5_6_7_8_9_10_11_12_13_14_15_16_17_18_19_20_21_22_23_24 q cI cJ cD Tn Ta Fn Fa Ba Rn Ra Rb Rd Ua Wg Wz Ww Wr Mh Mn Mm Mt Mk Ms Me Mp Mw Ml My Oa Od) H → va_S (fun a : Nat => s.heap.size ≤ a) s.heap H locs → ∀ ls : Array Slot, lv_has ls 10 [(0, .ref b), (1, .ref (q 0)), (2, .ref (q 14)), (3, .ref (q 23)), (4, .ref (q 24)), (5, .int x5)] → W p l e room_1 s m #[Value.ref b] below meth c H locs (25 + k) (1025 + 6 * k) (lw_Z below #[Value.ref b] s) (F0 m 428 ls []) := by
  obtain ⟨hx, hb, hr, hml, hown, hts0, hX, hbl, hlocks, hgv⟩ := id C0
  have hown : s.vm.findClass RL = some m.cls := hown
  have hts : ∀ w ∈ wsL_law, w.before #[Value.ref b] s = true := fun w h => hts0 w (wsL_law_in w h)
  have hbA : ¬ (fun a : Nat => s.heap.size ≤ a) b := Nat.not_le.mpr hbl
  have hcm : 25 + k + 1 ≤ 1058 := by omega
  have hsm : 1025 + 6 * k + 6 ≤ 9271 := by omega
  have hc0 : 25 + k ≤ 1058 := by omega
  have hs0 : 1025 + 6 * k ≤ 9271 := by omega
  intro H locs hP hS ls hl
  unfold fL_law_J428 at hf
  refine lv_aload_n hx hb dL_law_428 rfl (lv_at hl 1 rfl) ?_
  refine lv_aload_n hx hb dL_law_429 rfl (lv_at hl 0 rfl) ?_
  refine lv_iload hx hb dL_law_430 (lv_at hl 5 rfl) ?_
  refine lv_iconst (v := (1 : Int32)) hx hb dL_law_432 (by decide) ?_
  refine lv_iadd hx hb dL_law_433 ?_
  obtain ⟨g_1, hf⟩ := gd_some hf
  refine va_sld hx hb hX hbl hbA hS (inb_in g_1) dL_law_434 ?_
  refine lv_aload_n hx hb dL_law_435 rfl (lv_at hl 3 rfl) ?_
  obtain ⟨⟨r436, Tn436, Ta436, Oa436⟩, hc, hf⟩ := bn_some hf
  try dsimp only at hf
  refine g_call (mc := 1) (ms := 6) (ws' := (w_0_1_2_3_4_5_6_7_8_9_10_11_12_13_14_15_16_17_18_19_20_21_22_23_24 q cI cJ cD Tn436 Ta436 Fn Fa Ba Rn Ra Rb Rd Ua Wg Wz Ww Wr Mh Mn Mm Mt Mk Ms Me Mp Mw Ml My Oa436 Od)) (st1 := [.int r436]) hq [0, 1, 2, 3, 4, 5, 6, 7, 8, 9, 10, 11, 12, 13, 14, 15, 16, 17, 18, 19, 20, 21, 22, 23, 24] [0, 1, 2, 23] [.inl 0, .inl 1, .inl 2, .inr 3, .inr 4, .inr 5, .inr 6, .inr 7, .inr 8, .inr 9, .inr 10, .inr 11, .inr 12, .inr 13, .inr 14, .inr 15, .inr 16, .inr 17, .inr 18, .inr 19, .inr 20, .inr 21, .inr 22, .inl 3, .inr 24] (vx_runSW (As := [.ref (q 0), .int (xs ((x5 + (1 : Int32))).toNatClampNeg), .ref (q 23)]) (rest := []) ⟨hx, hb, hml, hown, hts⟩ (kL_remove l hlt D cI cJ cD sa q hq N Tn Ta Oa (xs ((x5 + (1 : Int32))).toNatClampNeg) r436 Tn436 Ta436 Oa436 hc) (vx_cwSW 3 hts gL_law_L_remove rfl rfl rfl (by decide +kernel) ⟨(Nat.le_of_ble_eq_true rfl), (Nat.le_of_ble_eq_true rfl)⟩) ⟨gPx_blind, fun U hU hW => ⟨rfl, by rw [hU]; exact hP.sub (ws' := (w_0_1_2_23 q cI cJ cD Tn Ta Oa)) [0, 1, 2, 23] rfl, gEv.warm hW hE, gXe.go hW hS (gMonoL hqA rfl) hXe hU⟩⟩ rfl rfl hl.1 rfl (lv_room (Nat.le_of_ble_eq_true rfl)) dL_law_436 ⟨hcm, hsm⟩) hP hS (gSubL hqA rfl) rfl rfl rfl rfl rfl (fun H locs hP hS => ?_)
  refine lv_istore (lv' := [(6, .int r436), (0, .ref b), (1, .ref (q 0)), (2, .ref (q 14)), (3, .ref (q 23)), (4, .ref (q 24)), (5, .int x5)]) hx hb dL_law_439 hl (by decide) rfl (fun ls hl => ?_)
  refine lv_aload_n hx hb dL_law_441 rfl (lv_at hl 3 rfl) ?_
  refine lv_aload_n hx hb dL_law_442 rfl (lv_at hl 1 rfl) ?_
  refine lv_iload hx hb dL_law_443 (lv_at hl 6 rfl) ?_
  refine lv_iconst (v := (1 : Int32)) hx hb dL_law_445 (by decide) ?_
  refine lv_iadd hx hb dL_law_446 ?_
  obtain ⟨g_2, hf⟩ := gd_some hf
  refine va_sld hx hb hX hbl hbA hS (inb_in g_2) dL_law_447 ?_
  obtain ⟨⟨r448, Mh448, Mn448, Mt448⟩, hc, hf⟩ := bn_some hf
  try dsimp only at hf
  refine g_call0 (ws' := (w_0_1_2_3_4_5_6_7_8_9_10_11_12_13_14_15_16_17_18_19_20_21_22_23_24 q cI cJ cD Tn436 Ta436 Fn Fa Ba Rn Ra Rb Rd Ua Wg Wz Ww Wr Mh448 Mn448 Mm Mt448 Mk Ms Me Mp Mw Ml My Oa436 Od)) (st1 := [.int r448]) hq [0, 1, 2, 3, 4, 5, 6, 7, 8, 9, 10, 11, 12, 13, 14, 15, 16, 17, 18, 19, 20, 21, 22, 23, 24] [14, 15] [.inr 0, .inr 1, .inr 2, .inr 3, .inr 4, .inr 5, .inr 6, .inr 7, .inr 8, .inr 9, .inr 10, .inr 11, .inr 12, .inr 13, .inl 0, .inl 1, .inr 16, .inr 17, .inr 18, .inr 19, .inr 20, .inr 21, .inr 22, .inr 23, .inr 24] (va_runV (As := [.int (xs ((x5 + (1 : Int32))).toNatClampNeg)]) (rest := []) ⟨hx, hb, hml, hown, hts⟩ (kX9_remove l D cI cJ cD q hq N Mh Mn Mm Mt (xs ((x5 + (1 : Int32))).toNatClampNeg) r448 Mh448 Mn448 Mt448 hc) (cwV 1 hts gL_law_X9_remove rfl rfl rfl (by decide +kernel) ⟨(Nat.le_of_ble_eq_true rfl), (Nat.le_of_ble_eq_true rfl)⟩) ⟨gP_blind, va_recv hE.1 hP (ci := 7) (q0 := 14) rfl rfl, fun U hU hW => ⟨rfl, by rw [hU]; exact hP.sub (ws' := (w_14_15 q cI cJ cD Mh Mn Mm Mt)) [14, 15] rfl, gEv.warm hW hE⟩⟩ rfl rfl hl.1 rfl (lv_room (Nat.le_of_ble_eq_true rfl)) dL_law_448 ⟨hcm, hsm⟩) hP hS (gSubL hqA rfl) rfl rfl rfl rfl rfl (fun H locs hP hS => ?_)
  refine lv_istore (lv' := [(7, .int r448), (6, .int r436), (0, .ref b), (1, .ref (q 0)), (2, .ref (q 14)), (3, .ref (q 23)), (4, .ref (q 24)), (5, .int x5)]) hx hb dL_law_451 hl (by decide) rfl (fun ls hl => ?_)
  refine lv_aload_n hx hb dL_law_453 rfl (lv_at hl 4 rfl) ?_
  obtain ⟨r454, hc, hf⟩ := bn_some hf
  try dsimp only at hf
  refine g_call0 (ws' := (w_0_1_2_3_4_5_6_7_8_9_10_11_12_13_14_15_16_17_18_19_20_21_22_23_24 q cI cJ cD Tn436 Ta436 Fn Fa Ba Rn Ra Rb Rd Ua Wg Wz Ww Wr Mh448 Mn448 Mm Mt448 Mk Ms Me Mp Mw Ml My Oa436 Od)) (st1 := [.int r454]) hq [0, 1, 2, 3, 4, 5, 6, 7, 8, 9, 10, 11, 12, 13, 14, 15, 16, 17, 18, 19, 20, 21, 22, 23, 24] [14] [.inr 0, .inr 1, .inr 2, .inr 3, .inr 4, .inr 5, .inr 6, .inr 7, .inr 8, .inr 9, .inr 10, .inr 11, .inr 12, .inr 13, .inl 0, .inr 15, .inr 16, .inr 17, .inr 18, .inr 19, .inr 20, .inr 21, .inr 22, .inr 23, .inr 24] (va_runV (As := []) (rest := []) ⟨hx, hb, hml, hown, hts⟩ (kX9_thrown l D cI cJ cD q hq N Mh448 Mn448 Mm r454 hc) (cwV 0 hts gL_law_X9_thrown rfl rfl rfl (by decide +kernel) ⟨(Nat.le_of_ble_eq_true rfl), (Nat.le_of_ble_eq_true rfl)⟩) ⟨gP_blind, va_recv hE.1 hP (ci := 7) (q0 := 14) rfl rfl, fun U hU hW => ⟨rfl, by rw [hU]; exact hP.sub (ws' := (w_14 q cI cJ cD Mh448 Mn448 Mm)) [14] rfl, gEv.warm hW hE⟩⟩ rfl rfl hl.1 rfl (lv_room (Nat.le_of_ble_eq_true rfl)) dL_law_454 ⟨hcm, hsm⟩) hP hS (gSubL hqA rfl) rfl rfl rfl rfl rfl (fun H locs hP hS => ?_)
  refine lv_iload hx hb dL_law_457 (lv_at hl 1 rfl) ?_
  refine lv_icmp_eq (tgt := 464) hx hb dL_law_459 (by decide) (fun c_3 => ?_) (fun c_3 => ?_)
  · have hf := (if_pos c_3).symm.trans hf
    refine lv_iload hx hb dL_law_464 (lv_at hl 1 rfl) ?_
    refine lv_if_ne (tgt := 481) hx hb dL_law_466 (by decide) (fun c_4 => ?_) (fun c_4 => ?_)
    · have hf := (if_neg c_4).symm.trans hf
      exact law_J481 hL C0 hlt D cI cJ cD sa q hq hqA hE hXe N k h5 k28 ih Tn436 Ta436 Fn Fa Ba Rn Ra Rb Rd Ua Wg Wz Ww Wr Mh448 Mn448 Mm Mt448 Mk Ms Me Mp Mw Ml My Oa436 Od x5 hx5 hf _ _ hP hS _ (lv_sub hl [2, 3, 4, 5, 6, 7] rfl)
    · have hf := (if_pos c_4).symm.trans hf
      refine lv_aload_n hx hb dL_law_469 rfl (lv_at hl 5 rfl) ?_
      refine lv_iconst (v := (0 : Int32)) hx hb dL_law_470 (by decide) ?_
      obtain ⟨g_5, hf⟩ := gd_some hf
      refine va_lald hx hb hE.1 hP 23 1 rfl rfl (inb_in g_5) dL_law_471 ?_
      refine lv_iload hx hb dL_law_472 (lv_at hl 0 rfl) ?_
      refine lv_i2l (v := (r448).toInt64) hx hb dL_law_474 rfl ?_
      refine W.lcmp hx hb dL_law_475 ?_
      refine lv_if_eq (tgt := 481) hx hb dL_law_476 (by decide) (fun c_6 => ?_) (fun c_6 => ?_)
      · have hf := (if_pos c_6).symm.trans hf
        exact law_J481 hL C0 hlt D cI cJ cD sa q hq hqA hE hXe N k h5 k28 ih Tn436 Ta436 Fn Fa Ba Rn Ra Rb Rd Ua Wg Wz Ww Wr Mh448 Mn448 Mm Mt448 Mk Ms Me Mp Mw Ml My Oa436 Od x5 hx5 hf _ _ hP hS _ (lv_sub hl [2, 3, 4, 5, 6, 7] rfl)
      · have hf := (if_neg c_6).symm.trans hf
        exact law_J479 hL C0 hlt D cI cJ cD sa q hq hqA hE hXe N k (by omega) Tn436 Ta436 Fn Fa Ba Rn Ra Rb Rd Ua Wg Wz Ww Wr Mh448 Mn448 Mm Mt448 Mk Ms Me Mp Mw Ml My Oa436 Od hf _ _ hP hS _ (lv_sub hl [] rfl)
  · have hf := (if_neg c_3).symm.trans hf
    exact law_J462 hL C0 hlt D cI cJ cD sa q hq hqA hE hXe N k (by omega) Tn436 Ta436 Fn Fa Ba Rn Ra Rb Rd Ua Wg Wz Ww Wr Mh448 Mn448 Mm Mt448 Mk Ms Me Mp Mw Ml My Oa436 Od hf _ _ hP hS _ (lv_sub hl [] rfl)
set_option maxHeartbeats 4000000 in
set_option maxRecDepth 100000 in
theorem law_J484 {p : Program} {l : Launch} {e : Env} {s : State} {m : MethodId} {below : List Frame} {meth : Method} {c : Code} {b L : Nat} {xs : Nat → Int32} (hL : L ≤ 2560) (C0 : lw_At p s m meth c b L xs) (hlt : l.stackTraces = false) (D : va_G) (cI cJ cD : ClassId) (sa : Nat → Nat) (q : Nat → Nat) (hq : gInj q) (hqA : ∀ k, k < 25 → s.heap.size ≤ q k) (hE : gEv D cI cJ cD s) (hXe : gXe sa (fun a => s.heap.size ≤ a) s s.heap) (N : Nat) (k : Nat) (h5 : 5 * k + 5 ≤ L) (k28 : Int32 → (Nat → Int32) → Int32 → (Nat → Int32) → (Nat → Int32) → Int32 → (Nat → Int32) → (Nat → Int32) → (Nat → Int32) → (Nat → Int32) → Int32 → Int32 → Int32 → Int32 → Int32 → Int32 → Int32 → (Nat → Int32) → (Nat → Int32) → (Nat → Int32) → (Nat → Int32) → (Nat → Int32) → (Nat → Int32) → (Nat → Int32) → (Nat → Int64) → (Nat → Int64) → (Nat → UInt64) → Int32 → Option Int32) (ih : lawIH p l e s m below meth c b D cI cJ cD q k k28) (Tn : Int32) (Ta : (Nat → Int32)) (Fn : Int32) (Fa : (Nat → Int32)) (Ba : (Nat → Int32)) (Rn : Int32) (Ra : (Nat → Int32)) (Rb : (Nat → Int32)) (Rd : (Nat → Int32)) (Ua : (Nat → Int32)) (Wg : Int32) (Wz : Int32) (Ww : Int32) (Wr : Int32) (Mh : Int32) (Mn : Int32) (Mm : Int32) (Mt : (Nat → Int32)) (Mk : (Nat → Int32)) (Ms : (Nat → Int32)) (Me : (Nat → Int32)) (Mp : (Nat → Int32)) (Mw : (Nat → Int32)) (Ml : (Nat → Int32)) (My : (Nat → Int64)) (Oa : (Nat → Int64)) (Od : (Nat → UInt64)) (x5 : Int32) (hx5 : x5 = nI (5 * k)) (hf : fL_law_J484 N L xs k28 Tn Ta Fn Fa Ba Rn Ra Rb Rd Ua Wg Wz Ww Wr Mh Mn Mm Mt Mk Ms Me Mp Mw Ml My Oa Od x5 = some 1) : ∀ (H : Heap) (locs : List Loc), va_P D vwCl (w_0_1_2_3_4_5_6_7_8_9_10_11_12_13_14_15_16_17_18_19_20_21_22_23_24 q cI cJ cD Tn Ta Fn Fa Ba Rn Ra Rb Rd Ua Wg Wz Ww Wr Mh Mn Mm Mt Mk Ms Me Mp Mw Ml My Oa Od) H → va_S (fun a : Nat => s.heap.size ≤ a) s.heap H locs → ∀ ls : Array Slot, lv_has ls 10 [(0, .ref b), (1, .ref (q 0)), (2, .ref (q 14)), (3, .ref (q 23)), (4, .ref (q 24)), (5, .int x5)] → W p l e room_1 s m #[Value.ref b] below meth c H locs (25 + k) (1025 + 6 * k) (lw_Z below #[Value.ref b] s) (F0 m 484 ls []) := by
  obtain ⟨hx, hb, hr, hml, hown, hts0, hX, hbl, hlocks, hgv⟩ := id C0
  have hown : s.vm.findClass RL = some m.cls := hown
  have hts : ∀ w ∈ wsL_law, w.before #[Value.ref b] s = true := fun w h => hts0 w (wsL_law_in w h)
  have hbA : ¬ (fun a : Nat => s.heap.size ≤ a) b := Nat.not_le.mpr hbl
  have hcm : 25 + k + 1 ≤ 1058 := by omega
  have hsm : 1025 + 6 * k + 6 ≤ 9271 := by omega
  have hc0 : 25 + k ≤ 1058 := by omega
  have hs0 : 1025 + 6 * k ≤ 9271 := by omega
  intro H locs hP hS ls hl
  unfold fL_law_J484 at hf
  refine lv_aload_n hx hb dL_law_484 rfl (lv_at hl 1 rfl) ?_
  obtain ⟨⟨r485, Tn485⟩, hc, hf⟩ := bn_some hf
  try dsimp only at hf
  refine g_call0 (ws' := (w_0_1_2_3_4_5_6_7_8_9_10_11_12_13_14_15_16_17_18_19_20_21_22_23_24 q cI cJ cD Tn485 Ta Fn Fa Ba Rn Ra Rb Rd Ua Wg Wz Ww Wr Mh Mn Mm Mt Mk Ms Me Mp Mw Ml My Oa Od)) (st1 := [.int r485]) hq [0, 1, 2, 3, 4, 5, 6, 7, 8, 9, 10, 11, 12, 13, 14, 15, 16, 17, 18, 19, 20, 21, 22, 23, 24] [0, 1] [.inl 0, .inl 1, .inr 2, .inr 3, .inr 4, .inr 5, .inr 6, .inr 7, .inr 8, .inr 9, .inr 10, .inr 11, .inr 12, .inr 13, .inr 14, .inr 15, .inr 16, .inr 17, .inr 18, .inr 19, .inr 20, .inr 21, .inr 22, .inr 23, .inr 24] (va_runV (As := []) (rest := []) ⟨hx, hb, hml, hown, hts⟩ (kX8_clear l D cI cJ cD q hq N Tn r485 Tn485 hc) (cwV 0 hts gL_law_X8_clear rfl rfl rfl (by decide +kernel) ⟨(Nat.le_of_ble_eq_true rfl), (Nat.le_of_ble_eq_true rfl)⟩) ⟨gP_blind, va_recv hE.1 hP (ci := 6) (q0 := 0) rfl rfl, fun U hU hW => ⟨rfl, by rw [hU]; exact hP.sub (ws' := (w_0_1 q cI cJ cD Tn)) [0, 1] rfl, gEv.warm hW hE⟩⟩ rfl rfl hl.1 rfl (lv_room (Nat.le_of_ble_eq_true rfl)) dL_law_485 ⟨hc0, hs0⟩) hP hS (gSubL hqA rfl) rfl rfl rfl rfl rfl (fun H locs hP hS => ?_)
  refine lv_aload_n hx hb dL_law_488 rfl (lv_at hl 2 rfl) ?_
  obtain ⟨⟨r489, Mh489, Mn489⟩, hc, hf⟩ := bn_some hf
  try dsimp only at hf
  refine g_call0 (ws' := (w_0_1_2_3_4_5_6_7_8_9_10_11_12_13_14_15_16_17_18_19_20_21_22_23_24 q cI cJ cD Tn485 Ta Fn Fa Ba Rn Ra Rb Rd Ua Wg Wz Ww Wr Mh489 Mn489 Mm Mt Mk Ms Me Mp Mw Ml My Oa Od)) (st1 := [.int r489, .int r485]) hq [0, 1, 2, 3, 4, 5, 6, 7, 8, 9, 10, 11, 12, 13, 14, 15, 16, 17, 18, 19, 20, 21, 22, 23, 24] [14] [.inr 0, .inr 1, .inr 2, .inr 3, .inr 4, .inr 5, .inr 6, .inr 7, .inr 8, .inr 9, .inr 10, .inr 11, .inr 12, .inr 13, .inl 0, .inr 15, .inr 16, .inr 17, .inr 18, .inr 19, .inr 20, .inr 21, .inr 22, .inr 23, .inr 24] (va_runV (As := []) (rest := [.int r485]) ⟨hx, hb, hml, hown, hts⟩ (kX9_clear l D cI cJ cD q hq N Mh Mn Mm r489 Mh489 Mn489 hc) (cwV 0 hts gL_law_X9_clear rfl rfl rfl (by decide +kernel) ⟨(Nat.le_of_ble_eq_true rfl), (Nat.le_of_ble_eq_true rfl)⟩) ⟨gP_blind, va_recv hE.1 hP (ci := 7) (q0 := 14) rfl rfl, fun U hU hW => ⟨rfl, by rw [hU]; exact hP.sub (ws' := (w_14 q cI cJ cD Mh Mn Mm)) [14] rfl, gEv.warm hW hE⟩⟩ rfl rfl hl.1 rfl (lv_room (Nat.le_of_ble_eq_true rfl)) dL_law_489 ⟨hc0, hs0⟩) hP hS (gSubL hqA rfl) rfl rfl rfl rfl rfl (fun H locs hP hS => ?_)
  refine lv_icmp_eq (tgt := 2831) hx hb dL_law_492 (by decide) (fun c_1 => ?_) (fun c_1 => ?_)
  · have hf := (if_pos c_1).symm.trans hf
    refine W.widen (k := 25 + k + 1) (n := 1025 + 6 * k + 6) (by omega) (by omega) ?_
    exact law_J2831 hL C0 hlt D cI cJ cD sa q hq hqA hE hXe N k h5 k28 ih Tn485 Ta Fn Fa Ba Rn Ra Rb Rd Ua Wg Wz Ww Wr Mh489 Mn489 Mm Mt Mk Ms Me Mp Mw Ml My Oa Od x5 hx5 hf _ _ hP hS _ (lv_sub hl [0, 1, 2, 3, 4, 5] rfl)
  · have hf := (if_neg c_1).symm.trans hf
    exact law_J495 hL C0 hlt D cI cJ cD sa q hq hqA hE hXe N k (by omega) Tn485 Ta Fn Fa Ba Rn Ra Rb Rd Ua Wg Wz Ww Wr Mh489 Mn489 Mm Mt Mk Ms Me Mp Mw Ml My Oa Od hf _ _ hP hS _ (lv_sub hl [] rfl)
set_option maxHeartbeats 4000000 in
set_option maxRecDepth 100000 in
theorem law_J497 {p : Program} {l : Launch} {e : Env} {s : State} {m : MethodId} {below : List Frame} {meth : Method} {c : Code} {b L : Nat} {xs : Nat → Int32} (hL : L ≤ 2560) (C0 : lw_At p s m meth c b L xs) (hlt : l.stackTraces = false) (D : va_G) (cI cJ cD : ClassId) (sa : Nat → Nat) (q : Nat → Nat) (hq : gInj q) (hqA : ∀ k, k < 25 → s.heap.size ≤ q k) (hE : gEv D cI cJ cD s) (hXe : gXe sa (fun a => s.heap.size ≤ a) s s.heap) (N : Nat) (k : Nat) (h5 : 5 * k + 5 ≤ L) (k28 : Int32 → (Nat → Int32) → Int32 → (Nat → Int32) → (Nat → Int32) → Int32 → (Nat → Int32) → (Nat → Int32) → (Nat → Int32) → (Nat → Int32) → Int32 → Int32 → Int32 → Int32 → Int32 → Int32 → Int32 → (Nat → Int32) → (Nat → Int32) → (Nat → Int32) → (Nat → Int32) → (Nat → Int32) → (Nat → Int32) → (Nat → Int32) → (Nat → Int64) → (Nat → Int64) → (Nat → UInt64) → Int32 → Option Int32) (ih : lawIH p l e s m below meth c b D cI cJ cD q k k28) (Tn : Int32) (Ta : (Nat → Int32)) (Fn : Int32) (Fa : (Nat → Int32)) (Ba : (Nat → Int32)) (Rn : Int32) (Ra : (Nat → Int32)) (Rb : (Nat → Int32)) (Rd : (Nat → Int32)) (Ua : (Nat → Int32)) (Wg : Int32) (Wz : Int32) (Ww : Int32) (Wr : Int32) (Mh : Int32) (Mn : Int32) (Mm : Int32) (Mt : (Nat → Int32)) (Mk : (Nat → Int32)) (Ms : (Nat → Int32)) (Me : (Nat → Int32)) (Mp : (Nat → Int32)) (Mw : (Nat → Int32)) (Ml : (Nat → Int32)) (My : (Nat → Int64)) (Oa : (Nat → Int64)) (Od : (Nat → UInt64)) (x5 : Int32) (hx5 : x5 = nI (5 * k)) (hf : fL_law_J497 N L xs k28 Tn Ta Fn Fa Ba Rn Ra Rb Rd Ua Wg Wz Ww Wr Mh Mn Mm Mt Mk Ms Me Mp Mw Ml My Oa Od x5 = some 1) : ∀ (H : Heap) (locs : List Loc), va_P D vwCl (w_0_1_2_3_4_5_6_7_8_9_10_11_12_13_14_15_16_17_18_19_20_21_22_23_24 q cI cJ cD Tn Ta Fn Fa Ba Rn Ra Rb Rd Ua Wg Wz Ww Wr Mh Mn Mm Mt Mk Ms Me Mp Mw Ml My Oa Od) H → va_S (fun a : Nat => s.heap.size ≤ a) s.heap H locs → ∀ ls : Array Slot, lv_has ls 10 [(0, .ref b), (1, .ref (q 0)), (2, .ref (q 14)), (3, .ref (q 23)), (4, .ref (q 24)), (5, .int x5)] → W p l e room_1 s m #[Value.ref b] below meth c H locs (25 + k) (1025 + 6 * k) (lw_Z below #[Value.ref b] s) (F0 m 497 ls []) := by
  obtain ⟨hx, hb, hr, hml, hown, hts0, hX, hbl, hlocks, hgv⟩ := id C0
  have hown : s.vm.findClass RL = some m.cls := hown
  have hts : ∀ w ∈ wsL_law, w.before #[Value.ref b] s = true := fun w h => hts0 w (wsL_law_in w h)
  have hbA : ¬ (fun a : Nat => s.heap.size ≤ a) b := Nat.not_le.mpr hbl
  have hcm : 25 + k + 1 ≤ 1058 := by omega
  have hsm : 1025 + 6 * k + 6 ≤ 9271 := by omega
  have hc0 : 25 + k ≤ 1058 := by omega
  have hs0 : 1025 + 6 * k ≤ 9271 := by omega
  intro H locs hP hS ls hl
  unfold fL_law_J497 at hf
  refine lv_aload_n hx hb dL_law_497 rfl (lv_at hl 1 rfl) ?_
  obtain ⟨⟨r498, Ta498⟩, hc, hf⟩ := bn_some hf
  try dsimp only at hf
  refine g_call0 (ws' := (w_0_1_2_3_4_5_6_7_8_9_10_11_12_13_14_15_16_17_18_19_20_21_22_23_24 q cI cJ cD Tn Ta498 Fn Fa Ba Rn Ra Rb Rd Ua Wg Wz Ww Wr Mh Mn Mm Mt Mk Ms Me Mp Mw Ml My Oa Od)) (st1 := [.int r498]) hq [0, 1, 2, 3, 4, 5, 6, 7, 8, 9, 10, 11, 12, 13, 14, 15, 16, 17, 18, 19, 20, 21, 22, 23, 24] [0, 1, 2] [.inl 0, .inl 1, .inl 2, .inr 3, .inr 4, .inr 5, .inr 6, .inr 7, .inr 8, .inr 9, .inr 10, .inr 11, .inr 12, .inr 13, .inr 14, .inr 15, .inr 16, .inr 17, .inr 18, .inr 19, .inr 20, .inr 21, .inr 22, .inr 23, .inr 24] (va_runV (As := []) (rest := []) ⟨hx, hb, hml, hown, hts⟩ (kX8_reverse l D cI cJ cD q hq N Tn Ta r498 Ta498 hc) (cwV 0 hts gL_law_X8_reverse rfl rfl rfl (by decide +kernel) ⟨(Nat.le_of_ble_eq_true rfl), (Nat.le_of_ble_eq_true rfl)⟩) ⟨gP_blind, va_recv hE.1 hP (ci := 6) (q0 := 0) rfl rfl, fun U hU hW => ⟨rfl, by rw [hU]; exact hP.sub (ws' := (w_0_1_2 q cI cJ cD Tn Ta)) [0, 1, 2] rfl, gEv.warm hW hE⟩⟩ rfl rfl hl.1 rfl (lv_room (Nat.le_of_ble_eq_true rfl)) dL_law_498 ⟨hc0, hs0⟩) hP hS (gSubL hqA rfl) rfl rfl rfl rfl rfl (fun H locs hP hS => ?_)
  refine lv_aload_n hx hb dL_law_501 rfl (lv_at hl 2 rfl) ?_
  obtain ⟨⟨r502, Mh502, Mt502, Mk502⟩, hc, hf⟩ := bn_some hf
  try dsimp only at hf
  refine g_call0 (ws' := (w_0_1_2_3_4_5_6_7_8_9_10_11_12_13_14_15_16_17_18_19_20_21_22_23_24 q cI cJ cD Tn Ta498 Fn Fa Ba Rn Ra Rb Rd Ua Wg Wz Ww Wr Mh502 Mn Mm Mt502 Mk502 Ms Me Mp Mw Ml My Oa Od)) (st1 := [.int r502, .int r498]) hq [0, 1, 2, 3, 4, 5, 6, 7, 8, 9, 10, 11, 12, 13, 14, 15, 16, 17, 18, 19, 20, 21, 22, 23, 24] [14, 15, 16] [.inr 0, .inr 1, .inr 2, .inr 3, .inr 4, .inr 5, .inr 6, .inr 7, .inr 8, .inr 9, .inr 10, .inr 11, .inr 12, .inr 13, .inl 0, .inl 1, .inl 2, .inr 17, .inr 18, .inr 19, .inr 20, .inr 21, .inr 22, .inr 23, .inr 24] (va_runV (As := []) (rest := [.int r498]) ⟨hx, hb, hml, hown, hts⟩ (kX9_reverse l D cI cJ cD q hq N Mh Mn Mm Mt Mk r502 Mh502 Mt502 Mk502 hc) (cwV 0 hts gL_law_X9_reverse rfl rfl rfl (by decide +kernel) ⟨(Nat.le_of_ble_eq_true rfl), (Nat.le_of_ble_eq_true rfl)⟩) ⟨gP_blind, va_recv hE.1 hP (ci := 7) (q0 := 14) rfl rfl, fun U hU hW => ⟨rfl, by rw [hU]; exact hP.sub (ws' := (w_14_15_16 q cI cJ cD Mh Mn Mm Mt Mk)) [14, 15, 16] rfl, gEv.warm hW hE⟩⟩ rfl rfl hl.1 rfl (lv_room (Nat.le_of_ble_eq_true rfl)) dL_law_502 ⟨hc0, hs0⟩) hP hS (gSubL hqA rfl) rfl rfl rfl rfl rfl (fun H locs hP hS => ?_)
  refine lv_icmp_eq (tgt := 2831) hx hb dL_law_505 (by decide) (fun c_1 => ?_) (fun c_1 => ?_)
  · have hf := (if_pos c_1).symm.trans hf
    refine W.widen (k := 25 + k + 1) (n := 1025 + 6 * k + 6) (by omega) (by omega) ?_
    exact law_J2831 hL C0 hlt D cI cJ cD sa q hq hqA hE hXe N k h5 k28 ih Tn Ta498 Fn Fa Ba Rn Ra Rb Rd Ua Wg Wz Ww Wr Mh502 Mn Mm Mt502 Mk502 Ms Me Mp Mw Ml My Oa Od x5 hx5 hf _ _ hP hS _ (lv_sub hl [0, 1, 2, 3, 4, 5] rfl)
  · have hf := (if_neg c_1).symm.trans hf
    exact law_J508 hL C0 hlt D cI cJ cD sa q hq hqA hE hXe N k (by omega) Tn Ta498 Fn Fa Ba Rn Ra Rb Rd Ua Wg Wz Ww Wr Mh502 Mn Mm Mt502 Mk502 Ms Me Mp Mw Ml My Oa Od hf _ _ hP hS _ (lv_sub hl [] rfl)
set_option maxHeartbeats 4000000 in
set_option maxRecDepth 100000 in
theorem law_J563 {p : Program} {l : Launch} {e : Env} {s : State} {m : MethodId} {below : List Frame} {meth : Method} {c : Code} {b L : Nat} {xs : Nat → Int32} (hL : L ≤ 2560) (C0 : lw_At p s m meth c b L xs) (hlt : l.stackTraces = false) (D : va_G) (cI cJ cD : ClassId) (sa : Nat → Nat) (q : Nat → Nat) (hq : gInj q) (hqA : ∀ k, k < 25 → s.heap.size ≤ q k) (hE : gEv D cI cJ cD s) (hXe : gXe sa (fun a => s.heap.size ≤ a) s s.heap) (N : Nat) (k : Nat) (h5 : 5 * k + 5 ≤ L) (k28 : Int32 → (Nat → Int32) → Int32 → (Nat → Int32) → (Nat → Int32) → Int32 → (Nat → Int32) → (Nat → Int32) → (Nat → Int32) → (Nat → Int32) → Int32 → Int32 → Int32 → Int32 → Int32 → Int32 → Int32 → (Nat → Int32) → (Nat → Int32) → (Nat → Int32) → (Nat → Int32) → (Nat → Int32) → (Nat → Int32) → (Nat → Int32) → (Nat → Int64) → (Nat → Int64) → (Nat → UInt64) → Int32 → Option Int32) (ih : lawIH p l e s m below meth c b D cI cJ cD q k k28) (Tn : Int32) (Ta : (Nat → Int32)) (Fn : Int32) (Fa : (Nat → Int32)) (Ba : (Nat → Int32)) (Rn : Int32) (Ra : (Nat → Int32)) (Rb : (Nat → Int32)) (Rd : (Nat → Int32)) (Ua : (Nat → Int32)) (Wg : Int32) (Wz : Int32) (Ww : Int32) (Wr : Int32) (Mh : Int32) (Mn : Int32) (Mm : Int32) (Mt : (Nat → Int32)) (Mk : (Nat → Int32)) (Ms : (Nat → Int32)) (Me : (Nat → Int32)) (Mp : (Nat → Int32)) (Mw : (Nat → Int32)) (Ml : (Nat → Int32)) (My : (Nat → Int64)) (Oa : (Nat → Int64)) (Od : (Nat → UInt64)) (x5 : Int32) (hx5 : x5 = nI (5 * k)) (hf : fL_law_J563 N L xs k28 Tn Ta Fn Fa Ba Rn Ra Rb Rd Ua Wg Wz Ww Wr Mh Mn Mm Mt Mk Ms Me Mp Mw Ml My Oa Od x5 = some 1) : ∀ (H : Heap) (locs : List Loc), va_P D vwCl (w_0_1_2_3_4_5_6_7_8_9_10_11_12_13_14_15_16_17_18_19_20_21_22_23_24 q cI cJ cD Tn Ta Fn Fa Ba Rn Ra Rb Rd Ua Wg Wz Ww Wr Mh Mn Mm Mt Mk Ms Me Mp Mw Ml My Oa Od) H → va_S (fun a : Nat => s.heap.size ≤ a) s.heap H locs → ∀ ls : Array Slot, lv_has ls 10 [(0, .ref b), (1, .ref (q 0)), (2, .ref (q 14)), (3, .ref (q 23)), (4, .ref (q 24)), (5, .int x5)] → W p l e room_1 s m #[Value.ref b] below meth c H locs (25 + k + 1) (1025 + 6 * k + 6) (lw_Z below #[Value.ref b] s) (F0 m 563 ls []) := by
  obtain ⟨hx, hb, hr, hml, hown, hts0, hX, hbl, hlocks, hgv⟩ := id C0
  have hown : s.vm.findClass RL = some m.cls := hown
  have hts : ∀ w ∈ wsL_law, w.before #[Value.ref b] s = true := fun w h => hts0 w (wsL_law_in w h)
  have hbA : ¬ (fun a : Nat => s.heap.size ≤ a) b := Nat.not_le.mpr hbl
  have hcm : 25 + k + 1 ≤ 1058 := by omega
  have hsm : 1025 + 6 * k + 6 ≤ 9271 := by omega
  have hc0 : 25 + k ≤ 1058 := by omega
  have hs0 : 1025 + 6 * k ≤ 9271 := by omega
  intro H locs hP hS ls hl
  unfold fL_law_J563 at hf
  refine lv_goto (tgt := 2831) hx hb dL_law_563 (by decide) ?_
  exact law_J2831 hL C0 hlt D cI cJ cD sa q hq hqA hE hXe N k h5 k28 ih Tn Ta Fn Fa Ba Rn Ra Rb Rd Ua Wg Wz Ww Wr Mh Mn Mm Mt Mk Ms Me Mp Mw Ml My Oa Od x5 hx5 hf _ _ hP hS _ (lv_sub hl [0, 1, 2, 3, 4, 5] rfl)
set_option maxHeartbeats 4000000 in
set_option maxRecDepth 100000 in
theorem law_J510 {p : Program} {l : Launch} {e : Env} {s : State} {m : MethodId} {below : List Frame} {meth : Method} {c : Code} {b L : Nat} {xs : Nat → Int32} (hL : L ≤ 2560) (C0 : lw_At p s m meth c b L xs) (hlt : l.stackTraces = false) (D : va_G) (cI cJ cD : ClassId) (sa : Nat → Nat) (q : Nat → Nat) (hq : gInj q) (hqA : ∀ k, k < 25 → s.heap.size ≤ q k) (hE : gEv D cI cJ cD s) (hXe : gXe sa (fun a => s.heap.size ≤ a) s s.heap) (N : Nat) (k : Nat) (h5 : 5 * k + 5 ≤ L) (k28 : Int32 → (Nat → Int32) → Int32 → (Nat → Int32) → (Nat → Int32) → Int32 → (Nat → Int32) → (Nat → Int32) → (Nat → Int32) → (Nat → Int32) → Int32 → Int32 → Int32 → Int32 → Int32 → Int32 → Int32 → (Nat → Int32) → (Nat → Int32) → (Nat → Int32) → (Nat → Int32) → (Nat → Int32) → (Nat → Int32) → (Nat → Int32) → (Nat → Int64) → (Nat → Int64) → (Nat → UInt64) → Int32 → Option Int32) (ih : lawIH p l e s m below meth c b D cI cJ cD q k k28) (Tn : Int32) (Ta : (Nat → Int32)) (Fn : Int32) (Fa : (Nat → Int32)) (Ba : (Nat → Int32)) (Rn : Int32) (Ra : (Nat → Int32)) (Rb : (Nat → Int32)) (Rd : (Nat → Int32)) (Ua : (Nat → Int32)) (Wg : Int32) (Wz : Int32) (Ww : Int32) (Wr : Int32) (Mh : Int32) (Mn : Int32) (Mm : Int32) (Mt : (Nat → Int32)) (Mk : (Nat → Int32)) (Ms : (Nat → Int32)) (Me : (Nat → Int32)) (Mp : (Nat → Int32)) (Mw : (Nat → Int32)) (Ml : (Nat → Int32)) (My : (Nat → Int64)) (Oa : (Nat → Int64)) (Od : (Nat → UInt64)) (x5 : Int32) (hx5 : x5 = nI (5 * k)) (hf : fL_law_J510 N L xs k28 Tn Ta Fn Fa Ba Rn Ra Rb Rd Ua Wg Wz Ww Wr Mh Mn Mm Mt Mk Ms Me Mp Mw Ml My Oa Od x5 = some 1) : ∀ (H : Heap) (locs : List Loc), va_P D vwCl (w_0_1_2_3_4_5_6_7_8_9_10_11_12_13_14_15_16_17_18_19_20_21_22_23_24 q cI cJ cD Tn Ta Fn Fa Ba Rn Ra Rb Rd Ua Wg Wz Ww Wr Mh Mn Mm Mt Mk Ms Me Mp Mw Ml My Oa Od) H → va_S (fun a : Nat => s.heap.size ≤ a) s.heap H locs → ∀ ls : Array Slot, lv_has ls 10 [(0, .ref b), (1, .ref (q 0)), (2, .ref (q 14)), (3, .ref (q 23)), (4, .ref (q 24)), (5, .int x5)] → W p l e room_1 s m #[Value.ref b] below meth c H locs (25 + k) (1025 + 6 * k) (lw_Z below #[Value.ref b] s) (F0 m 510 ls []) := by
  obtain ⟨hx, hb, hr, hml, hown, hts0, hX, hbl, hlocks, hgv⟩ := id C0
  have hown : s.vm.findClass RL = some m.cls := hown
  have hts : ∀ w ∈ wsL_law, w.before #[Value.ref b] s = true := fun w h => hts0 w (wsL_law_in w h)
  have hbA : ¬ (fun a : Nat => s.heap.size ≤ a) b := Nat.not_le.mpr hbl
  have hcm : 25 + k + 1 ≤ 1058 := by omega
  have hsm : 1025 + 6 * k + 6 ≤ 9271 := by omega
  have hc0 : 25 + k ≤ 1058 := by omega
  have hs0 : 1025 + 6 * k ≤ 9271 := by omega
  intro H locs hP hS ls hl
  unfold fL_law_J510 at hf
  refine lv_aload_n hx hb dL_law_510 rfl (lv_at hl 1 rfl) ?_
  refine lv_aload_n hx hb dL_law_511 rfl (lv_at hl 0 rfl) ?_
  refine lv_iload hx hb dL_law_512 (lv_at hl 5 rfl) ?_
  refine lv_iconst (v := (1 : Int32)) hx hb dL_law_514 (by decide) ?_
  refine lv_iadd hx hb dL_law_515 ?_
  obtain ⟨g_1, hf⟩ := gd_some hf
  refine va_sld hx hb hX hbl hbA hS (inb_in g_1) dL_law_516 ?_
  refine lv_aload_n hx hb dL_law_517 rfl (lv_at hl 3 rfl) ?_
  obtain ⟨⟨r518, Ta518, Oa518⟩, hc, hf⟩ := bn_some hf
  try dsimp only at hf
  refine g_call (mc := 1) (ms := 6) (ws' := (w_0_1_2_3_4_5_6_7_8_9_10_11_12_13_14_15_16_17_18_19_20_21_22_23_24 q cI cJ cD Tn Ta518 Fn Fa Ba Rn Ra Rb Rd Ua Wg Wz Ww Wr Mh Mn Mm Mt Mk Ms Me Mp Mw Ml My Oa518 Od)) (st1 := [.int r518]) hq [0, 1, 2, 3, 4, 5, 6, 7, 8, 9, 10, 11, 12, 13, 14, 15, 16, 17, 18, 19, 20, 21, 22, 23, 24] [0, 1, 2, 23] [.inl 0, .inl 1, .inl 2, .inr 3, .inr 4, .inr 5, .inr 6, .inr 7, .inr 8, .inr 9, .inr 10, .inr 11, .inr 12, .inr 13, .inr 14, .inr 15, .inr 16, .inr 17, .inr 18, .inr 19, .inr 20, .inr 21, .inr 22, .inl 3, .inr 24] (vx_runSW (As := [.ref (q 0), .int (xs ((x5 + (1 : Int32))).toNatClampNeg), .ref (q 23)]) (rest := []) ⟨hx, hb, hml, hown, hts⟩ (kL_rotate l hlt D cI cJ cD sa q hq N Tn Ta Oa (xs ((x5 + (1 : Int32))).toNatClampNeg) r518 Ta518 Oa518 hc) (vx_cwSW 3 hts gL_law_L_rotate rfl rfl rfl (by decide +kernel) ⟨(Nat.le_of_ble_eq_true rfl), (Nat.le_of_ble_eq_true rfl)⟩) ⟨gPx_blind, fun U hU hW => ⟨rfl, by rw [hU]; exact hP.sub (ws' := (w_0_1_2_23 q cI cJ cD Tn Ta Oa)) [0, 1, 2, 23] rfl, gEv.warm hW hE, gXe.go hW hS (gMonoL hqA rfl) hXe hU⟩⟩ rfl rfl hl.1 rfl (lv_room (Nat.le_of_ble_eq_true rfl)) dL_law_518 ⟨hcm, hsm⟩) hP hS (gSubL hqA rfl) rfl rfl rfl rfl rfl (fun H locs hP hS => ?_)
  refine lv_istore (lv' := [(6, .int r518), (0, .ref b), (1, .ref (q 0)), (2, .ref (q 14)), (3, .ref (q 23)), (4, .ref (q 24)), (5, .int x5)]) hx hb dL_law_521 hl (by decide) rfl (fun ls hl => ?_)
  refine lv_aload_n hx hb dL_law_523 rfl (lv_at hl 3 rfl) ?_
  refine lv_aload_n hx hb dL_law_524 rfl (lv_at hl 1 rfl) ?_
  refine lv_iload hx hb dL_law_525 (lv_at hl 6 rfl) ?_
  refine lv_iconst (v := (1 : Int32)) hx hb dL_law_527 (by decide) ?_
  refine lv_iadd hx hb dL_law_528 ?_
  obtain ⟨g_2, hf⟩ := gd_some hf
  refine va_sld hx hb hX hbl hbA hS (inb_in g_2) dL_law_529 ?_
  obtain ⟨⟨r530, Mh530, Mt530, Mk530⟩, hc, hf⟩ := bn_some hf
  try dsimp only at hf
  refine g_call0 (ws' := (w_0_1_2_3_4_5_6_7_8_9_10_11_12_13_14_15_16_17_18_19_20_21_22_23_24 q cI cJ cD Tn Ta518 Fn Fa Ba Rn Ra Rb Rd Ua Wg Wz Ww Wr Mh530 Mn Mm Mt530 Mk530 Ms Me Mp Mw Ml My Oa518 Od)) (st1 := [.int r530]) hq [0, 1, 2, 3, 4, 5, 6, 7, 8, 9, 10, 11, 12, 13, 14, 15, 16, 17, 18, 19, 20, 21, 22, 23, 24] [14, 15, 16] [.inr 0, .inr 1, .inr 2, .inr 3, .inr 4, .inr 5, .inr 6, .inr 7, .inr 8, .inr 9, .inr 10, .inr 11, .inr 12, .inr 13, .inl 0, .inl 1, .inl 2, .inr 17, .inr 18, .inr 19, .inr 20, .inr 21, .inr 22, .inr 23, .inr 24] (va_runV (As := [.int (xs ((x5 + (1 : Int32))).toNatClampNeg)]) (rest := []) ⟨hx, hb, hml, hown, hts⟩ (kX9_rotate l D cI cJ cD q hq N Mh Mn Mm Mt Mk (xs ((x5 + (1 : Int32))).toNatClampNeg) r530 Mh530 Mt530 Mk530 hc) (cwV 1 hts gL_law_X9_rotate rfl rfl rfl (by decide +kernel) ⟨(Nat.le_of_ble_eq_true rfl), (Nat.le_of_ble_eq_true rfl)⟩) ⟨gP_blind, va_recv hE.1 hP (ci := 7) (q0 := 14) rfl rfl, fun U hU hW => ⟨rfl, by rw [hU]; exact hP.sub (ws' := (w_14_15_16 q cI cJ cD Mh Mn Mm Mt Mk)) [14, 15, 16] rfl, gEv.warm hW hE⟩⟩ rfl rfl hl.1 rfl (lv_room (Nat.le_of_ble_eq_true rfl)) dL_law_530 ⟨hcm, hsm⟩) hP hS (gSubL hqA rfl) rfl rfl rfl rfl rfl (fun H locs hP hS => ?_)
  refine lv_istore (lv' := [(7, .int r530), (6, .int r518), (0, .ref b), (1, .ref (q 0)), (2, .ref (q 14)), (3, .ref (q 23)), (4, .ref (q 24)), (5, .int x5)]) hx hb dL_law_533 hl (by decide) rfl (fun ls hl => ?_)
  refine lv_aload_n hx hb dL_law_535 rfl (lv_at hl 4 rfl) ?_
  obtain ⟨r536, hc, hf⟩ := bn_some hf
  try dsimp only at hf
  refine g_call0 (ws' := (w_0_1_2_3_4_5_6_7_8_9_10_11_12_13_14_15_16_17_18_19_20_21_22_23_24 q cI cJ cD Tn Ta518 Fn Fa Ba Rn Ra Rb Rd Ua Wg Wz Ww Wr Mh530 Mn Mm Mt530 Mk530 Ms Me Mp Mw Ml My Oa518 Od)) (st1 := [.int r536]) hq [0, 1, 2, 3, 4, 5, 6, 7, 8, 9, 10, 11, 12, 13, 14, 15, 16, 17, 18, 19, 20, 21, 22, 23, 24] [14] [.inr 0, .inr 1, .inr 2, .inr 3, .inr 4, .inr 5, .inr 6, .inr 7, .inr 8, .inr 9, .inr 10, .inr 11, .inr 12, .inr 13, .inl 0, .inr 15, .inr 16, .inr 17, .inr 18, .inr 19, .inr 20, .inr 21, .inr 22, .inr 23, .inr 24] (va_runV (As := []) (rest := []) ⟨hx, hb, hml, hown, hts⟩ (kX9_thrown l D cI cJ cD q hq N Mh530 Mn Mm r536 hc) (cwV 0 hts gL_law_X9_thrown rfl rfl rfl (by decide +kernel) ⟨(Nat.le_of_ble_eq_true rfl), (Nat.le_of_ble_eq_true rfl)⟩) ⟨gP_blind, va_recv hE.1 hP (ci := 7) (q0 := 14) rfl rfl, fun U hU hW => ⟨rfl, by rw [hU]; exact hP.sub (ws' := (w_14 q cI cJ cD Mh530 Mn Mm)) [14] rfl, gEv.warm hW hE⟩⟩ rfl rfl hl.1 rfl (lv_room (Nat.le_of_ble_eq_true rfl)) dL_law_536 ⟨hcm, hsm⟩) hP hS (gSubL hqA rfl) rfl rfl rfl rfl rfl (fun H locs hP hS => ?_)
  refine lv_iload hx hb dL_law_539 (lv_at hl 1 rfl) ?_
  refine lv_icmp_eq (tgt := 546) hx hb dL_law_541 (by decide) (fun c_3 => ?_) (fun c_3 => ?_)
  · have hf := (if_pos c_3).symm.trans hf
    refine lv_iload hx hb dL_law_546 (lv_at hl 1 rfl) ?_
    refine lv_if_ne (tgt := 563) hx hb dL_law_548 (by decide) (fun c_4 => ?_) (fun c_4 => ?_)
    · have hf := (if_neg c_4).symm.trans hf
      exact law_J563 hL C0 hlt D cI cJ cD sa q hq hqA hE hXe N k h5 k28 ih Tn Ta518 Fn Fa Ba Rn Ra Rb Rd Ua Wg Wz Ww Wr Mh530 Mn Mm Mt530 Mk530 Ms Me Mp Mw Ml My Oa518 Od x5 hx5 hf _ _ hP hS _ (lv_sub hl [2, 3, 4, 5, 6, 7] rfl)
    · have hf := (if_pos c_4).symm.trans hf
      refine lv_aload_n hx hb dL_law_551 rfl (lv_at hl 5 rfl) ?_
      refine lv_iconst (v := (0 : Int32)) hx hb dL_law_552 (by decide) ?_
      obtain ⟨g_5, hf⟩ := gd_some hf
      refine va_lald hx hb hE.1 hP 23 1 rfl rfl (inb_in g_5) dL_law_553 ?_
      refine lv_iload hx hb dL_law_554 (lv_at hl 0 rfl) ?_
      refine lv_i2l (v := (r530).toInt64) hx hb dL_law_556 rfl ?_
      refine W.lcmp hx hb dL_law_557 ?_
      refine lv_if_eq (tgt := 563) hx hb dL_law_558 (by decide) (fun c_6 => ?_) (fun c_6 => ?_)
      · have hf := (if_pos c_6).symm.trans hf
        exact law_J563 hL C0 hlt D cI cJ cD sa q hq hqA hE hXe N k h5 k28 ih Tn Ta518 Fn Fa Ba Rn Ra Rb Rd Ua Wg Wz Ww Wr Mh530 Mn Mm Mt530 Mk530 Ms Me Mp Mw Ml My Oa518 Od x5 hx5 hf _ _ hP hS _ (lv_sub hl [2, 3, 4, 5, 6, 7] rfl)
      · have hf := (if_neg c_6).symm.trans hf
        exact law_J561 hL C0 hlt D cI cJ cD sa q hq hqA hE hXe N k (by omega) Tn Ta518 Fn Fa Ba Rn Ra Rb Rd Ua Wg Wz Ww Wr Mh530 Mn Mm Mt530 Mk530 Ms Me Mp Mw Ml My Oa518 Od hf _ _ hP hS _ (lv_sub hl [] rfl)
  · have hf := (if_neg c_3).symm.trans hf
    exact law_J544 hL C0 hlt D cI cJ cD sa q hq hqA hE hXe N k (by omega) Tn Ta518 Fn Fa Ba Rn Ra Rb Rd Ua Wg Wz Ww Wr Mh530 Mn Mm Mt530 Mk530 Ms Me Mp Mw Ml My Oa518 Od hf _ _ hP hS _ (lv_sub hl [] rfl)
set_option maxHeartbeats 4000000 in
set_option maxRecDepth 100000 in
theorem law_J631 {p : Program} {l : Launch} {e : Env} {s : State} {m : MethodId} {below : List Frame} {meth : Method} {c : Code} {b L : Nat} {xs : Nat → Int32} (hL : L ≤ 2560) (C0 : lw_At p s m meth c b L xs) (hlt : l.stackTraces = false) (D : va_G) (cI cJ cD : ClassId) (sa : Nat → Nat) (q : Nat → Nat) (hq : gInj q) (hqA : ∀ k, k < 25 → s.heap.size ≤ q k) (hE : gEv D cI cJ cD s) (hXe : gXe sa (fun a => s.heap.size ≤ a) s s.heap) (N : Nat) (k : Nat) (h5 : 5 * k + 5 ≤ L) (k28 : Int32 → (Nat → Int32) → Int32 → (Nat → Int32) → (Nat → Int32) → Int32 → (Nat → Int32) → (Nat → Int32) → (Nat → Int32) → (Nat → Int32) → Int32 → Int32 → Int32 → Int32 → Int32 → Int32 → Int32 → (Nat → Int32) → (Nat → Int32) → (Nat → Int32) → (Nat → Int32) → (Nat → Int32) → (Nat → Int32) → (Nat → Int32) → (Nat → Int64) → (Nat → Int64) → (Nat → UInt64) → Int32 → Option Int32) (ih : lawIH p l e s m below meth c b D cI cJ cD q k k28) (Tn : Int32) (Ta : (Nat → Int32)) (Fn : Int32) (Fa : (Nat → Int32)) (Ba : (Nat → Int32)) (Rn : Int32) (Ra : (Nat → Int32)) (Rb : (Nat → Int32)) (Rd : (Nat → Int32)) (Ua : (Nat → Int32)) (Wg : Int32) (Wz : Int32) (Ww : Int32) (Wr : Int32) (Mh : Int32) (Mn : Int32) (Mm : Int32) (Mt : (Nat → Int32)) (Mk : (Nat → Int32)) (Ms : (Nat → Int32)) (Me : (Nat → Int32)) (Mp : (Nat → Int32)) (Mw : (Nat → Int32)) (Ml : (Nat → Int32)) (My : (Nat → Int64)) (Oa : (Nat → Int64)) (Od : (Nat → UInt64)) (x5 : Int32) (hx5 : x5 = nI (5 * k)) (hf : fL_law_J631 N L xs k28 Tn Ta Fn Fa Ba Rn Ra Rb Rd Ua Wg Wz Ww Wr Mh Mn Mm Mt Mk Ms Me Mp Mw Ml My Oa Od x5 = some 1) : ∀ (H : Heap) (locs : List Loc), va_P D vwCl (w_0_1_2_3_4_5_6_7_8_9_10_11_12_13_14_15_16_17_18_19_20_21_22_23_24 q cI cJ cD Tn Ta Fn Fa Ba Rn Ra Rb Rd Ua Wg Wz Ww Wr Mh Mn Mm Mt Mk Ms Me Mp Mw Ml My Oa Od) H → va_S (fun a : Nat => s.heap.size ≤ a) s.heap H locs → ∀ ls : Array Slot, lv_has ls 10 [(0, .ref b), (1, .ref (q 0)), (2, .ref (q 14)), (3, .ref (q 23)), (4, .ref (q 24)), (5, .int x5)] → W p l e room_1 s m #[Value.ref b] below meth c H locs (25 + k + 1) (1025 + 6 * k + 6) (lw_Z below #[Value.ref b] s) (F0 m 631 ls []) := by
  obtain ⟨hx, hb, hr, hml, hown, hts0, hX, hbl, hlocks, hgv⟩ := id C0
  have hown : s.vm.findClass RL = some m.cls := hown
  have hts : ∀ w ∈ wsL_law, w.before #[Value.ref b] s = true := fun w h => hts0 w (wsL_law_in w h)
  have hbA : ¬ (fun a : Nat => s.heap.size ≤ a) b := Nat.not_le.mpr hbl
  have hcm : 25 + k + 1 ≤ 1058 := by omega
  have hsm : 1025 + 6 * k + 6 ≤ 9271 := by omega
  have hc0 : 25 + k ≤ 1058 := by omega
  have hs0 : 1025 + 6 * k ≤ 9271 := by omega
  intro H locs hP hS ls hl
  unfold fL_law_J631 at hf
  refine lv_goto (tgt := 2831) hx hb dL_law_631 (by decide) ?_
  exact law_J2831 hL C0 hlt D cI cJ cD sa q hq hqA hE hXe N k h5 k28 ih Tn Ta Fn Fa Ba Rn Ra Rb Rd Ua Wg Wz Ww Wr Mh Mn Mm Mt Mk Ms Me Mp Mw Ml My Oa Od x5 hx5 hf _ _ hP hS _ (lv_sub hl [0, 1, 2, 3, 4, 5] rfl)
set_option maxHeartbeats 4000000 in
set_option maxRecDepth 100000 in
theorem law_J566 {p : Program} {l : Launch} {e : Env} {s : State} {m : MethodId} {below : List Frame} {meth : Method} {c : Code} {b L : Nat} {xs : Nat → Int32} (hL : L ≤ 2560) (C0 : lw_At p s m meth c b L xs) (hlt : l.stackTraces = false) (D : va_G) (cI cJ cD : ClassId) (sa : Nat → Nat) (q : Nat → Nat) (hq : gInj q) (hqA : ∀ k, k < 25 → s.heap.size ≤ q k) (hE : gEv D cI cJ cD s) (hXe : gXe sa (fun a => s.heap.size ≤ a) s s.heap) (N : Nat) (k : Nat) (h5 : 5 * k + 5 ≤ L) (k28 : Int32 → (Nat → Int32) → Int32 → (Nat → Int32) → (Nat → Int32) → Int32 → (Nat → Int32) → (Nat → Int32) → (Nat → Int32) → (Nat → Int32) → Int32 → Int32 → Int32 → Int32 → Int32 → Int32 → Int32 → (Nat → Int32) → (Nat → Int32) → (Nat → Int32) → (Nat → Int32) → (Nat → Int32) → (Nat → Int32) → (Nat → Int32) → (Nat → Int64) → (Nat → Int64) → (Nat → UInt64) → Int32 → Option Int32) (ih : lawIH p l e s m below meth c b D cI cJ cD q k k28) (Tn : Int32) (Ta : (Nat → Int32)) (Fn : Int32) (Fa : (Nat → Int32)) (Ba : (Nat → Int32)) (Rn : Int32) (Ra : (Nat → Int32)) (Rb : (Nat → Int32)) (Rd : (Nat → Int32)) (Ua : (Nat → Int32)) (Wg : Int32) (Wz : Int32) (Ww : Int32) (Wr : Int32) (Mh : Int32) (Mn : Int32) (Mm : Int32) (Mt : (Nat → Int32)) (Mk : (Nat → Int32)) (Ms : (Nat → Int32)) (Me : (Nat → Int32)) (Mp : (Nat → Int32)) (Mw : (Nat → Int32)) (Ml : (Nat → Int32)) (My : (Nat → Int64)) (Oa : (Nat → Int64)) (Od : (Nat → UInt64)) (x5 : Int32) (hx5 : x5 = nI (5 * k)) (hf : fL_law_J566 N L xs k28 Tn Ta Fn Fa Ba Rn Ra Rb Rd Ua Wg Wz Ww Wr Mh Mn Mm Mt Mk Ms Me Mp Mw Ml My Oa Od x5 = some 1) : ∀ (H : Heap) (locs : List Loc), va_P D vwCl (w_0_1_2_3_4_5_6_7_8_9_10_11_12_13_14_15_16_17_18_19_20_21_22_23_24 q cI cJ cD Tn Ta Fn Fa Ba Rn Ra Rb Rd Ua Wg Wz Ww Wr Mh Mn Mm Mt Mk Ms Me Mp Mw Ml My Oa Od) H → va_S (fun a : Nat => s.heap.size ≤ a) s.heap H locs → ∀ ls : Array Slot, lv_has ls 10 [(0, .ref b), (1, .ref (q 0)), (2, .ref (q 14)), (3, .ref (q 23)), (4, .ref (q 24)), (5, .int x5)] → W p l e room_1 s m #[Value.ref b] below meth c H locs (25 + k) (1025 + 6 * k) (lw_Z below #[Value.ref b] s) (F0 m 566 ls []) := by
  obtain ⟨hx, hb, hr, hml, hown, hts0, hX, hbl, hlocks, hgv⟩ := id C0
  have hown : s.vm.findClass RL = some m.cls := hown
  have hts : ∀ w ∈ wsL_law, w.before #[Value.ref b] s = true := fun w h => hts0 w (wsL_law_in w h)
  have hbA : ¬ (fun a : Nat => s.heap.size ≤ a) b := Nat.not_le.mpr hbl
  have hcm : 25 + k + 1 ≤ 1058 := by omega
  have hsm : 1025 + 6 * k + 6 ≤ 9271 := by omega
  have hc0 : 25 + k ≤ 1058 := by omega
  have hs0 : 1025 + 6 * k ≤ 9271 := by omega
  intro H locs hP hS ls hl
  unfold fL_law_J566 at hf
  refine lv_aload_n hx hb dL_law_566 rfl (lv_at hl 1 rfl) ?_
  refine lv_aload_n hx hb dL_law_567 rfl (lv_at hl 0 rfl) ?_
  refine lv_iload hx hb dL_law_568 (lv_at hl 5 rfl) ?_
  refine lv_iconst (v := (1 : Int32)) hx hb dL_law_570 (by decide) ?_
  refine lv_iadd hx hb dL_law_571 ?_
  obtain ⟨g_1, hf⟩ := gd_some hf
  refine va_sld hx hb hX hbl hbA hS (inb_in g_1) dL_law_572 ?_
  refine lv_aload_n hx hb dL_law_573 rfl (lv_at hl 0 rfl) ?_
  refine lv_iload hx hb dL_law_574 (lv_at hl 5 rfl) ?_
  refine lv_iconst (v := (2 : Int32)) hx hb dL_law_576 (by decide) ?_
  refine lv_iadd hx hb dL_law_577 ?_
  obtain ⟨g_2, hf⟩ := gd_some hf
  refine va_sld hx hb hX hbl hbA hS (inb_in g_2) dL_law_578 ?_
  refine lv_aload_n hx hb dL_law_579 rfl (lv_at hl 3 rfl) ?_
  obtain ⟨⟨r580, Tn580, Ta580, Oa580⟩, hc, hf⟩ := bn_some hf
  try dsimp only at hf
  refine g_call (mc := 1) (ms := 6) (ws' := (w_0_1_2_3_4_5_6_7_8_9_10_11_12_13_14_15_16_17_18_19_20_21_22_23_24 q cI cJ cD Tn580 Ta580 Fn Fa Ba Rn Ra Rb Rd Ua Wg Wz Ww Wr Mh Mn Mm Mt Mk Ms Me Mp Mw Ml My Oa580 Od)) (st1 := [.int r580]) hq [0, 1, 2, 3, 4, 5, 6, 7, 8, 9, 10, 11, 12, 13, 14, 15, 16, 17, 18, 19, 20, 21, 22, 23, 24] [0, 1, 2, 23] [.inl 0, .inl 1, .inl 2, .inr 3, .inr 4, .inr 5, .inr 6, .inr 7, .inr 8, .inr 9, .inr 10, .inr 11, .inr 12, .inr 13, .inr 14, .inr 15, .inr 16, .inr 17, .inr 18, .inr 19, .inr 20, .inr 21, .inr 22, .inl 3, .inr 24] (vx_runSW (As := [.ref (q 0), .int (xs ((x5 + (1 : Int32))).toNatClampNeg), .int (xs ((x5 + (2 : Int32))).toNatClampNeg), .ref (q 23)]) (rest := []) ⟨hx, hb, hml, hown, hts⟩ (kL_appendPart l hlt D cI cJ cD sa q hq N Tn Ta Oa (xs ((x5 + (1 : Int32))).toNatClampNeg) (xs ((x5 + (2 : Int32))).toNatClampNeg) r580 Tn580 Ta580 Oa580 hc) (vx_cwSW 4 hts gL_law_L_appendPart rfl rfl rfl (by decide +kernel) ⟨(Nat.le_of_ble_eq_true rfl), (Nat.le_of_ble_eq_true rfl)⟩) ⟨gPx_blind, fun U hU hW => ⟨rfl, by rw [hU]; exact hP.sub (ws' := (w_0_1_2_23 q cI cJ cD Tn Ta Oa)) [0, 1, 2, 23] rfl, gEv.warm hW hE, gXe.go hW hS (gMonoL hqA rfl) hXe hU⟩⟩ rfl rfl hl.1 rfl (lv_room (Nat.le_of_ble_eq_true rfl)) dL_law_580 ⟨hcm, hsm⟩) hP hS (gSubL hqA rfl) rfl rfl rfl rfl rfl (fun H locs hP hS => ?_)
  refine lv_istore (lv' := [(6, .int r580), (0, .ref b), (1, .ref (q 0)), (2, .ref (q 14)), (3, .ref (q 23)), (4, .ref (q 24)), (5, .int x5)]) hx hb dL_law_583 hl (by decide) rfl (fun ls hl => ?_)
  refine lv_aload_n hx hb dL_law_585 rfl (lv_at hl 3 rfl) ?_
  refine lv_aload_n hx hb dL_law_586 rfl (lv_at hl 1 rfl) ?_
  refine lv_iload hx hb dL_law_587 (lv_at hl 6 rfl) ?_
  refine lv_iconst (v := (1 : Int32)) hx hb dL_law_589 (by decide) ?_
  refine lv_iadd hx hb dL_law_590 ?_
  obtain ⟨g_3, hf⟩ := gd_some hf
  refine va_sld hx hb hX hbl hbA hS (inb_in g_3) dL_law_591 ?_
  refine lv_aload_n hx hb dL_law_592 rfl (lv_at hl 1 rfl) ?_
  refine lv_iload hx hb dL_law_593 (lv_at hl 6 rfl) ?_
  refine lv_iconst (v := (2 : Int32)) hx hb dL_law_595 (by decide) ?_
  refine lv_iadd hx hb dL_law_596 ?_
  obtain ⟨g_4, hf⟩ := gd_some hf
  refine va_sld hx hb hX hbl hbA hS (inb_in g_4) dL_law_597 ?_
  obtain ⟨⟨r598, Mh598, Mn598, Mt598⟩, hc, hf⟩ := bn_some hf
  try dsimp only at hf
  refine g_call0 (ws' := (w_0_1_2_3_4_5_6_7_8_9_10_11_12_13_14_15_16_17_18_19_20_21_22_23_24 q cI cJ cD Tn580 Ta580 Fn Fa Ba Rn Ra Rb Rd Ua Wg Wz Ww Wr Mh598 Mn598 Mm Mt598 Mk Ms Me Mp Mw Ml My Oa580 Od)) (st1 := [.int r598]) hq [0, 1, 2, 3, 4, 5, 6, 7, 8, 9, 10, 11, 12, 13, 14, 15, 16, 17, 18, 19, 20, 21, 22, 23, 24] [14, 15] [.inr 0, .inr 1, .inr 2, .inr 3, .inr 4, .inr 5, .inr 6, .inr 7, .inr 8, .inr 9, .inr 10, .inr 11, .inr 12, .inr 13, .inl 0, .inl 1, .inr 16, .inr 17, .inr 18, .inr 19, .inr 20, .inr 21, .inr 22, .inr 23, .inr 24] (va_runV (As := [.int (xs ((x5 + (1 : Int32))).toNatClampNeg), .int (xs ((x5 + (2 : Int32))).toNatClampNeg)]) (rest := []) ⟨hx, hb, hml, hown, hts⟩ (kX9_appendPart l D cI cJ cD q hq N Mh Mn Mm Mt (xs ((x5 + (1 : Int32))).toNatClampNeg) (xs ((x5 + (2 : Int32))).toNatClampNeg) r598 Mh598 Mn598 Mt598 hc) (cwV 2 hts gL_law_X9_appendPart rfl rfl rfl (by decide +kernel) ⟨(Nat.le_of_ble_eq_true rfl), (Nat.le_of_ble_eq_true rfl)⟩) ⟨gP_blind, va_recv hE.1 hP (ci := 7) (q0 := 14) rfl rfl, fun U hU hW => ⟨rfl, by rw [hU]; exact hP.sub (ws' := (w_14_15 q cI cJ cD Mh Mn Mm Mt)) [14, 15] rfl, gEv.warm hW hE⟩⟩ rfl rfl hl.1 rfl (lv_room (Nat.le_of_ble_eq_true rfl)) dL_law_598 ⟨hcm, hsm⟩) hP hS (gSubL hqA rfl) rfl rfl rfl rfl rfl (fun H locs hP hS => ?_)
  refine lv_istore (lv' := [(7, .int r598), (6, .int r580), (0, .ref b), (1, .ref (q 0)), (2, .ref (q 14)), (3, .ref (q 23)), (4, .ref (q 24)), (5, .int x5)]) hx hb dL_law_601 hl (by decide) rfl (fun ls hl => ?_)
  refine lv_aload_n hx hb dL_law_603 rfl (lv_at hl 4 rfl) ?_
  obtain ⟨r604, hc, hf⟩ := bn_some hf
  try dsimp only at hf
  refine g_call0 (ws' := (w_0_1_2_3_4_5_6_7_8_9_10_11_12_13_14_15_16_17_18_19_20_21_22_23_24 q cI cJ cD Tn580 Ta580 Fn Fa Ba Rn Ra Rb Rd Ua Wg Wz Ww Wr Mh598 Mn598 Mm Mt598 Mk Ms Me Mp Mw Ml My Oa580 Od)) (st1 := [.int r604]) hq [0, 1, 2, 3, 4, 5, 6, 7, 8, 9, 10, 11, 12, 13, 14, 15, 16, 17, 18, 19, 20, 21, 22, 23, 24] [14] [.inr 0, .inr 1, .inr 2, .inr 3, .inr 4, .inr 5, .inr 6, .inr 7, .inr 8, .inr 9, .inr 10, .inr 11, .inr 12, .inr 13, .inl 0, .inr 15, .inr 16, .inr 17, .inr 18, .inr 19, .inr 20, .inr 21, .inr 22, .inr 23, .inr 24] (va_runV (As := []) (rest := []) ⟨hx, hb, hml, hown, hts⟩ (kX9_thrown l D cI cJ cD q hq N Mh598 Mn598 Mm r604 hc) (cwV 0 hts gL_law_X9_thrown rfl rfl rfl (by decide +kernel) ⟨(Nat.le_of_ble_eq_true rfl), (Nat.le_of_ble_eq_true rfl)⟩) ⟨gP_blind, va_recv hE.1 hP (ci := 7) (q0 := 14) rfl rfl, fun U hU hW => ⟨rfl, by rw [hU]; exact hP.sub (ws' := (w_14 q cI cJ cD Mh598 Mn598 Mm)) [14] rfl, gEv.warm hW hE⟩⟩ rfl rfl hl.1 rfl (lv_room (Nat.le_of_ble_eq_true rfl)) dL_law_604 ⟨hcm, hsm⟩) hP hS (gSubL hqA rfl) rfl rfl rfl rfl rfl (fun H locs hP hS => ?_)
  refine lv_iload hx hb dL_law_607 (lv_at hl 1 rfl) ?_
  refine lv_icmp_eq (tgt := 614) hx hb dL_law_609 (by decide) (fun c_5 => ?_) (fun c_5 => ?_)
  · have hf := (if_pos c_5).symm.trans hf
    refine lv_iload hx hb dL_law_614 (lv_at hl 1 rfl) ?_
    refine lv_if_ne (tgt := 631) hx hb dL_law_616 (by decide) (fun c_6 => ?_) (fun c_6 => ?_)
    · have hf := (if_neg c_6).symm.trans hf
      exact law_J631 hL C0 hlt D cI cJ cD sa q hq hqA hE hXe N k h5 k28 ih Tn580 Ta580 Fn Fa Ba Rn Ra Rb Rd Ua Wg Wz Ww Wr Mh598 Mn598 Mm Mt598 Mk Ms Me Mp Mw Ml My Oa580 Od x5 hx5 hf _ _ hP hS _ (lv_sub hl [2, 3, 4, 5, 6, 7] rfl)
    · have hf := (if_pos c_6).symm.trans hf
      refine lv_aload_n hx hb dL_law_619 rfl (lv_at hl 5 rfl) ?_
      refine lv_iconst (v := (0 : Int32)) hx hb dL_law_620 (by decide) ?_
      obtain ⟨g_7, hf⟩ := gd_some hf
      refine va_lald hx hb hE.1 hP 23 1 rfl rfl (inb_in g_7) dL_law_621 ?_
      refine lv_iload hx hb dL_law_622 (lv_at hl 0 rfl) ?_
      refine lv_i2l (v := (r598).toInt64) hx hb dL_law_624 rfl ?_
      refine W.lcmp hx hb dL_law_625 ?_
      refine lv_if_eq (tgt := 631) hx hb dL_law_626 (by decide) (fun c_8 => ?_) (fun c_8 => ?_)
      · have hf := (if_pos c_8).symm.trans hf
        exact law_J631 hL C0 hlt D cI cJ cD sa q hq hqA hE hXe N k h5 k28 ih Tn580 Ta580 Fn Fa Ba Rn Ra Rb Rd Ua Wg Wz Ww Wr Mh598 Mn598 Mm Mt598 Mk Ms Me Mp Mw Ml My Oa580 Od x5 hx5 hf _ _ hP hS _ (lv_sub hl [2, 3, 4, 5, 6, 7] rfl)
      · have hf := (if_neg c_8).symm.trans hf
        exact law_J629 hL C0 hlt D cI cJ cD sa q hq hqA hE hXe N k (by omega) Tn580 Ta580 Fn Fa Ba Rn Ra Rb Rd Ua Wg Wz Ww Wr Mh598 Mn598 Mm Mt598 Mk Ms Me Mp Mw Ml My Oa580 Od hf _ _ hP hS _ (lv_sub hl [] rfl)
  · have hf := (if_neg c_5).symm.trans hf
    exact law_J612 hL C0 hlt D cI cJ cD sa q hq hqA hE hXe N k (by omega) Tn580 Ta580 Fn Fa Ba Rn Ra Rb Rd Ua Wg Wz Ww Wr Mh598 Mn598 Mm Mt598 Mk Ms Me Mp Mw Ml My Oa580 Od hf _ _ hP hS _ (lv_sub hl [] rfl)
