theorem law_lt {k : Nat} (hk : k ≤ 48) (h : ¬ (48 : Int32) ≤ nI k) : k + 1 ≤ 48 := by
  have h2 : ¬ nI 48 ≤ nI k := h
  rw [nI_leI (by omega) (by omega)] at h2
  omega
theorem law_n1 (k : Nat) : nI k + 1 = nI (k + 1) := nI_add k 1
theorem gSubL {s : State} {q : Nat → Nat} (hqA : ∀ k, k < 28 → s.heap.size ≤ q k) {ksc : List Nat} (h : ksc.all (fun k => decide (k < 28)) = true) : ∀ k ∈ ksc, (fun a : Nat => s.heap.size ≤ a) (q k) := fun k hk => hqA k (of_decide_eq_true (List.all_eq_true.mp h k hk))
theorem gMonoL {s : State} {q : Nat → Nat} (hqA : ∀ k, k < 28 → s.heap.size ≤ q k) {ksc : List Nat} (h : ksc.all (fun k => decide (k < 28)) = true) : ∀ a, gA q ksc a → (fun a : Nat => s.heap.size ≤ a) a := fun a ha => by
  obtain ⟨k, h1, h2⟩ := ha
  exact h2 ▸ gSubL hqA h k h1
def lawIH (p : Program) (l : Launch) (e : Env) (s : State) (m : MethodId) (below : List Frame) (meth : Method) (c : Code) (b : Nat) (D : va_G) (cI cJ cD : ClassId) (q : Nat → Nat) (QUa : (Nat → Int32)) (k : Nat) (k18 : Int32 → (Nat → Int32) → Int32 → (Nat → Int32) → (Nat → Int32) → Int32 → (Nat → Int32) → (Nat → Int32) → (Nat → Int32) → (Nat → Int32) → Int32 → Int32 → Int32 → Int32 → Int32 → (Nat → Int32) → Int32 → (Nat → Int32) → (Nat → Int32) → Int32 → (Nat → Int32) → (Nat → Int32) → (Nat → Int32) → Int32 → Int32 → Int32 → Int32 → Int32 → Option Int32) : Prop := ∀ (Tn : Int32) (Ta : (Nat → Int32)) (Fn : Int32) (Fa : (Nat → Int32)) (Ba : (Nat → Int32)) (Rn : Int32) (Ra : (Nat → Int32)) (Rb : (Nat → Int32)) (Rd : (Nat → Int32)) (Ua : (Nat → Int32)) (Wg : Int32) (Wz : Int32) (Ww : Int32) (Wr : Int32) (QTn : Int32) (QTa : (Nat → Int32)) (QFn : Int32) (QFa : (Nat → Int32)) (QBa : (Nat → Int32)) (QRn : Int32) (QRa : (Nat → Int32)) (QRb : (Nat → Int32)) (QRd : (Nat → Int32)) (QWg : Int32) (QWz : Int32) (QWw : Int32) (QWr : Int32) (x3 : Int32), x3 = nI (k + 1) → k18 Tn Ta Fn Fa Ba Rn Ra Rb Rd Ua Wg Wz Ww Wr QTn QTa QFn QFa QBa QRn QRa QRb QRd QWg QWz QWw QWr x3 = some 1 → ∀ (H : Heap) (locs : List Loc), va_P D vwCl (w_0_1_2_3_4_5_6_7_8_9_10_11_12_13_14_15_16_17_18_19_20_21_22_23_24_25_26_27 q cI cJ cD Tn Ta Fn Fa Ba Rn Ra Rb Rd Ua Wg Wz Ww Wr QTn QTa QFn QFa QBa QRn QRa QRb QRd QUa QWg QWz QWw QWr) H → va_S (fun a : Nat => s.heap.size ≤ a) s.heap H locs → ∀ ls : Array Slot, lv_has ls 8 [(0, .ref b), (1, .ref (q 0)), (2, .ref (q 14)), (3, .int x3)] → W p l e room_1 s m #[Value.ref b] below meth c H locs (28 + 2 * (k + 1)) (942 + 12 * (k + 1)) (lw_Z below #[Value.ref b] s) (F0 m 18 ls [])
set_option maxHeartbeats 4000000 in
set_option maxRecDepth 100000 in
theorem law_J72 {p : Program} {l : Launch} {e : Env} {s : State} {m : MethodId} {below : List Frame} {meth : Method} {c : Code} {b L : Nat} {xs : Nat → Int32} (hL : L ≤ 260) (C0 : lw_At p s m meth c b L xs) (hlt : l.stackTraces = false) (D : va_G) (cI cJ cD : ClassId) (sa : Nat → Nat) (q : Nat → Nat) (hq : gInj 28 q) (hqA : ∀ k, k < 28 → s.heap.size ≤ q k) (hE : gEv D cI cJ cD s) (hXe : gXe sa (fun a => s.heap.size ≤ a) s s.heap) (N : Nat) (QUa : (Nat → Int32)) (k : Nat) (hk : k ≤ 48) (Tn : Int32) (Ta : (Nat → Int32)) (Fn : Int32) (Fa : (Nat → Int32)) (Ba : (Nat → Int32)) (Rn : Int32) (Ra : (Nat → Int32)) (Rb : (Nat → Int32)) (Rd : (Nat → Int32)) (Ua : (Nat → Int32)) (Wg : Int32) (Wz : Int32) (Ww : Int32) (Wr : Int32) (QTn : Int32) (QTa : (Nat → Int32)) (QFn : Int32) (QFa : (Nat → Int32)) (QBa : (Nat → Int32)) (QRn : Int32) (QRa : (Nat → Int32)) (QRb : (Nat → Int32)) (QRd : (Nat → Int32)) (QWg : Int32) (QWz : Int32) (QWw : Int32) (QWr : Int32) (hf : fL_law_J72 N L xs QUa Tn Ta Fn Fa Ba Rn Ra Rb Rd Ua Wg Wz Ww Wr QTn QTa QFn QFa QBa QRn QRa QRb QRd QWg QWz QWw QWr = some 1) : ∀ (H : Heap) (locs : List Loc), va_P D vwCl (w_0_1_2_3_4_5_6_7_8_9_10_11_12_13_14_15_16_17_18_19_20_21_22_23_24_25_26_27 q cI cJ cD Tn Ta Fn Fa Ba Rn Ra Rb Rd Ua Wg Wz Ww Wr QTn QTa QFn QFa QBa QRn QRa QRb QRd QUa QWg QWz QWw QWr) H → va_S (fun a : Nat => s.heap.size ≤ a) s.heap H locs → ∀ ls : Array Slot, lv_has ls 8 [] → W p l e room_1 s m #[Value.ref b] below meth c H locs (28 + 2 * k + 2) (942 + 12 * k + 12) (lw_Z below #[Value.ref b] s) (F0 m 72 ls []) := by
  obtain ⟨hx, hb, hr, hml, hown, hts0, hX, hbl, hlocks, hgv⟩ := id C0
  have hown : s.vm.findClass RL = some m.cls := hown
  have hts : ∀ w ∈ wsL_law, w.before #[Value.ref b] s = true := fun w h => hts0 w (wsL_law_in w h)
  have hbA : ¬ (fun a : Nat => s.heap.size ≤ a) b := Nat.not_le.mpr hbl
  intro H locs hP hS ls hl
  unfold fL_law_J72 at hf
  refine lv_iconst (v := (0 : Int32)) hx hb dL_law_72 (by decide) ?_
  exact absurd hf (by decide)
set_option maxHeartbeats 4000000 in
set_option maxRecDepth 100000 in
theorem law_J186 {p : Program} {l : Launch} {e : Env} {s : State} {m : MethodId} {below : List Frame} {meth : Method} {c : Code} {b L : Nat} {xs : Nat → Int32} (hL : L ≤ 260) (C0 : lw_At p s m meth c b L xs) (hlt : l.stackTraces = false) (D : va_G) (cI cJ cD : ClassId) (sa : Nat → Nat) (q : Nat → Nat) (hq : gInj 28 q) (hqA : ∀ k, k < 28 → s.heap.size ≤ q k) (hE : gEv D cI cJ cD s) (hXe : gXe sa (fun a => s.heap.size ≤ a) s s.heap) (N : Nat) (QUa : (Nat → Int32)) (k : Nat) (hk : k ≤ 48) (Tn : Int32) (Ta : (Nat → Int32)) (Fn : Int32) (Fa : (Nat → Int32)) (Ba : (Nat → Int32)) (Rn : Int32) (Ra : (Nat → Int32)) (Rb : (Nat → Int32)) (Rd : (Nat → Int32)) (Ua : (Nat → Int32)) (Wg : Int32) (Wz : Int32) (Ww : Int32) (Wr : Int32) (QTn : Int32) (QTa : (Nat → Int32)) (QFn : Int32) (QFa : (Nat → Int32)) (QBa : (Nat → Int32)) (QRn : Int32) (QRa : (Nat → Int32)) (QRb : (Nat → Int32)) (QRd : (Nat → Int32)) (QWg : Int32) (QWz : Int32) (QWw : Int32) (QWr : Int32) (hf : fL_law_J186 N L xs QUa Tn Ta Fn Fa Ba Rn Ra Rb Rd Ua Wg Wz Ww Wr QTn QTa QFn QFa QBa QRn QRa QRb QRd QWg QWz QWw QWr = some 1) : ∀ (H : Heap) (locs : List Loc), va_P D vwCl (w_0_1_2_3_4_5_6_7_8_9_10_11_12_13_14_15_16_17_18_19_20_21_22_23_24_25_26_27 q cI cJ cD Tn Ta Fn Fa Ba Rn Ra Rb Rd Ua Wg Wz Ww Wr QTn QTa QFn QFa QBa QRn QRa QRb QRd QUa QWg QWz QWw QWr) H → va_S (fun a : Nat => s.heap.size ≤ a) s.heap H locs → ∀ ls : Array Slot, lv_has ls 8 [] → W p l e room_1 s m #[Value.ref b] below meth c H locs (28 + 2 * k + 2) (942 + 12 * k + 12) (lw_Z below #[Value.ref b] s) (F0 m 186 ls []) := by
  obtain ⟨hx, hb, hr, hml, hown, hts0, hX, hbl, hlocks, hgv⟩ := id C0
  have hown : s.vm.findClass RL = some m.cls := hown
  have hts : ∀ w ∈ wsL_law, w.before #[Value.ref b] s = true := fun w h => hts0 w (wsL_law_in w h)
  have hbA : ¬ (fun a : Nat => s.heap.size ≤ a) b := Nat.not_le.mpr hbl
  intro H locs hP hS ls hl
  unfold fL_law_J186 at hf
  refine lv_iconst (v := (0 : Int32)) hx hb dL_law_186 (by decide) ?_
  exact absurd hf (by decide)
set_option maxHeartbeats 4000000 in
set_option maxRecDepth 100000 in
theorem law_J194 {p : Program} {l : Launch} {e : Env} {s : State} {m : MethodId} {below : List Frame} {meth : Method} {c : Code} {b L : Nat} {xs : Nat → Int32} (hL : L ≤ 260) (C0 : lw_At p s m meth c b L xs) (hlt : l.stackTraces = false) (D : va_G) (cI cJ cD : ClassId) (sa : Nat → Nat) (q : Nat → Nat) (hq : gInj 28 q) (hqA : ∀ k, k < 28 → s.heap.size ≤ q k) (hE : gEv D cI cJ cD s) (hXe : gXe sa (fun a => s.heap.size ≤ a) s s.heap) (N : Nat) (QUa : (Nat → Int32)) (k : Nat) (hk : k ≤ 48) (Tn : Int32) (Ta : (Nat → Int32)) (Fn : Int32) (Fa : (Nat → Int32)) (Ba : (Nat → Int32)) (Rn : Int32) (Ra : (Nat → Int32)) (Rb : (Nat → Int32)) (Rd : (Nat → Int32)) (Ua : (Nat → Int32)) (Wg : Int32) (Wz : Int32) (Ww : Int32) (Wr : Int32) (QTn : Int32) (QTa : (Nat → Int32)) (QFn : Int32) (QFa : (Nat → Int32)) (QBa : (Nat → Int32)) (QRn : Int32) (QRa : (Nat → Int32)) (QRb : (Nat → Int32)) (QRd : (Nat → Int32)) (QWg : Int32) (QWz : Int32) (QWw : Int32) (QWr : Int32) (hf : fL_law_J194 N L xs QUa Tn Ta Fn Fa Ba Rn Ra Rb Rd Ua Wg Wz Ww Wr QTn QTa QFn QFa QBa QRn QRa QRb QRd QWg QWz QWw QWr = some 1) : ∀ (H : Heap) (locs : List Loc), va_P D vwCl (w_0_1_2_3_4_5_6_7_8_9_10_11_12_13_14_15_16_17_18_19_20_21_22_23_24_25_26_27 q cI cJ cD Tn Ta Fn Fa Ba Rn Ra Rb Rd Ua Wg Wz Ww Wr QTn QTa QFn QFa QBa QRn QRa QRb QRd QUa QWg QWz QWw QWr) H → va_S (fun a : Nat => s.heap.size ≤ a) s.heap H locs → ∀ ls : Array Slot, lv_has ls 8 [] → W p l e room_1 s m #[Value.ref b] below meth c H locs (28 + 2 * k) (942 + 12 * k) (lw_Z below #[Value.ref b] s) (F0 m 194 ls []) := by
  obtain ⟨hx, hb, hr, hml, hown, hts0, hX, hbl, hlocks, hgv⟩ := id C0
  have hown : s.vm.findClass RL = some m.cls := hown
  have hts : ∀ w ∈ wsL_law, w.before #[Value.ref b] s = true := fun w h => hts0 w (wsL_law_in w h)
  have hbA : ¬ (fun a : Nat => s.heap.size ≤ a) b := Nat.not_le.mpr hbl
  intro H locs hP hS ls hl
  unfold fL_law_J194 at hf
  refine lv_iconst (v := (1 : Int32)) hx hb dL_law_194 (by decide) ?_
  refine va_forget (fun q hq => hS.2.2 q hq) ?_
  refine W.widen (k := 140) (n := 1822) (by omega) (by omega) ?_
  refine W.base ?_
  exact lw_ret (Drawn.sameBut.refl s.drawn lw_cs) hx hb hr hlocks dL_law_195
set_option maxHeartbeats 4000000 in
set_option maxRecDepth 100000 in
theorem law_J162 {p : Program} {l : Launch} {e : Env} {s : State} {m : MethodId} {below : List Frame} {meth : Method} {c : Code} {b L : Nat} {xs : Nat → Int32} (hL : L ≤ 260) (C0 : lw_At p s m meth c b L xs) (hlt : l.stackTraces = false) (D : va_G) (cI cJ cD : ClassId) (sa : Nat → Nat) (q : Nat → Nat) (hq : gInj 28 q) (hqA : ∀ k, k < 28 → s.heap.size ≤ q k) (hE : gEv D cI cJ cD s) (hXe : gXe sa (fun a => s.heap.size ≤ a) s s.heap) (N : Nat) (QUa : (Nat → Int32)) (k : Nat) (hk : k ≤ 48) (Tn : Int32) (Ta : (Nat → Int32)) (Fn : Int32) (Fa : (Nat → Int32)) (Ba : (Nat → Int32)) (Rn : Int32) (Ra : (Nat → Int32)) (Rb : (Nat → Int32)) (Rd : (Nat → Int32)) (Ua : (Nat → Int32)) (Wg : Int32) (Wz : Int32) (Ww : Int32) (Wr : Int32) (QTn : Int32) (QTa : (Nat → Int32)) (QFn : Int32) (QFa : (Nat → Int32)) (QBa : (Nat → Int32)) (QRn : Int32) (QRa : (Nat → Int32)) (QRb : (Nat → Int32)) (QRd : (Nat → Int32)) (QWg : Int32) (QWz : Int32) (QWw : Int32) (QWr : Int32) (hf : fL_law_J162 N L xs QUa Tn Ta Fn Fa Ba Rn Ra Rb Rd Ua Wg Wz Ww Wr QTn QTa QFn QFa QBa QRn QRa QRb QRd QWg QWz QWw QWr = some 1) : ∀ (H : Heap) (locs : List Loc), va_P D vwCl (w_0_1_2_3_4_5_6_7_8_9_10_11_12_13_14_15_16_17_18_19_20_21_22_23_24_25_26_27 q cI cJ cD Tn Ta Fn Fa Ba Rn Ra Rb Rd Ua Wg Wz Ww Wr QTn QTa QFn QFa QBa QRn QRa QRb QRd QUa QWg QWz QWw QWr) H → va_S (fun a : Nat => s.heap.size ≤ a) s.heap H locs → ∀ ls : Array Slot, lv_has ls 8 [] → W p l e room_1 s m #[Value.ref b] below meth c H locs (28 + 2 * k + 2) (942 + 12 * k + 12) (lw_Z below #[Value.ref b] s) (F0 m 162 ls []) := by
  obtain ⟨hx, hb, hr, hml, hown, hts0, hX, hbl, hlocks, hgv⟩ := id C0
  have hown : s.vm.findClass RL = some m.cls := hown
  have hts : ∀ w ∈ wsL_law, w.before #[Value.ref b] s = true := fun w h => hts0 w (wsL_law_in w h)
  have hbA : ¬ (fun a : Nat => s.heap.size ≤ a) b := Nat.not_le.mpr hbl
  intro H locs hP hS ls hl
  unfold fL_law_J162 at hf
  refine lv_iconst (v := (0 : Int32)) hx hb dL_law_162 (by decide) ?_
  exact absurd hf (by decide)
set_option maxHeartbeats 4000000 in
set_option maxRecDepth 100000 in
theorem law_J188 {p : Program} {l : Launch} {e : Env} {s : State} {m : MethodId} {below : List Frame} {meth : Method} {c : Code} {b L : Nat} {xs : Nat → Int32} (hL : L ≤ 260) (C0 : lw_At p s m meth c b L xs) (hlt : l.stackTraces = false) (D : va_G) (cI cJ cD : ClassId) (sa : Nat → Nat) (q : Nat → Nat) (hq : gInj 28 q) (hqA : ∀ k, k < 28 → s.heap.size ≤ q k) (hE : gEv D cI cJ cD s) (hXe : gXe sa (fun a => s.heap.size ≤ a) s s.heap) (N : Nat) (QUa : (Nat → Int32)) (k : Nat) (h5 : k + 1 ≤ 48) (k18 : Int32 → (Nat → Int32) → Int32 → (Nat → Int32) → (Nat → Int32) → Int32 → (Nat → Int32) → (Nat → Int32) → (Nat → Int32) → (Nat → Int32) → Int32 → Int32 → Int32 → Int32 → Int32 → (Nat → Int32) → Int32 → (Nat → Int32) → (Nat → Int32) → Int32 → (Nat → Int32) → (Nat → Int32) → (Nat → Int32) → Int32 → Int32 → Int32 → Int32 → Int32 → Option Int32) (ih : lawIH p l e s m below meth c b D cI cJ cD q QUa k k18) (Tn : Int32) (Ta : (Nat → Int32)) (Fn : Int32) (Fa : (Nat → Int32)) (Ba : (Nat → Int32)) (Rn : Int32) (Ra : (Nat → Int32)) (Rb : (Nat → Int32)) (Rd : (Nat → Int32)) (Ua : (Nat → Int32)) (Wg : Int32) (Wz : Int32) (Ww : Int32) (Wr : Int32) (QTn : Int32) (QTa : (Nat → Int32)) (QFn : Int32) (QFa : (Nat → Int32)) (QBa : (Nat → Int32)) (QRn : Int32) (QRa : (Nat → Int32)) (QRb : (Nat → Int32)) (QRd : (Nat → Int32)) (QWg : Int32) (QWz : Int32) (QWw : Int32) (QWr : Int32) (x3 : Int32) (hx3 : x3 = nI k) (hf : fL_law_J188 N L xs QUa k18 Tn Ta Fn Fa Ba Rn Ra Rb Rd Ua Wg Wz Ww Wr QTn QTa QFn QFa QBa QRn QRa QRb QRd QWg QWz QWw QWr x3 = some 1) : ∀ (H : Heap) (locs : List Loc), va_P D vwCl (w_0_1_2_3_4_5_6_7_8_9_10_11_12_13_14_15_16_17_18_19_20_21_22_23_24_25_26_27 q cI cJ cD Tn Ta Fn Fa Ba Rn Ra Rb Rd Ua Wg Wz Ww Wr QTn QTa QFn QFa QBa QRn QRa QRb QRd QUa QWg QWz QWw QWr) H → va_S (fun a : Nat => s.heap.size ≤ a) s.heap H locs → ∀ ls : Array Slot, lv_has ls 8 [(0, .ref b), (1, .ref (q 0)), (2, .ref (q 14)), (3, .int x3)] → W p l e room_1 s m #[Value.ref b] below meth c H locs (28 + 2 * k + 2) (942 + 12 * k + 12) (lw_Z below #[Value.ref b] s) (F0 m 188 ls []) := by
  obtain ⟨hx, hb, hr, hml, hown, hts0, hX, hbl, hlocks, hgv⟩ := id C0
  have hown : s.vm.findClass RL = some m.cls := hown
  have hts : ∀ w ∈ wsL_law, w.before #[Value.ref b] s = true := fun w h => hts0 w (wsL_law_in w h)
  have hbA : ¬ (fun a : Nat => s.heap.size ≤ a) b := Nat.not_le.mpr hbl
  have hc0 : 28 + 2 * k ≤ 140 := by omega
  have hs0 : 942 + 12 * k ≤ 1822 := by omega
  have hc1 : 28 + 2 * k + 1 ≤ 140 := by omega
  have hs1 : 942 + 12 * k + 6 ≤ 1822 := by omega
  have hc2 : 28 + 2 * k + 2 ≤ 140 := by omega
  have hs2 : 942 + 12 * k + 12 ≤ 1822 := by omega
  intro H locs hP hS ls hl
  unfold fL_law_J188 at hf
  refine lv_iinc (v := (x3 + 1)) (lv' := [(3, .int (x3 + 1)), (0, .ref b), (1, .ref (q 0)), (2, .ref (q 14))]) hx hb dL_law_188 hl (k := 3) rfl rfl (by decide) rfl (fun ls hl => ?_)
  refine lv_goto (tgt := 18) hx hb dL_law_191 (by decide) ?_
  refine W.widen (k := 28 + 2 * (k + 1)) (n := 942 + 12 * (k + 1)) (by omega) (by omega) ?_
  exact ih Tn Ta Fn Fa Ba Rn Ra Rb Rd Ua Wg Wz Ww Wr QTn QTa QFn QFa QBa QRn QRa QRb QRd QWg QWz QWw QWr (x3 + 1) (by rw [hx3]; exact law_n1 k) hf _ _ hP hS _ (lv_sub hl [1, 2, 3, 0] rfl)
set_option maxHeartbeats 4000000 in
set_option maxRecDepth 100000 in
theorem law_J164 {p : Program} {l : Launch} {e : Env} {s : State} {m : MethodId} {below : List Frame} {meth : Method} {c : Code} {b L : Nat} {xs : Nat → Int32} (hL : L ≤ 260) (C0 : lw_At p s m meth c b L xs) (hlt : l.stackTraces = false) (D : va_G) (cI cJ cD : ClassId) (sa : Nat → Nat) (q : Nat → Nat) (hq : gInj 28 q) (hqA : ∀ k, k < 28 → s.heap.size ≤ q k) (hE : gEv D cI cJ cD s) (hXe : gXe sa (fun a => s.heap.size ≤ a) s s.heap) (N : Nat) (QUa : (Nat → Int32)) (k : Nat) (h5 : k + 1 ≤ 48) (k18 : Int32 → (Nat → Int32) → Int32 → (Nat → Int32) → (Nat → Int32) → Int32 → (Nat → Int32) → (Nat → Int32) → (Nat → Int32) → (Nat → Int32) → Int32 → Int32 → Int32 → Int32 → Int32 → (Nat → Int32) → Int32 → (Nat → Int32) → (Nat → Int32) → Int32 → (Nat → Int32) → (Nat → Int32) → (Nat → Int32) → Int32 → Int32 → Int32 → Int32 → Int32 → Option Int32) (ih : lawIH p l e s m below meth c b D cI cJ cD q QUa k k18) (Tn : Int32) (Ta : (Nat → Int32)) (Fn : Int32) (Fa : (Nat → Int32)) (Ba : (Nat → Int32)) (Rn : Int32) (Ra : (Nat → Int32)) (Rb : (Nat → Int32)) (Rd : (Nat → Int32)) (Ua : (Nat → Int32)) (Wg : Int32) (Wz : Int32) (Ww : Int32) (Wr : Int32) (QTn : Int32) (QTa : (Nat → Int32)) (QFn : Int32) (QFa : (Nat → Int32)) (QBa : (Nat → Int32)) (QRn : Int32) (QRa : (Nat → Int32)) (QRb : (Nat → Int32)) (QRd : (Nat → Int32)) (QWg : Int32) (QWz : Int32) (QWw : Int32) (QWr : Int32) (x3 : Int32) (hx3 : x3 = nI k) (hf : fL_law_J164 N L xs QUa k18 Tn Ta Fn Fa Ba Rn Ra Rb Rd Ua Wg Wz Ww Wr QTn QTa QFn QFa QBa QRn QRa QRb QRd QWg QWz QWw QWr x3 = some 1) : ∀ (H : Heap) (locs : List Loc), va_P D vwCl (w_0_1_2_3_4_5_6_7_8_9_10_11_12_13_14_15_16_17_18_19_20_21_22_23_24_25_26_27 q cI cJ cD Tn Ta Fn Fa Ba Rn Ra Rb Rd Ua Wg Wz Ww Wr QTn QTa QFn QFa QBa QRn QRa QRb QRd QUa QWg QWz QWw QWr) H → va_S (fun a : Nat => s.heap.size ≤ a) s.heap H locs → ∀ ls : Array Slot, lv_has ls 8 [(0, .ref b), (1, .ref (q 0)), (2, .ref (q 14)), (3, .int x3)] → W p l e room_1 s m #[Value.ref b] below meth c H locs (28 + 2 * k + 2) (942 + 12 * k + 12) (lw_Z below #[Value.ref b] s) (F0 m 164 ls []) := by
  obtain ⟨hx, hb, hr, hml, hown, hts0, hX, hbl, hlocks, hgv⟩ := id C0
  have hown : s.vm.findClass RL = some m.cls := hown
  have hts : ∀ w ∈ wsL_law, w.before #[Value.ref b] s = true := fun w h => hts0 w (wsL_law_in w h)
  have hbA : ¬ (fun a : Nat => s.heap.size ≤ a) b := Nat.not_le.mpr hbl
  have hc0 : 28 + 2 * k ≤ 140 := by omega
  have hs0 : 942 + 12 * k ≤ 1822 := by omega
  have hc1 : 28 + 2 * k + 1 ≤ 140 := by omega
  have hs1 : 942 + 12 * k + 6 ≤ 1822 := by omega
  have hc2 : 28 + 2 * k + 2 ≤ 140 := by omega
  have hs2 : 942 + 12 * k + 12 ≤ 1822 := by omega
  intro H locs hP hS ls hl
  unfold fL_law_J164 at hf
  refine lv_iload_n hx hb dL_law_164 rfl (lv_at hl 3 rfl) ?_
  refine lv_bipush (v := (6 : Int32)) hx hb dL_law_165 (by decide) ?_
  obtain ⟨g_1, hf⟩ := gd_some hf
  refine lv_irem hx hb dL_law_167 (nz_ne g_1) ?_
  refine lv_iconst (v := (5 : Int32)) hx hb dL_law_168 (by decide) ?_
  refine lv_icmp_ne (tgt := 188) hx hb dL_law_169 (by decide) (fun c_2 => ?_) (fun c_2 => ?_)
  · have hf := (if_neg c_2).symm.trans hf
    exact law_J188 hL C0 hlt D cI cJ cD sa q hq hqA hE hXe N QUa k h5 k18 ih Tn Ta Fn Fa Ba Rn Ra Rb Rd Ua Wg Wz Ww Wr QTn QTa QFn QFa QBa QRn QRa QRb QRd QWg QWz QWw QWr x3 hx3 hf _ _ hP hS _ (lv_sub hl [0, 1, 2, 3] rfl)
  · have hf := (if_pos c_2).symm.trans hf
    refine lv_aload_n hx hb dL_law_172 rfl (lv_at hl 1 rfl) ?_
    obtain ⟨⟨r173, Fn173, Fa173, Ua173⟩, hc, hf⟩ := bn_some hf
    try dsimp only at hf
    refine g_call0 (ws' := (w_0_1_2_3_4_5_6_7_8_9_10_11_12_13_14_15_16_17_18_19_20_21_22_23_24_25_26_27 q cI cJ cD Tn Ta Fn173 Fa173 Ba Rn Ra Rb Rd Ua173 Wg Wz Ww Wr QTn QTa QFn QFa QBa QRn QRa QRb QRd QUa QWg QWz QWw QWr)) (st1 := [.int r173]) hq [0, 1, 2, 3, 4, 5, 6, 7, 8, 9, 10, 11, 12, 13, 14, 15, 16, 17, 18, 19, 20, 21, 22, 23, 24, 25, 26, 27] [0, 1, 2, 3, 4, 11, 12] [.inl 0, .inl 1, .inl 2, .inl 3, .inl 4, .inr 5, .inr 6, .inr 7, .inr 8, .inr 9, .inr 10, .inl 5, .inl 6, .inr 13, .inr 14, .inr 15, .inr 16, .inr 17, .inr 18, .inr 19, .inr 20, .inr 21, .inr 22, .inr 23, .inr 24, .inr 25, .inr 26, .inr 27] (va_runS (As := [.ref (q 0)]) (rest := []) ⟨hx, hb, hml, hown, hts⟩ (kL_areSuffixesSo l D cI cJ cD q hq.o N Tn Ta Fn Fa Ua r173 Fn173 Fa173 Ua173 hc) (va_cwS 1 hts gL_law_L_areSuffixesSo rfl rfl rfl (by decide +kernel) ⟨(Nat.le_of_ble_eq_true rfl), (Nat.le_of_ble_eq_true rfl)⟩) ⟨gP_blind, fun U hU hW => ⟨rfl, by rw [hU]; exact hP.sub (ws' := (w_0_1_2_3_4_11_12 q cI cJ cD Tn Ta Fn Fa Ua)) [0, 1, 2, 3, 4, 11, 12] rfl, gEv.warm hW hE⟩⟩ rfl rfl hl.1 rfl (lv_room (Nat.le_of_ble_eq_true rfl)) dL_law_173 ⟨hc2, hs2⟩) hP hS (gSubL hqA rfl) rfl rfl rfl rfl rfl (fun H locs hP hS => ?_)
    refine lv_if_eq (tgt := 186) hx hb dL_law_176 (by decide) (fun c_3 => ?_) (fun c_3 => ?_)
    · have hf := (if_pos c_3).symm.trans hf
      exact law_J186 hL C0 hlt D cI cJ cD sa q hq hqA hE hXe N QUa k (by omega) Tn Ta Fn173 Fa173 Ba Rn Ra Rb Rd Ua173 Wg Wz Ww Wr QTn QTa QFn QFa QBa QRn QRa QRb QRd QWg QWz QWw QWr hf _ _ hP hS _ (lv_sub hl [] rfl)
    · have hf := (if_neg c_3).symm.trans hf
      refine lv_aload_n hx hb dL_law_179 rfl (lv_at hl 1 rfl) ?_
      obtain ⟨⟨r180, Ba180, Rn180, Ra180, Rb180, Rd180⟩, hc, hf⟩ := bn_some hf
      try dsimp only at hf
      refine g_call0 (ws' := (w_0_1_2_3_4_5_6_7_8_9_10_11_12_13_14_15_16_17_18_19_20_21_22_23_24_25_26_27 q cI cJ cD Tn Ta Fn173 Fa173 Ba180 Rn180 Ra180 Rb180 Rd180 Ua173 Wg Wz Ww Wr QTn QTa QFn QFa QBa QRn QRa QRb QRd QUa QWg QWz QWw QWr)) (st1 := [.int r180]) hq [0, 1, 2, 3, 4, 5, 6, 7, 8, 9, 10, 11, 12, 13, 14, 15, 16, 17, 18, 19, 20, 21, 22, 23, 24, 25, 26, 27] [0, 1, 2, 5, 6, 7, 8, 9, 10] [.inl 0, .inl 1, .inl 2, .inr 3, .inr 4, .inl 3, .inl 4, .inl 5, .inl 6, .inl 7, .inl 8, .inr 11, .inr 12, .inr 13, .inr 14, .inr 15, .inr 16, .inr 17, .inr 18, .inr 19, .inr 20, .inr 21, .inr 22, .inr 23, .inr 24, .inr 25, .inr 26, .inr 27] (va_runS (As := [.ref (q 0)]) (rest := []) ⟨hx, hb, hml, hown, hts⟩ (kL_areRunsSo l D cI cJ cD q hq.o N Tn Ta Ba Rn Ra Rb Rd r180 Ba180 Rn180 Ra180 Rb180 Rd180 hc) (va_cwS 1 hts gL_law_L_areRunsSo rfl rfl rfl (by decide +kernel) ⟨(Nat.le_of_ble_eq_true rfl), (Nat.le_of_ble_eq_true rfl)⟩) ⟨gP_blind, fun U hU hW => ⟨rfl, by rw [hU]; exact hP.sub (ws' := (w_0_1_2_5_6_7_8_9_10 q cI cJ cD Tn Ta Ba Rn Ra Rb Rd)) [0, 1, 2, 5, 6, 7, 8, 9, 10] rfl, gEv.warm hW hE⟩⟩ rfl rfl hl.1 rfl (lv_room (Nat.le_of_ble_eq_true rfl)) dL_law_180 ⟨hc2, hs2⟩) hP hS (gSubL hqA rfl) rfl rfl rfl rfl rfl (fun H locs hP hS => ?_)
      refine lv_if_ne (tgt := 188) hx hb dL_law_183 (by decide) (fun c_4 => ?_) (fun c_4 => ?_)
      · have hf := (if_neg c_4).symm.trans hf
        exact law_J188 hL C0 hlt D cI cJ cD sa q hq hqA hE hXe N QUa k h5 k18 ih Tn Ta Fn173 Fa173 Ba180 Rn180 Ra180 Rb180 Rd180 Ua173 Wg Wz Ww Wr QTn QTa QFn QFa QBa QRn QRa QRb QRd QWg QWz QWw QWr x3 hx3 hf _ _ hP hS _ (lv_sub hl [0, 1, 2, 3] rfl)
      · have hf := (if_pos c_4).symm.trans hf
        exact law_J186 hL C0 hlt D cI cJ cD sa q hq hqA hE hXe N QUa k (by omega) Tn Ta Fn173 Fa173 Ba180 Rn180 Ra180 Rb180 Rd180 Ua173 Wg Wz Ww Wr QTn QTa QFn QFa QBa QRn QRa QRb QRd QWg QWz QWw QWr hf _ _ hP hS _ (lv_sub hl [] rfl)
set_option maxHeartbeats 4000000 in
set_option maxRecDepth 100000 in
theorem law_J130 {p : Program} {l : Launch} {e : Env} {s : State} {m : MethodId} {below : List Frame} {meth : Method} {c : Code} {b L : Nat} {xs : Nat → Int32} (hL : L ≤ 260) (C0 : lw_At p s m meth c b L xs) (hlt : l.stackTraces = false) (D : va_G) (cI cJ cD : ClassId) (sa : Nat → Nat) (q : Nat → Nat) (hq : gInj 28 q) (hqA : ∀ k, k < 28 → s.heap.size ≤ q k) (hE : gEv D cI cJ cD s) (hXe : gXe sa (fun a => s.heap.size ≤ a) s s.heap) (N : Nat) (QUa : (Nat → Int32)) (k : Nat) (h5 : k + 1 ≤ 48) (k18 : Int32 → (Nat → Int32) → Int32 → (Nat → Int32) → (Nat → Int32) → Int32 → (Nat → Int32) → (Nat → Int32) → (Nat → Int32) → (Nat → Int32) → Int32 → Int32 → Int32 → Int32 → Int32 → (Nat → Int32) → Int32 → (Nat → Int32) → (Nat → Int32) → Int32 → (Nat → Int32) → (Nat → Int32) → (Nat → Int32) → Int32 → Int32 → Int32 → Int32 → Int32 → Option Int32) (ih : lawIH p l e s m below meth c b D cI cJ cD q QUa k k18) (Tn : Int32) (Ta : (Nat → Int32)) (Fn : Int32) (Fa : (Nat → Int32)) (Ba : (Nat → Int32)) (Rn : Int32) (Ra : (Nat → Int32)) (Rb : (Nat → Int32)) (Rd : (Nat → Int32)) (Ua : (Nat → Int32)) (Wg : Int32) (Wz : Int32) (Ww : Int32) (Wr : Int32) (QTn : Int32) (QTa : (Nat → Int32)) (QFn : Int32) (QFa : (Nat → Int32)) (QBa : (Nat → Int32)) (QRn : Int32) (QRa : (Nat → Int32)) (QRb : (Nat → Int32)) (QRd : (Nat → Int32)) (QWg : Int32) (QWz : Int32) (QWw : Int32) (QWr : Int32) (x3 : Int32) (x6 : Int32) (y0 : Int32) (hx3 : x3 = nI k) (hf : fL_law_J130 N L xs QUa k18 Tn Ta Fn Fa Ba Rn Ra Rb Rd Ua Wg Wz Ww Wr QTn QTa QFn QFa QBa QRn QRa QRb QRd QWg QWz QWw QWr x3 x6 y0 = some 1) : ∀ (H : Heap) (locs : List Loc), va_P D vwCl (w_0_1_2_3_4_5_6_7_8_9_10_11_12_13_14_15_16_17_18_19_20_21_22_23_24_25_26_27 q cI cJ cD Tn Ta Fn Fa Ba Rn Ra Rb Rd Ua Wg Wz Ww Wr QTn QTa QFn QFa QBa QRn QRa QRb QRd QUa QWg QWz QWw QWr) H → va_S (fun a : Nat => s.heap.size ≤ a) s.heap H locs → ∀ ls : Array Slot, lv_has ls 8 [(0, .ref b), (1, .ref (q 0)), (2, .ref (q 14)), (3, .int x3), (6, .int x6)] → W p l e room_1 s m #[Value.ref b] below meth c H locs (28 + 2 * k + 2) (942 + 12 * k + 12) (lw_Z below #[Value.ref b] s) (F0 m 130 ls [.int y0]) := by
  obtain ⟨hx, hb, hr, hml, hown, hts0, hX, hbl, hlocks, hgv⟩ := id C0
  have hown : s.vm.findClass RL = some m.cls := hown
  have hts : ∀ w ∈ wsL_law, w.before #[Value.ref b] s = true := fun w h => hts0 w (wsL_law_in w h)
  have hbA : ¬ (fun a : Nat => s.heap.size ≤ a) b := Nat.not_le.mpr hbl
  have hc0 : 28 + 2 * k ≤ 140 := by omega
  have hs0 : 942 + 12 * k ≤ 1822 := by omega
  have hc1 : 28 + 2 * k + 1 ≤ 140 := by omega
  have hs1 : 942 + 12 * k + 6 ≤ 1822 := by omega
  have hc2 : 28 + 2 * k + 2 ≤ 140 := by omega
  have hs2 : 942 + 12 * k + 12 ≤ 1822 := by omega
  intro H locs hP hS ls hl
  unfold fL_law_J130 at hf
  refine lv_istore (lv' := [(7, .int y0), (0, .ref b), (1, .ref (q 0)), (2, .ref (q 14)), (3, .int x3), (6, .int x6)]) hx hb dL_law_130 hl (by decide) rfl (fun ls hl => ?_)
  refine lv_aload_n hx hb dL_law_132 rfl (lv_at hl 2 rfl) ?_
  obtain ⟨r133, hc, hf⟩ := bn_some hf
  try dsimp only at hf
  refine g_call0 (ws' := (w_0_1_2_3_4_5_6_7_8_9_10_11_12_13_14_15_16_17_18_19_20_21_22_23_24_25_26_27 q cI cJ cD Tn Ta Fn Fa Ba Rn Ra Rb Rd Ua Wg Wz Ww Wr QTn QTa QFn QFa QBa QRn QRa QRb QRd QUa QWg QWz QWw QWr)) (st1 := [.int r133]) hq [0, 1, 2, 3, 4, 5, 6, 7, 8, 9, 10, 11, 12, 13, 14, 15, 16, 17, 18, 19, 20, 21, 22, 23, 24, 25, 26, 27] [0, 1] [.inl 0, .inl 1, .inr 2, .inr 3, .inr 4, .inr 5, .inr 6, .inr 7, .inr 8, .inr 9, .inr 10, .inr 11, .inr 12, .inr 13, .inr 14, .inr 15, .inr 16, .inr 17, .inr 18, .inr 19, .inr 20, .inr 21, .inr 22, .inr 23, .inr 24, .inr 25, .inr 26, .inr 27] (va_runV (As := []) (rest := []) ⟨hx, hb, hml, hown, hts⟩ (kX8_length l D cI cJ cD q hq.o N Tn r133 hc) (cwV 0 hts gL_law_X8_length rfl rfl rfl (by decide +kernel) ⟨(Nat.le_of_ble_eq_true rfl), (Nat.le_of_ble_eq_true rfl)⟩) ⟨gP_blind, va_recv hE.1 hP (ci := 6) (q0 := 0) rfl rfl, fun U hU hW => ⟨rfl, by rw [hU]; exact hP.sub (ws' := (w_0_1 q cI cJ cD Tn)) [0, 1] rfl, gEv.warm hW hE⟩⟩ rfl rfl hl.1 rfl (lv_room (Nat.le_of_ble_eq_true rfl)) dL_law_133 ⟨hc2, hs2⟩) hP hS (gSubL hqA rfl) rfl rfl rfl rfl rfl (fun H locs hP hS => ?_)
  refine lv_if_le (tgt := 164) hx hb dL_law_136 (by decide) (fun c_1 => ?_) (fun c_1 => ?_)
  · have hf := (if_pos c_1).symm.trans hf
    exact law_J164 hL C0 hlt D cI cJ cD sa q hq hqA hE hXe N QUa k h5 k18 ih Tn Ta Fn Fa Ba Rn Ra Rb Rd Ua Wg Wz Ww Wr QTn QTa QFn QFa QBa QRn QRa QRb QRd QWg QWz QWw QWr x3 hx3 hf _ _ hP hS _ (lv_sub hl [1, 2, 3, 4] rfl)
  · have hf := (if_neg c_1).symm.trans hf
    refine lv_aload_n hx hb dL_law_139 rfl (lv_at hl 2 rfl) ?_
    refine lv_iload hx hb dL_law_140 (lv_at hl 5 rfl) ?_
    refine lv_iload hx hb dL_law_142 (lv_at hl 0 rfl) ?_
    obtain ⟨⟨r144, Ba144⟩, hc, hf⟩ := bn_some hf
    try dsimp only at hf
    refine g_call0 (ws' := (w_0_1_2_3_4_5_6_7_8_9_10_11_12_13_14_15_16_17_18_19_20_21_22_23_24_25_26_27 q cI cJ cD Tn Ta Fn Fa Ba144 Rn Ra Rb Rd Ua Wg Wz Ww Wr QTn QTa QFn QFa QBa QRn QRa QRb QRd QUa QWg QWz QWw QWr)) (st1 := [.int r144]) hq [0, 1, 2, 3, 4, 5, 6, 7, 8, 9, 10, 11, 12, 13, 14, 15, 16, 17, 18, 19, 20, 21, 22, 23, 24, 25, 26, 27] [0, 1, 2, 5, 6] [.inl 0, .inl 1, .inl 2, .inr 3, .inr 4, .inl 3, .inl 4, .inr 7, .inr 8, .inr 9, .inr 10, .inr 11, .inr 12, .inr 13, .inr 14, .inr 15, .inr 16, .inr 17, .inr 18, .inr 19, .inr 20, .inr 21, .inr 22, .inr 23, .inr 24, .inr 25, .inr 26, .inr 27] (va_runS (As := [.ref (q 0), .int x6, .int y0]) (rest := []) ⟨hx, hb, hml, hown, hts⟩ (kL_isPartSo l D cI cJ cD q hq.o N Tn Ta Ba x6 y0 r144 Ba144 hc) (va_cwS 3 hts gL_law_L_isPartSo rfl rfl rfl (by decide +kernel) ⟨(Nat.le_of_ble_eq_true rfl), (Nat.le_of_ble_eq_true rfl)⟩) ⟨gP_blind, fun U hU hW => ⟨rfl, by rw [hU]; exact hP.sub (ws' := (w_0_1_2_5_6 q cI cJ cD Tn Ta Ba)) [0, 1, 2, 5, 6] rfl, gEv.warm hW hE⟩⟩ rfl rfl hl.1 rfl (lv_room (Nat.le_of_ble_eq_true rfl)) dL_law_144 ⟨hc2, hs2⟩) hP hS (gSubL hqA rfl) rfl rfl rfl rfl rfl (fun H locs hP hS => ?_)
    refine lv_if_eq (tgt := 162) hx hb dL_law_147 (by decide) (fun c_2 => ?_) (fun c_2 => ?_)
    · have hf := (if_pos c_2).symm.trans hf
      exact law_J162 hL C0 hlt D cI cJ cD sa q hq hqA hE hXe N QUa k (by omega) Tn Ta Fn Fa Ba144 Rn Ra Rb Rd Ua Wg Wz Ww Wr QTn QTa QFn QFa QBa QRn QRa QRb QRd QWg QWz QWw QWr hf _ _ hP hS _ (lv_sub hl [] rfl)
    · have hf := (if_neg c_2).symm.trans hf
      refine lv_aload_n hx hb dL_law_150 rfl (lv_at hl 3 rfl) ?_
      refine lv_iconst (v := (0 : Int32)) hx hb dL_law_151 (by decide) ?_
      refine lv_aload_n hx hb dL_law_152 rfl (lv_at hl 2 rfl) ?_
      obtain ⟨r153, hc, hf⟩ := bn_some hf
      try dsimp only at hf
      refine g_call0 (ws' := (w_0_1_2_3_4_5_6_7_8_9_10_11_12_13_14_15_16_17_18_19_20_21_22_23_24_25_26_27 q cI cJ cD Tn Ta Fn Fa Ba144 Rn Ra Rb Rd Ua Wg Wz Ww Wr QTn QTa QFn QFa QBa QRn QRa QRb QRd QUa QWg QWz QWw QWr)) (st1 := [.int r153, .int (0 : Int32), .ref (q 14)]) hq [0, 1, 2, 3, 4, 5, 6, 7, 8, 9, 10, 11, 12, 13, 14, 15, 16, 17, 18, 19, 20, 21, 22, 23, 24, 25, 26, 27] [0, 1] [.inl 0, .inl 1, .inr 2, .inr 3, .inr 4, .inr 5, .inr 6, .inr 7, .inr 8, .inr 9, .inr 10, .inr 11, .inr 12, .inr 13, .inr 14, .inr 15, .inr 16, .inr 17, .inr 18, .inr 19, .inr 20, .inr 21, .inr 22, .inr 23, .inr 24, .inr 25, .inr 26, .inr 27] (va_runV (As := []) (rest := [.int (0 : Int32), .ref (q 14)]) ⟨hx, hb, hml, hown, hts⟩ (kX8_length l D cI cJ cD q hq.o N Tn r153 hc) (cwV 0 hts gL_law_X8_length rfl rfl rfl (by decide +kernel) ⟨(Nat.le_of_ble_eq_true rfl), (Nat.le_of_ble_eq_true rfl)⟩) ⟨gP_blind, va_recv hE.1 hP (ci := 6) (q0 := 0) rfl rfl, fun U hU hW => ⟨rfl, by rw [hU]; exact hP.sub (ws' := (w_0_1 q cI cJ cD Tn)) [0, 1] rfl, gEv.warm hW hE⟩⟩ rfl rfl hl.1 rfl (lv_room (Nat.le_of_ble_eq_true rfl)) dL_law_153 ⟨hc2, hs2⟩) hP hS (gSubL hqA rfl) rfl rfl rfl rfl rfl (fun H locs hP hS => ?_)
      obtain ⟨⟨r156, QBa156⟩, hc, hf⟩ := bn_some hf
      try dsimp only at hf
      refine g_callS0 (ws' := (w_0_1_2_3_4_5_6_7_8_9_10_11_12_13_14_15_16_17_18_19_20_21_22_23_24_25_26_27 q cI cJ cD Tn Ta Fn Fa Ba144 Rn Ra Rb Rd Ua Wg Wz Ww Wr QTn QTa QFn QFa QBa156 QRn QRa QRb QRd QUa QWg QWz QWw QWr)) (st1 := [.int r156]) hq [0, 1, 2, 3, 4, 5, 6, 7, 8, 9, 10, 11, 12, 13, 14, 15, 16, 17, 18, 19, 20, 21, 22, 23, 24, 25, 26, 27] [14, 15, 16, 19, 20] (gA_sh [0, 1, 2, 5, 6]) [.inr 0, .inr 1, .inr 2, .inr 3, .inr 4, .inr 5, .inr 6, .inr 7, .inr 8, .inr 9, .inr 10, .inr 11, .inr 12, .inr 13, .inl 0, .inl 1, .inl 2, .inr 17, .inr 18, .inl 3, .inl 4, .inr 21, .inr 22, .inr 23, .inr 24, .inr 25, .inr 26, .inr 27] (va_runS (As := [.ref (q 14), .int (0 : Int32), .int r153]) (rest := []) ⟨hx, hb, hml, hown, hts⟩ (kL_isPartSo l D cI cJ cD (sh q) hq.p N QTn QTa QBa (0 : Int32) r153 r156 QBa156 hc) (va_cwS 3 hts gL_law_L_isPartSo rfl rfl rfl (by decide +kernel) ⟨(Nat.le_of_ble_eq_true rfl), (Nat.le_of_ble_eq_true rfl)⟩) ⟨gP_blind, fun U hU hW => ⟨rfl, by rw [hU]; exact hP.sub (ws' := (w_0_1_2_5_6 (sh q) cI cJ cD QTn QTa QBa)) [14, 15, 16, 19, 20] rfl, gEv.warm hW hE⟩⟩ rfl rfl hl.1 rfl (lv_room (Nat.le_of_ble_eq_true rfl)) dL_law_156 ⟨hc2, hs2⟩) hP hS (gSubL hqA rfl) rfl rfl rfl rfl rfl (fun H locs hP hS => ?_)
      refine lv_if_ne (tgt := 164) hx hb dL_law_159 (by decide) (fun c_3 => ?_) (fun c_3 => ?_)
      · have hf := (if_neg c_3).symm.trans hf
        exact law_J164 hL C0 hlt D cI cJ cD sa q hq hqA hE hXe N QUa k h5 k18 ih Tn Ta Fn Fa Ba144 Rn Ra Rb Rd Ua Wg Wz Ww Wr QTn QTa QFn QFa QBa156 QRn QRa QRb QRd QWg QWz QWw QWr x3 hx3 hf _ _ hP hS _ (lv_sub hl [1, 2, 3, 4] rfl)
      · have hf := (if_pos c_3).symm.trans hf
        exact law_J162 hL C0 hlt D cI cJ cD sa q hq hqA hE hXe N QUa k (by omega) Tn Ta Fn Fa Ba144 Rn Ra Rb Rd Ua Wg Wz Ww Wr QTn QTa QFn QFa QBa156 QRn QRa QRb QRd QWg QWz QWw QWr hf _ _ hP hS _ (lv_sub hl [] rfl)
set_option maxHeartbeats 4000000 in
set_option maxRecDepth 100000 in
theorem law_J97 {p : Program} {l : Launch} {e : Env} {s : State} {m : MethodId} {below : List Frame} {meth : Method} {c : Code} {b L : Nat} {xs : Nat → Int32} (hL : L ≤ 260) (C0 : lw_At p s m meth c b L xs) (hlt : l.stackTraces = false) (D : va_G) (cI cJ cD : ClassId) (sa : Nat → Nat) (q : Nat → Nat) (hq : gInj 28 q) (hqA : ∀ k, k < 28 → s.heap.size ≤ q k) (hE : gEv D cI cJ cD s) (hXe : gXe sa (fun a => s.heap.size ≤ a) s s.heap) (N : Nat) (QUa : (Nat → Int32)) (k : Nat) (h5 : k + 1 ≤ 48) (k18 : Int32 → (Nat → Int32) → Int32 → (Nat → Int32) → (Nat → Int32) → Int32 → (Nat → Int32) → (Nat → Int32) → (Nat → Int32) → (Nat → Int32) → Int32 → Int32 → Int32 → Int32 → Int32 → (Nat → Int32) → Int32 → (Nat → Int32) → (Nat → Int32) → Int32 → (Nat → Int32) → (Nat → Int32) → (Nat → Int32) → Int32 → Int32 → Int32 → Int32 → Int32 → Option Int32) (ih : lawIH p l e s m below meth c b D cI cJ cD q QUa k k18) (Tn : Int32) (Ta : (Nat → Int32)) (Fn : Int32) (Fa : (Nat → Int32)) (Ba : (Nat → Int32)) (Rn : Int32) (Ra : (Nat → Int32)) (Rb : (Nat → Int32)) (Rd : (Nat → Int32)) (Ua : (Nat → Int32)) (Wg : Int32) (Wz : Int32) (Ww : Int32) (Wr : Int32) (QTn : Int32) (QTa : (Nat → Int32)) (QFn : Int32) (QFa : (Nat → Int32)) (QBa : (Nat → Int32)) (QRn : Int32) (QRa : (Nat → Int32)) (QRb : (Nat → Int32)) (QRd : (Nat → Int32)) (QWg : Int32) (QWz : Int32) (QWw : Int32) (QWr : Int32) (x3 : Int32) (x4 : Int32) (y0 : Int32) (hx3 : x3 = nI k) (hf : fL_law_J97 N L xs QUa k18 Tn Ta Fn Fa Ba Rn Ra Rb Rd Ua Wg Wz Ww Wr QTn QTa QFn QFa QBa QRn QRa QRb QRd QWg QWz QWw QWr x3 x4 y0 = some 1) : ∀ (H : Heap) (locs : List Loc), va_P D vwCl (w_0_1_2_3_4_5_6_7_8_9_10_11_12_13_14_15_16_17_18_19_20_21_22_23_24_25_26_27 q cI cJ cD Tn Ta Fn Fa Ba Rn Ra Rb Rd Ua Wg Wz Ww Wr QTn QTa QFn QFa QBa QRn QRa QRb QRd QUa QWg QWz QWw QWr) H → va_S (fun a : Nat => s.heap.size ≤ a) s.heap H locs → ∀ ls : Array Slot, lv_has ls 8 [(0, .ref b), (1, .ref (q 0)), (2, .ref (q 14)), (3, .int x3), (4, .int x4)] → W p l e room_1 s m #[Value.ref b] below meth c H locs (28 + 2 * k + 2) (942 + 12 * k + 12) (lw_Z below #[Value.ref b] s) (F0 m 97 ls [.int y0]) := by
  obtain ⟨hx, hb, hr, hml, hown, hts0, hX, hbl, hlocks, hgv⟩ := id C0
  have hown : s.vm.findClass RL = some m.cls := hown
  have hts : ∀ w ∈ wsL_law, w.before #[Value.ref b] s = true := fun w h => hts0 w (wsL_law_in w h)
  have hbA : ¬ (fun a : Nat => s.heap.size ≤ a) b := Nat.not_le.mpr hbl
  have hc0 : 28 + 2 * k ≤ 140 := by omega
  have hs0 : 942 + 12 * k ≤ 1822 := by omega
  have hc1 : 28 + 2 * k + 1 ≤ 140 := by omega
  have hs1 : 942 + 12 * k + 6 ≤ 1822 := by omega
  have hc2 : 28 + 2 * k + 2 ≤ 140 := by omega
  have hs2 : 942 + 12 * k + 12 ≤ 1822 := by omega
  intro H locs hP hS ls hl
  unfold fL_law_J97 at hf
  refine lv_istore (lv' := [(6, .int y0), (0, .ref b), (1, .ref (q 0)), (2, .ref (q 14)), (3, .int x3), (4, .int x4)]) hx hb dL_law_97 hl (by decide) rfl (fun ls hl => ?_)
  refine lv_aload_n hx hb dL_law_99 rfl (lv_at hl 2 rfl) ?_
  obtain ⟨r100, hc, hf⟩ := bn_some hf
  try dsimp only at hf
  refine g_call0 (ws' := (w_0_1_2_3_4_5_6_7_8_9_10_11_12_13_14_15_16_17_18_19_20_21_22_23_24_25_26_27 q cI cJ cD Tn Ta Fn Fa Ba Rn Ra Rb Rd Ua Wg Wz Ww Wr QTn QTa QFn QFa QBa QRn QRa QRb QRd QUa QWg QWz QWw QWr)) (st1 := [.int r100]) hq [0, 1, 2, 3, 4, 5, 6, 7, 8, 9, 10, 11, 12, 13, 14, 15, 16, 17, 18, 19, 20, 21, 22, 23, 24, 25, 26, 27] [0, 1] [.inl 0, .inl 1, .inr 2, .inr 3, .inr 4, .inr 5, .inr 6, .inr 7, .inr 8, .inr 9, .inr 10, .inr 11, .inr 12, .inr 13, .inr 14, .inr 15, .inr 16, .inr 17, .inr 18, .inr 19, .inr 20, .inr 21, .inr 22, .inr 23, .inr 24, .inr 25, .inr 26, .inr 27] (va_runV (As := []) (rest := []) ⟨hx, hb, hml, hown, hts⟩ (kX8_length l D cI cJ cD q hq.o N Tn r100 hc) (cwV 0 hts gL_law_X8_length rfl rfl rfl (by decide +kernel) ⟨(Nat.le_of_ble_eq_true rfl), (Nat.le_of_ble_eq_true rfl)⟩) ⟨gP_blind, va_recv hE.1 hP (ci := 6) (q0 := 0) rfl rfl, fun U hU hW => ⟨rfl, by rw [hU]; exact hP.sub (ws' := (w_0_1 q cI cJ cD Tn)) [0, 1] rfl, gEv.warm hW hE⟩⟩ rfl rfl hl.1 rfl (lv_room (Nat.le_of_ble_eq_true rfl)) dL_law_100 ⟨hc2, hs2⟩) hP hS (gSubL hqA rfl) rfl rfl rfl rfl rfl (fun H locs hP hS => ?_)
  refine lv_if_ne (tgt := 110) hx hb dL_law_103 (by decide) (fun c_1 => ?_) (fun c_1 => ?_)
  · have hf := (if_neg c_1).symm.trans hf
    refine lv_iload hx hb dL_law_110 (lv_at hl 0 rfl) ?_
    refine lv_iconst (v := (1 : Int32)) hx hb dL_law_112 (by decide) ?_
    refine lv_iadd hx hb dL_law_113 ?_
    refine lv_iload hx hb dL_law_114 (lv_at hl 5 rfl) ?_
    refine lv_bipush (v := (11 : Int32)) hx hb dL_law_116 (by decide) ?_
    refine lv_ishr hx hb dL_law_118 ?_
    refine lv_aload_n hx hb dL_law_119 rfl (lv_at hl 2 rfl) ?_
    obtain ⟨r120, hc, hf⟩ := bn_some hf
    try dsimp only at hf
    refine g_call0 (ws' := (w_0_1_2_3_4_5_6_7_8_9_10_11_12_13_14_15_16_17_18_19_20_21_22_23_24_25_26_27 q cI cJ cD Tn Ta Fn Fa Ba Rn Ra Rb Rd Ua Wg Wz Ww Wr QTn QTa QFn QFa QBa QRn QRa QRb QRd QUa QWg QWz QWw QWr)) (st1 := [.int r120, .int (x4 >>> ((11 : Int32) &&& 31)), .int (y0 + (1 : Int32))]) hq [0, 1, 2, 3, 4, 5, 6, 7, 8, 9, 10, 11, 12, 13, 14, 15, 16, 17, 18, 19, 20, 21, 22, 23, 24, 25, 26, 27] [0, 1] [.inl 0, .inl 1, .inr 2, .inr 3, .inr 4, .inr 5, .inr 6, .inr 7, .inr 8, .inr 9, .inr 10, .inr 11, .inr 12, .inr 13, .inr 14, .inr 15, .inr 16, .inr 17, .inr 18, .inr 19, .inr 20, .inr 21, .inr 22, .inr 23, .inr 24, .inr 25, .inr 26, .inr 27] (va_runV (As := []) (rest := [.int (x4 >>> ((11 : Int32) &&& 31)), .int (y0 + (1 : Int32))]) ⟨hx, hb, hml, hown, hts⟩ (kX8_length l D cI cJ cD q hq.o N Tn r120 hc) (cwV 0 hts gL_law_X8_length rfl rfl rfl (by decide +kernel) ⟨(Nat.le_of_ble_eq_true rfl), (Nat.le_of_ble_eq_true rfl)⟩) ⟨gP_blind, va_recv hE.1 hP (ci := 6) (q0 := 0) rfl rfl, fun U hU hW => ⟨rfl, by rw [hU]; exact hP.sub (ws' := (w_0_1 q cI cJ cD Tn)) [0, 1] rfl, gEv.warm hW hE⟩⟩ rfl rfl hl.1 rfl (lv_room (Nat.le_of_ble_eq_true rfl)) dL_law_120 ⟨hc2, hs2⟩) hP hS (gSubL hqA rfl) rfl rfl rfl rfl rfl (fun H locs hP hS => ?_)
    refine lv_iload hx hb dL_law_123 (lv_at hl 0 rfl) ?_
    refine lv_isub hx hb dL_law_125 ?_
    obtain ⟨r126, hc, hf⟩ := bn_some hf
    try dsimp only at hf
    refine g_call0 (ws' := (w_0_1_2_3_4_5_6_7_8_9_10_11_12_13_14_15_16_17_18_19_20_21_22_23_24_25_26_27 q cI cJ cD Tn Ta Fn Fa Ba Rn Ra Rb Rd Ua Wg Wz Ww Wr QTn QTa QFn QFa QBa QRn QRa QRb QRd QUa QWg QWz QWw QWr)) (st1 := [.int r126, .int (y0 + (1 : Int32))]) hq [0, 1, 2, 3, 4, 5, 6, 7, 8, 9, 10, 11, 12, 13, 14, 15, 16, 17, 18, 19, 20, 21, 22, 23, 24, 25, 26, 27] [] [.inr 0, .inr 1, .inr 2, .inr 3, .inr 4, .inr 5, .inr 6, .inr 7, .inr 8, .inr 9, .inr 10, .inr 11, .inr 12, .inr 13, .inr 14, .inr 15, .inr 16, .inr 17, .inr 18, .inr 19, .inr 20, .inr 21, .inr 22, .inr 23, .inr 24, .inr 25, .inr 26, .inr 27] (va_runS (As := [.int (x4 >>> ((11 : Int32) &&& 31)), .int (r120 - y0)]) (rest := [.int (y0 + (1 : Int32))]) ⟨hx, hb, hml, hown, hts⟩ (kL_low l D cI cJ cD q hq.o N (x4 >>> ((11 : Int32) &&& 31)) (r120 - y0) r126 hc) (va_cwS 2 hts gL_law_L_low rfl rfl rfl (by decide +kernel) ⟨(Nat.le_of_ble_eq_true rfl), (Nat.le_of_ble_eq_true rfl)⟩) ⟨gP_blind, fun U hU hW => ⟨rfl, by rw [hU]; exact hP.sub (ws' := (w_0none q cI cJ cD)) [] rfl, gEv.warm hW hE⟩⟩ rfl rfl hl.1 rfl (lv_room (Nat.le_of_ble_eq_true rfl)) dL_law_126 ⟨hc2, hs2⟩) hP hS (gSubL hqA rfl) rfl rfl rfl rfl rfl (fun H locs hP hS => ?_)
    refine lv_iadd hx hb dL_law_129 ?_
    exact law_J130 hL C0 hlt D cI cJ cD sa q hq hqA hE hXe N QUa k h5 k18 ih Tn Ta Fn Fa Ba Rn Ra Rb Rd Ua Wg Wz Ww Wr QTn QTa QFn QFa QBa QRn QRa QRb QRd QWg QWz QWw QWr x3 y0 ((y0 + (1 : Int32)) + r126) hx3 hf _ _ hP hS _ (lv_sub hl [1, 2, 3, 4, 0] rfl)
  · have hf := (if_pos c_1).symm.trans hf
    refine lv_iconst (v := (0 : Int32)) hx hb dL_law_106 (by decide) ?_
    refine lv_goto (tgt := 130) hx hb dL_law_107 (by decide) ?_
    exact law_J130 hL C0 hlt D cI cJ cD sa q hq hqA hE hXe N QUa k h5 k18 ih Tn Ta Fn Fa Ba Rn Ra Rb Rd Ua Wg Wz Ww Wr QTn QTa QFn QFa QBa QRn QRa QRb QRd QWg QWz QWw QWr x3 y0 (0 : Int32) hx3 hf _ _ hP hS _ (lv_sub hl [1, 2, 3, 4, 0] rfl)
set_option maxHeartbeats 4000000 in
set_option maxRecDepth 100000 in
theorem law_J57 {p : Program} {l : Launch} {e : Env} {s : State} {m : MethodId} {below : List Frame} {meth : Method} {c : Code} {b L : Nat} {xs : Nat → Int32} (hL : L ≤ 260) (C0 : lw_At p s m meth c b L xs) (hlt : l.stackTraces = false) (D : va_G) (cI cJ cD : ClassId) (sa : Nat → Nat) (q : Nat → Nat) (hq : gInj 28 q) (hqA : ∀ k, k < 28 → s.heap.size ≤ q k) (hE : gEv D cI cJ cD s) (hXe : gXe sa (fun a => s.heap.size ≤ a) s s.heap) (N : Nat) (QUa : (Nat → Int32)) (k : Nat) (h5 : k + 1 ≤ 48) (k18 : Int32 → (Nat → Int32) → Int32 → (Nat → Int32) → (Nat → Int32) → Int32 → (Nat → Int32) → (Nat → Int32) → (Nat → Int32) → (Nat → Int32) → Int32 → Int32 → Int32 → Int32 → Int32 → (Nat → Int32) → Int32 → (Nat → Int32) → (Nat → Int32) → Int32 → (Nat → Int32) → (Nat → Int32) → (Nat → Int32) → Int32 → Int32 → Int32 → Int32 → Int32 → Option Int32) (ih : lawIH p l e s m below meth c b D cI cJ cD q QUa k k18) (Tn : Int32) (Ta : (Nat → Int32)) (Fn : Int32) (Fa : (Nat → Int32)) (Ba : (Nat → Int32)) (Rn : Int32) (Ra : (Nat → Int32)) (Rb : (Nat → Int32)) (Rd : (Nat → Int32)) (Ua : (Nat → Int32)) (Wg : Int32) (Wz : Int32) (Ww : Int32) (Wr : Int32) (QTn : Int32) (QTa : (Nat → Int32)) (QFn : Int32) (QFa : (Nat → Int32)) (QBa : (Nat → Int32)) (QRn : Int32) (QRa : (Nat → Int32)) (QRb : (Nat → Int32)) (QRd : (Nat → Int32)) (QWg : Int32) (QWz : Int32) (QWw : Int32) (QWr : Int32) (x3 : Int32) (x4 : Int32) (hx3 : x3 = nI k) (hf : fL_law_J57 N L xs QUa k18 Tn Ta Fn Fa Ba Rn Ra Rb Rd Ua Wg Wz Ww Wr QTn QTa QFn QFa QBa QRn QRa QRb QRd QWg QWz QWw QWr x3 x4 = some 1) : ∀ (H : Heap) (locs : List Loc), va_P D vwCl (w_0_1_2_3_4_5_6_7_8_9_10_11_12_13_14_15_16_17_18_19_20_21_22_23_24_25_26_27 q cI cJ cD Tn Ta Fn Fa Ba Rn Ra Rb Rd Ua Wg Wz Ww Wr QTn QTa QFn QFa QBa QRn QRa QRb QRd QUa QWg QWz QWw QWr) H → va_S (fun a : Nat => s.heap.size ≤ a) s.heap H locs → ∀ ls : Array Slot, lv_has ls 8 [(0, .ref b), (1, .ref (q 0)), (2, .ref (q 14)), (3, .int x3), (4, .int x4)] → W p l e room_1 s m #[Value.ref b] below meth c H locs (28 + 2 * k + 2) (942 + 12 * k + 12) (lw_Z below #[Value.ref b] s) (F0 m 57 ls []) := by
  obtain ⟨hx, hb, hr, hml, hown, hts0, hX, hbl, hlocks, hgv⟩ := id C0
  have hown : s.vm.findClass RL = some m.cls := hown
  have hts : ∀ w ∈ wsL_law, w.before #[Value.ref b] s = true := fun w h => hts0 w (wsL_law_in w h)
  have hbA : ¬ (fun a : Nat => s.heap.size ≤ a) b := Nat.not_le.mpr hbl
  have hc0 : 28 + 2 * k ≤ 140 := by omega
  have hs0 : 942 + 12 * k ≤ 1822 := by omega
  have hc1 : 28 + 2 * k + 1 ≤ 140 := by omega
  have hs1 : 942 + 12 * k + 6 ≤ 1822 := by omega
  have hc2 : 28 + 2 * k + 2 ≤ 140 := by omega
  have hs2 : 942 + 12 * k + 12 ≤ 1822 := by omega
  intro H locs hP hS ls hl
  unfold fL_law_J57 at hf
  refine lv_aload_n hx hb dL_law_57 rfl (lv_at hl 1 rfl) ?_
  refine lv_aload_n hx hb dL_law_58 rfl (lv_at hl 2 rfl) ?_
  obtain ⟨⟨r59, Fn59, Fa59, Rn59, Ra59, Rb59, Rd59, QFn59, QFa59, QRn59, QRa59, QRb59, QRd59⟩, hc, hf⟩ := bn_some hf
  try dsimp only at hf
  refine g_call0 (ws' := (w_0_1_2_3_4_5_6_7_8_9_10_11_12_13_14_15_16_17_18_19_20_21_22_23_24_25_26_27 q cI cJ cD Tn Ta Fn59 Fa59 Ba Rn59 Ra59 Rb59 Rd59 Ua Wg Wz Ww Wr QTn QTa QFn59 QFa59 QBa QRn59 QRa59 QRb59 QRd59 QUa QWg QWz QWw QWr)) (st1 := [.int r59]) hq [0, 1, 2, 3, 4, 5, 6, 7, 8, 9, 10, 11, 12, 13, 14, 15, 16, 17, 18, 19, 20, 21, 22, 23, 24, 25, 26, 27] [0, 1, 2, 3, 4, 7, 8, 9, 10, 14, 15, 16, 17, 18, 21, 22, 23, 24] [.inl 0, .inl 1, .inl 2, .inl 3, .inl 4, .inr 5, .inr 6, .inl 5, .inl 6, .inl 7, .inl 8, .inr 11, .inr 12, .inr 13, .inl 9, .inl 10, .inl 11, .inl 12, .inl 13, .inr 19, .inr 20, .inl 14, .inl 15, .inl 16, .inl 17, .inr 25, .inr 26, .inr 27] (va_runS (As := [.ref (q 0), .ref (q 14)]) (rest := []) ⟨hx, hb, hml, hown, hts⟩ (kL_areAlike l D cI cJ cD q hq N Tn Ta Fn Fa Rn Ra Rb Rd QTn QTa QFn QFa QRn QRa QRb QRd r59 Fn59 Fa59 Rn59 Ra59 Rb59 Rd59 QFn59 QFa59 QRn59 QRa59 QRb59 QRd59 hc) (va_cwS 2 hts gL_law_L_areAlike rfl rfl rfl (by decide +kernel) ⟨(Nat.le_of_ble_eq_true rfl), (Nat.le_of_ble_eq_true rfl)⟩) ⟨gP_blind, fun U hU hW => ⟨rfl, by rw [hU]; exact hP.sub (ws' := (w_0_1_2_3_4_7_8_9_10_14_15_16_17_18_21_22_23_24 q cI cJ cD Tn Ta Fn Fa Rn Ra Rb Rd QTn QTa QFn QFa QRn QRa QRb QRd)) [0, 1, 2, 3, 4, 7, 8, 9, 10, 14, 15, 16, 17, 18, 21, 22, 23, 24] rfl, gEv.warm hW hE⟩⟩ rfl rfl hl.1 rfl (lv_room (Nat.le_of_ble_eq_true rfl)) dL_law_59 ⟨hc2, hs2⟩) hP hS (gSubL hqA rfl) rfl rfl rfl rfl rfl (fun H locs hP hS => ?_)
  refine lv_if_eq (tgt := 72) hx hb dL_law_62 (by decide) (fun c_1 => ?_) (fun c_1 => ?_)
  · have hf := (if_pos c_1).symm.trans hf
    exact law_J72 hL C0 hlt D cI cJ cD sa q hq hqA hE hXe N QUa k (by omega) Tn Ta Fn59 Fa59 Ba Rn59 Ra59 Rb59 Rd59 Ua Wg Wz Ww Wr QTn QTa QFn59 QFa59 QBa QRn59 QRa59 QRb59 QRd59 QWg QWz QWw QWr hf _ _ hP hS _ (lv_sub hl [] rfl)
  · have hf := (if_neg c_1).symm.trans hf
    refine lv_aload_n hx hb dL_law_65 rfl (lv_at hl 1 rfl) ?_
    obtain ⟨⟨r66, Fn66, Fa66⟩, hc, hf⟩ := bn_some hf
    try dsimp only at hf
    refine g_call0 (ws' := (w_0_1_2_3_4_5_6_7_8_9_10_11_12_13_14_15_16_17_18_19_20_21_22_23_24_25_26_27 q cI cJ cD Tn Ta Fn66 Fa66 Ba Rn59 Ra59 Rb59 Rd59 Ua Wg Wz Ww Wr QTn QTa QFn59 QFa59 QBa QRn59 QRa59 QRb59 QRd59 QUa QWg QWz QWw QWr)) (st1 := [.int r66]) hq [0, 1, 2, 3, 4, 5, 6, 7, 8, 9, 10, 11, 12, 13, 14, 15, 16, 17, 18, 19, 20, 21, 22, 23, 24, 25, 26, 27] [0, 1, 2, 3, 4] [.inl 0, .inl 1, .inl 2, .inl 3, .inl 4, .inr 5, .inr 6, .inr 7, .inr 8, .inr 9, .inr 10, .inr 11, .inr 12, .inr 13, .inr 14, .inr 15, .inr 16, .inr 17, .inr 18, .inr 19, .inr 20, .inr 21, .inr 22, .inr 23, .inr 24, .inr 25, .inr 26, .inr 27] (va_runS (As := [.ref (q 0)]) (rest := []) ⟨hx, hb, hml, hown, hts⟩ (kL_areFactorsSo l D cI cJ cD q hq.o N Tn Ta Fn59 Fa59 r66 Fn66 Fa66 hc) (va_cwS 1 hts gL_law_L_areFactorsSo rfl rfl rfl (by decide +kernel) ⟨(Nat.le_of_ble_eq_true rfl), (Nat.le_of_ble_eq_true rfl)⟩) ⟨gP_blind, fun U hU hW => ⟨rfl, by rw [hU]; exact hP.sub (ws' := (w_0_1_2_3_4 q cI cJ cD Tn Ta Fn59 Fa59)) [0, 1, 2, 3, 4] rfl, gEv.warm hW hE⟩⟩ rfl rfl hl.1 rfl (lv_room (Nat.le_of_ble_eq_true rfl)) dL_law_66 ⟨hc2, hs2⟩) hP hS (gSubL hqA rfl) rfl rfl rfl rfl rfl (fun H locs hP hS => ?_)
    refine lv_if_ne (tgt := 74) hx hb dL_law_69 (by decide) (fun c_2 => ?_) (fun c_2 => ?_)
    · have hf := (if_neg c_2).symm.trans hf
      refine lv_aload_n hx hb dL_law_74 rfl (lv_at hl 1 rfl) ?_
      obtain ⟨r75, hc, hf⟩ := bn_some hf
      try dsimp only at hf
      refine g_call0 (ws' := (w_0_1_2_3_4_5_6_7_8_9_10_11_12_13_14_15_16_17_18_19_20_21_22_23_24_25_26_27 q cI cJ cD Tn Ta Fn66 Fa66 Ba Rn59 Ra59 Rb59 Rd59 Ua Wg Wz Ww Wr QTn QTa QFn59 QFa59 QBa QRn59 QRa59 QRb59 QRd59 QUa QWg QWz QWw QWr)) (st1 := [.int r75]) hq [0, 1, 2, 3, 4, 5, 6, 7, 8, 9, 10, 11, 12, 13, 14, 15, 16, 17, 18, 19, 20, 21, 22, 23, 24, 25, 26, 27] [0, 1] [.inl 0, .inl 1, .inr 2, .inr 3, .inr 4, .inr 5, .inr 6, .inr 7, .inr 8, .inr 9, .inr 10, .inr 11, .inr 12, .inr 13, .inr 14, .inr 15, .inr 16, .inr 17, .inr 18, .inr 19, .inr 20, .inr 21, .inr 22, .inr 23, .inr 24, .inr 25, .inr 26, .inr 27] (va_runV (As := []) (rest := []) ⟨hx, hb, hml, hown, hts⟩ (kX8_length l D cI cJ cD q hq.o N Tn r75 hc) (cwV 0 hts gL_law_X8_length rfl rfl rfl (by decide +kernel) ⟨(Nat.le_of_ble_eq_true rfl), (Nat.le_of_ble_eq_true rfl)⟩) ⟨gP_blind, va_recv hE.1 hP (ci := 6) (q0 := 0) rfl rfl, fun U hU hW => ⟨rfl, by rw [hU]; exact hP.sub (ws' := (w_0_1 q cI cJ cD Tn)) [0, 1] rfl, gEv.warm hW hE⟩⟩ rfl rfl hl.1 rfl (lv_room (Nat.le_of_ble_eq_true rfl)) dL_law_75 ⟨hc2, hs2⟩) hP hS (gSubL hqA rfl) rfl rfl rfl rfl rfl (fun H locs hP hS => ?_)
      refine lv_if_ne (tgt := 85) hx hb dL_law_78 (by decide) (fun c_3 => ?_) (fun c_3 => ?_)
      · have hf := (if_neg c_3).symm.trans hf
        refine lv_iload hx hb dL_law_85 (lv_at hl 4 rfl) ?_
        refine lv_bipush (v := (6 : Int32)) hx hb dL_law_87 (by decide) ?_
        refine lv_ishr hx hb dL_law_89 ?_
        refine lv_aload_n hx hb dL_law_90 rfl (lv_at hl 1 rfl) ?_
        obtain ⟨r91, hc, hf⟩ := bn_some hf
        try dsimp only at hf
        refine g_call0 (ws' := (w_0_1_2_3_4_5_6_7_8_9_10_11_12_13_14_15_16_17_18_19_20_21_22_23_24_25_26_27 q cI cJ cD Tn Ta Fn66 Fa66 Ba Rn59 Ra59 Rb59 Rd59 Ua Wg Wz Ww Wr QTn QTa QFn59 QFa59 QBa QRn59 QRa59 QRb59 QRd59 QUa QWg QWz QWw QWr)) (st1 := [.int r91, .int (x4 >>> ((6 : Int32) &&& 31))]) hq [0, 1, 2, 3, 4, 5, 6, 7, 8, 9, 10, 11, 12, 13, 14, 15, 16, 17, 18, 19, 20, 21, 22, 23, 24, 25, 26, 27] [0, 1] [.inl 0, .inl 1, .inr 2, .inr 3, .inr 4, .inr 5, .inr 6, .inr 7, .inr 8, .inr 9, .inr 10, .inr 11, .inr 12, .inr 13, .inr 14, .inr 15, .inr 16, .inr 17, .inr 18, .inr 19, .inr 20, .inr 21, .inr 22, .inr 23, .inr 24, .inr 25, .inr 26, .inr 27] (va_runV (As := []) (rest := [.int (x4 >>> ((6 : Int32) &&& 31))]) ⟨hx, hb, hml, hown, hts⟩ (kX8_length l D cI cJ cD q hq.o N Tn r91 hc) (cwV 0 hts gL_law_X8_length rfl rfl rfl (by decide +kernel) ⟨(Nat.le_of_ble_eq_true rfl), (Nat.le_of_ble_eq_true rfl)⟩) ⟨gP_blind, va_recv hE.1 hP (ci := 6) (q0 := 0) rfl rfl, fun U hU hW => ⟨rfl, by rw [hU]; exact hP.sub (ws' := (w_0_1 q cI cJ cD Tn)) [0, 1] rfl, gEv.warm hW hE⟩⟩ rfl rfl hl.1 rfl (lv_room (Nat.le_of_ble_eq_true rfl)) dL_law_91 ⟨hc2, hs2⟩) hP hS (gSubL hqA rfl) rfl rfl rfl rfl rfl (fun H locs hP hS => ?_)
        obtain ⟨r94, hc, hf⟩ := bn_some hf
        try dsimp only at hf
        refine g_call0 (ws' := (w_0_1_2_3_4_5_6_7_8_9_10_11_12_13_14_15_16_17_18_19_20_21_22_23_24_25_26_27 q cI cJ cD Tn Ta Fn66 Fa66 Ba Rn59 Ra59 Rb59 Rd59 Ua Wg Wz Ww Wr QTn QTa QFn59 QFa59 QBa QRn59 QRa59 QRb59 QRd59 QUa QWg QWz QWw QWr)) (st1 := [.int r94]) hq [0, 1, 2, 3, 4, 5, 6, 7, 8, 9, 10, 11, 12, 13, 14, 15, 16, 17, 18, 19, 20, 21, 22, 23, 24, 25, 26, 27] [] [.inr 0, .inr 1, .inr 2, .inr 3, .inr 4, .inr 5, .inr 6, .inr 7, .inr 8, .inr 9, .inr 10, .inr 11, .inr 12, .inr 13, .inr 14, .inr 15, .inr 16, .inr 17, .inr 18, .inr 19, .inr 20, .inr 21, .inr 22, .inr 23, .inr 24, .inr 25, .inr 26, .inr 27] (va_runS (As := [.int (x4 >>> ((6 : Int32) &&& 31)), .int r91]) (rest := []) ⟨hx, hb, hml, hown, hts⟩ (kL_low l D cI cJ cD q hq.o N (x4 >>> ((6 : Int32) &&& 31)) r91 r94 hc) (va_cwS 2 hts gL_law_L_low rfl rfl rfl (by decide +kernel) ⟨(Nat.le_of_ble_eq_true rfl), (Nat.le_of_ble_eq_true rfl)⟩) ⟨gP_blind, fun U hU hW => ⟨rfl, by rw [hU]; exact hP.sub (ws' := (w_0none q cI cJ cD)) [] rfl, gEv.warm hW hE⟩⟩ rfl rfl hl.1 rfl (lv_room (Nat.le_of_ble_eq_true rfl)) dL_law_94 ⟨hc2, hs2⟩) hP hS (gSubL hqA rfl) rfl rfl rfl rfl rfl (fun H locs hP hS => ?_)
        exact law_J97 hL C0 hlt D cI cJ cD sa q hq hqA hE hXe N QUa k h5 k18 ih Tn Ta Fn66 Fa66 Ba Rn59 Ra59 Rb59 Rd59 Ua Wg Wz Ww Wr QTn QTa QFn59 QFa59 QBa QRn59 QRa59 QRb59 QRd59 QWg QWz QWw QWr x3 x4 r94 hx3 hf _ _ hP hS _ (lv_sub hl [0, 1, 2, 3, 4] rfl)
      · have hf := (if_pos c_3).symm.trans hf
        refine lv_iconst (v := (0 : Int32)) hx hb dL_law_81 (by decide) ?_
        refine lv_goto (tgt := 97) hx hb dL_law_82 (by decide) ?_
        exact law_J97 hL C0 hlt D cI cJ cD sa q hq hqA hE hXe N QUa k h5 k18 ih Tn Ta Fn66 Fa66 Ba Rn59 Ra59 Rb59 Rd59 Ua Wg Wz Ww Wr QTn QTa QFn59 QFa59 QBa QRn59 QRa59 QRb59 QRd59 QWg QWz QWw QWr x3 x4 (0 : Int32) hx3 hf _ _ hP hS _ (lv_sub hl [0, 1, 2, 3, 4] rfl)
    · have hf := (if_pos c_2).symm.trans hf
      exact law_J72 hL C0 hlt D cI cJ cD sa q hq hqA hE hXe N QUa k (by omega) Tn Ta Fn66 Fa66 Ba Rn59 Ra59 Rb59 Rd59 Ua Wg Wz Ww Wr QTn QTa QFn59 QFa59 QBa QRn59 QRa59 QRb59 QRd59 QWg QWz QWw QWr hf _ _ hP hS _ (lv_sub hl [] rfl)
set_option maxHeartbeats 4000000 in
set_option maxRecDepth 100000 in
theorem law_B18 {p : Program} {l : Launch} {e : Env} {s : State} {m : MethodId} {below : List Frame} {meth : Method} {c : Code} {b L : Nat} {xs : Nat → Int32} (hL : L ≤ 260) (C0 : lw_At p s m meth c b L xs) (hlt : l.stackTraces = false) (D : va_G) (cI cJ cD : ClassId) (sa : Nat → Nat) (q : Nat → Nat) (hq : gInj 28 q) (hqA : ∀ k, k < 28 → s.heap.size ≤ q k) (hE : gEv D cI cJ cD s) (hXe : gXe sa (fun a => s.heap.size ≤ a) s s.heap) (N : Nat) (QUa : (Nat → Int32)) (k : Nat) (hk : k ≤ 48) (k18 : Int32 → (Nat → Int32) → Int32 → (Nat → Int32) → (Nat → Int32) → Int32 → (Nat → Int32) → (Nat → Int32) → (Nat → Int32) → (Nat → Int32) → Int32 → Int32 → Int32 → Int32 → Int32 → (Nat → Int32) → Int32 → (Nat → Int32) → (Nat → Int32) → Int32 → (Nat → Int32) → (Nat → Int32) → (Nat → Int32) → Int32 → Int32 → Int32 → Int32 → Int32 → Option Int32) (ih0 : k + 1 ≤ 48 → lawIH p l e s m below meth c b D cI cJ cD q QUa k k18) (Tn : Int32) (Ta : (Nat → Int32)) (Fn : Int32) (Fa : (Nat → Int32)) (Ba : (Nat → Int32)) (Rn : Int32) (Ra : (Nat → Int32)) (Rb : (Nat → Int32)) (Rd : (Nat → Int32)) (Ua : (Nat → Int32)) (Wg : Int32) (Wz : Int32) (Ww : Int32) (Wr : Int32) (QTn : Int32) (QTa : (Nat → Int32)) (QFn : Int32) (QFa : (Nat → Int32)) (QBa : (Nat → Int32)) (QRn : Int32) (QRa : (Nat → Int32)) (QRb : (Nat → Int32)) (QRd : (Nat → Int32)) (QWg : Int32) (QWz : Int32) (QWw : Int32) (QWr : Int32) (x3 : Int32) (hx3 : x3 = nI k) (hf : fL_law_B18 N L xs QUa k18 Tn Ta Fn Fa Ba Rn Ra Rb Rd Ua Wg Wz Ww Wr QTn QTa QFn QFa QBa QRn QRa QRb QRd QWg QWz QWw QWr x3 = some 1) : ∀ (H : Heap) (locs : List Loc), va_P D vwCl (w_0_1_2_3_4_5_6_7_8_9_10_11_12_13_14_15_16_17_18_19_20_21_22_23_24_25_26_27 q cI cJ cD Tn Ta Fn Fa Ba Rn Ra Rb Rd Ua Wg Wz Ww Wr QTn QTa QFn QFa QBa QRn QRa QRb QRd QUa QWg QWz QWw QWr) H → va_S (fun a : Nat => s.heap.size ≤ a) s.heap H locs → ∀ ls : Array Slot, lv_has ls 8 [(0, .ref b), (1, .ref (q 0)), (2, .ref (q 14)), (3, .int x3)] → W p l e room_1 s m #[Value.ref b] below meth c H locs (28 + 2 * k) (942 + 12 * k) (lw_Z below #[Value.ref b] s) (F0 m 18 ls []) := by
  obtain ⟨hx, hb, hr, hml, hown, hts0, hX, hbl, hlocks, hgv⟩ := id C0
  have hown : s.vm.findClass RL = some m.cls := hown
  have hts : ∀ w ∈ wsL_law, w.before #[Value.ref b] s = true := fun w h => hts0 w (wsL_law_in w h)
  have hbA : ¬ (fun a : Nat => s.heap.size ≤ a) b := Nat.not_le.mpr hbl
  intro H locs hP hS ls hl
  unfold fL_law_B18 at hf
  refine lv_iload_n hx hb dL_law_18 rfl (lv_at hl 3 rfl) ?_
  refine lv_bipush (v := (48 : Int32)) hx hb dL_law_19 (by decide) ?_
  refine lv_icmp_ge (tgt := 194) hx hb dL_law_21 (by decide) (fun c_1 => ?_) (fun c_1 => ?_)
  · have hf := (if_pos c_1).symm.trans hf
    exact law_J194 hL C0 hlt D cI cJ cD sa q hq hqA hE hXe N QUa k (by omega) Tn Ta Fn Fa Ba Rn Ra Rb Rd Ua Wg Wz Ww Wr QTn QTa QFn QFa QBa QRn QRa QRb QRd QWg QWz QWw QWr hf _ _ hP hS _ (lv_sub hl [] rfl)
  have hf := (if_neg c_1).symm.trans hf
  have h5 : k + 1 ≤ 48 := law_lt hk (by rw [← hx3]; exact c_1)
  have ih := ih0 h5
  have hc0 : 28 + 2 * k ≤ 140 := by omega
  have hs0 : 942 + 12 * k ≤ 1822 := by omega
  have hc1 : 28 + 2 * k + 1 ≤ 140 := by omega
  have hs1 : 942 + 12 * k + 6 ≤ 1822 := by omega
  have hc2 : 28 + 2 * k + 2 ≤ 140 := by omega
  have hs2 : 942 + 12 * k + 12 ≤ 1822 := by omega
  refine lv_aload_n hx hb dL_law_24 rfl (lv_at hl 0 rfl) ?_
  refine lv_iload_n hx hb dL_law_25 rfl (lv_at hl 3 rfl) ?_
  obtain ⟨r26, hc, hf⟩ := bn_some hf
  try dsimp only at hf
  refine g_call0 (ws' := (w_0_1_2_3_4_5_6_7_8_9_10_11_12_13_14_15_16_17_18_19_20_21_22_23_24_25_26_27 q cI cJ cD Tn Ta Fn Fa Ba Rn Ra Rb Rd Ua Wg Wz Ww Wr QTn QTa QFn QFa QBa QRn QRa QRb QRd QUa QWg QWz QWw QWr)) (st1 := [.int r26]) hq [0, 1, 2, 3, 4, 5, 6, 7, 8, 9, 10, 11, 12, 13, 14, 15, 16, 17, 18, 19, 20, 21, 22, 23, 24, 25, 26, 27] [] [.inr 0, .inr 1, .inr 2, .inr 3, .inr 4, .inr 5, .inr 6, .inr 7, .inr 8, .inr 9, .inr 10, .inr 11, .inr 12, .inr 13, .inr 14, .inr 15, .inr 16, .inr 17, .inr 18, .inr 19, .inr 20, .inr 21, .inr 22, .inr 23, .inr 24, .inr 25, .inr 26, .inr 27] (va_runS (As := [.ref b, .int x3]) (rest := []) ⟨hx, hb, hml, hown, hts⟩ (kL_cell l D q b L xs x3 r26 hc) (va_cwS 2 hts gL_law_L_cell rfl rfl rfl (by decide +kernel) ⟨(Nat.le_of_ble_eq_true rfl), (Nat.le_of_ble_eq_true rfl)⟩) ⟨gPs_blind, fun U hU hW => ⟨rfl, gPs_of hU hW hX hbl hbA hS⟩⟩ rfl rfl hl.1 rfl (lv_room (Nat.le_of_ble_eq_true rfl)) dL_law_26 ⟨hc0, hs0⟩) hP hS (gSubL hqA rfl) rfl rfl rfl rfl rfl (fun H locs hP hS => ?_)
  refine lv_istore (lv' := [(4, .int r26), (0, .ref b), (1, .ref (q 0)), (2, .ref (q 14)), (3, .int x3)]) hx hb dL_law_29 hl (by decide) rfl (fun ls hl => ?_)
  refine lv_aload_n hx hb dL_law_31 rfl (lv_at hl 2 rfl) ?_
  refine lv_iload hx hb dL_law_32 (lv_at hl 0 rfl) ?_
  obtain ⟨⟨r34, Tn34, Ta34, Wg34, Wz34, Ww34, Wr34⟩, hc, hf⟩ := bn_some hf
  try dsimp only at hf
  refine g_call (mc := 1) (ms := 6) (ws' := (w_0_1_2_3_4_5_6_7_8_9_10_11_12_13_14_15_16_17_18_19_20_21_22_23_24_25_26_27 q cI cJ cD Tn34 Ta34 Fn Fa Ba Rn Ra Rb Rd Ua Wg34 Wz34 Ww34 Wr34 QTn QTa QFn QFa QBa QRn QRa QRb QRd QUa QWg QWz QWw QWr)) (st1 := [.int r34]) hq [0, 1, 2, 3, 4, 5, 6, 7, 8, 9, 10, 11, 12, 13, 14, 15, 16, 17, 18, 19, 20, 21, 22, 23, 24, 25, 26, 27] [0, 1, 2, 13] [.inl 0, .inl 1, .inl 2, .inr 3, .inr 4, .inr 5, .inr 6, .inr 7, .inr 8, .inr 9, .inr 10, .inr 11, .inr 12, .inl 3, .inr 14, .inr 15, .inr 16, .inr 17, .inr 18, .inr 19, .inr 20, .inr 21, .inr 22, .inr 23, .inr 24, .inr 25, .inr 26, .inr 27] (va_runS (As := [.ref (q 0), .int r26]) (rest := []) ⟨hx, hb, hml, hown, hts⟩ (kL_act l hlt D cI cJ cD sa q hq.o N Tn Ta Wg Wz Ww Wr r26 r34 Tn34 Ta34 Wg34 Wz34 Ww34 Wr34 hc) (va_cwS 2 hts gL_law_L_act rfl rfl rfl (by decide +kernel) ⟨(Nat.le_of_ble_eq_true rfl), (Nat.le_of_ble_eq_true rfl)⟩) ⟨gPx_blind, fun U hU hW => ⟨rfl, by rw [hU]; exact hP.sub (ws' := (w_0_1_2_13 q cI cJ cD Tn Ta Wg Wz Ww Wr)) [0, 1, 2, 13] rfl, gEv.warm hW hE, gXe.go hW hS (fun a h => gMonoL hqA (ksc := [0, 1, 2, 13]) rfl a h) hXe hU⟩⟩ rfl rfl hl.1 rfl (lv_room (Nat.le_of_ble_eq_true rfl)) dL_law_34 ⟨hc1, hs1⟩) hP hS (gSubL hqA rfl) rfl rfl rfl rfl rfl (fun H locs hP hS => ?_)
  refine lv_istore (lv' := [(5, .int r34), (4, .int r26), (0, .ref b), (1, .ref (q 0)), (2, .ref (q 14)), (3, .int x3)]) hx hb dL_law_37 hl (by decide) rfl (fun ls hl => ?_)
  refine lv_iload hx hb dL_law_39 (lv_at hl 0 rfl) ?_
  refine lv_ldc (v := (-99999 : Int32)) hx hb hown (hts (.constant RL 16 (-99999 : Int32)) (by decide +kernel)) dL_law_41 ?_
  refine lv_icmp_eq (tgt := 57) hx hb dL_law_43 (by decide) (fun c_1 => ?_) (fun c_1 => ?_)
  · have hf := (if_pos c_1).symm.trans hf
    refine W.widen (k := 28 + 2 * k + 2) (n := 942 + 12 * k + 12) (by omega) (by omega) ?_
    exact law_J57 hL C0 hlt D cI cJ cD sa q hq hqA hE hXe N QUa k h5 k18 ih Tn34 Ta34 Fn Fa Ba Rn Ra Rb Rd Ua Wg34 Wz34 Ww34 Wr34 QTn QTa QFn QFa QBa QRn QRa QRb QRd QWg QWz QWw QWr x3 r26 hx3 hf _ _ hP hS _ (lv_sub hl [2, 3, 4, 5, 1] rfl)
  · have hf := (if_neg c_1).symm.trans hf
    refine lv_aload_n hx hb dL_law_46 rfl (lv_at hl 4 rfl) ?_
    refine lv_iload hx hb dL_law_47 (lv_at hl 1 rfl) ?_
    obtain ⟨⟨r49, QTn49, QTa49, QWg49, QWz49, QWw49, QWr49⟩, hc, hf⟩ := bn_some hf
    try dsimp only at hf
    refine g_callS (mc := 1) (ms := 6) (ws' := (w_0_1_2_3_4_5_6_7_8_9_10_11_12_13_14_15_16_17_18_19_20_21_22_23_24_25_26_27 q cI cJ cD Tn34 Ta34 Fn Fa Ba Rn Ra Rb Rd Ua Wg34 Wz34 Ww34 Wr34 QTn49 QTa49 QFn QFa QBa QRn QRa QRb QRd QUa QWg49 QWz49 QWw49 QWr49)) (st1 := [.int r49]) hq [0, 1, 2, 3, 4, 5, 6, 7, 8, 9, 10, 11, 12, 13, 14, 15, 16, 17, 18, 19, 20, 21, 22, 23, 24, 25, 26, 27] [14, 15, 16, 27] (gA_sh [0, 1, 2, 13]) [.inr 0, .inr 1, .inr 2, .inr 3, .inr 4, .inr 5, .inr 6, .inr 7, .inr 8, .inr 9, .inr 10, .inr 11, .inr 12, .inr 13, .inl 0, .inl 1, .inl 2, .inr 17, .inr 18, .inr 19, .inr 20, .inr 21, .inr 22, .inr 23, .inr 24, .inr 25, .inr 26, .inl 3] (va_runS (As := [.ref (q 14), .int r26]) (rest := []) ⟨hx, hb, hml, hown, hts⟩ (kL_act l hlt D cI cJ cD sa (sh q) hq.p N QTn QTa QWg QWz QWw QWr r26 r49 QTn49 QTa49 QWg49 QWz49 QWw49 QWr49 hc) (va_cwS 2 hts gL_law_L_act rfl rfl rfl (by decide +kernel) ⟨(Nat.le_of_ble_eq_true rfl), (Nat.le_of_ble_eq_true rfl)⟩) ⟨gPx_blind, fun U hU hW => ⟨rfl, by rw [hU]; exact hP.sub (ws' := (w_0_1_2_13 (sh q) cI cJ cD QTn QTa QWg QWz QWw QWr)) [14, 15, 16, 27] rfl, gEv.warm hW hE, gXe.go hW hS (fun a h => gMonoL hqA (ksc := [14, 15, 16, 27]) rfl a (gA_sh [0, 1, 2, 13] a h)) hXe hU⟩⟩ rfl rfl hl.1 rfl (lv_room (Nat.le_of_ble_eq_true rfl)) dL_law_49 ⟨hc2, hs2⟩) hP hS (gSubL hqA rfl) rfl rfl rfl rfl rfl (fun H locs hP hS => ?_)
    refine lv_iload hx hb dL_law_52 (lv_at hl 0 rfl) ?_
    refine lv_icmp_ne (tgt := 72) hx hb dL_law_54 (by decide) (fun c_2 => ?_) (fun c_2 => ?_)
    · have hf := (if_neg c_2).symm.trans hf
      exact law_J72 hL C0 hlt D cI cJ cD sa q hq hqA hE hXe N QUa k (by omega) Tn34 Ta34 Fn Fa Ba Rn Ra Rb Rd Ua Wg34 Wz34 Ww34 Wr34 QTn49 QTa49 QFn QFa QBa QRn QRa QRb QRd QWg49 QWz49 QWw49 QWr49 hf _ _ hP hS _ (lv_sub hl [] rfl)
    · have hf := (if_pos c_2).symm.trans hf
      exact law_J57 hL C0 hlt D cI cJ cD sa q hq hqA hE hXe N QUa k h5 k18 ih Tn34 Ta34 Fn Fa Ba Rn Ra Rb Rd Ua Wg34 Wz34 Ww34 Wr34 QTn49 QTa49 QFn QFa QBa QRn QRa QRb QRd QWg49 QWz49 QWw49 QWr49 x3 r26 hx3 hf _ _ hP hS _ (lv_sub hl [2, 3, 4, 5, 1] rfl)
set_option maxHeartbeats 4000000 in
set_option maxRecDepth 100000 in
theorem law_H18 {p : Program} {l : Launch} {e : Env} {s : State} {m : MethodId} {below : List Frame} {meth : Method} {c : Code} {b L : Nat} {xs : Nat → Int32} (hL : L ≤ 260) (C0 : lw_At p s m meth c b L xs) (hlt : l.stackTraces = false) (D : va_G) (cI cJ cD : ClassId) (sa : Nat → Nat) (q : Nat → Nat) (hq : gInj 28 q) (hqA : ∀ k, k < 28 → s.heap.size ≤ q k) (hE : gEv D cI cJ cD s) (hXe : gXe sa (fun a => s.heap.size ≤ a) s s.heap) (N : Nat) (QUa : (Nat → Int32)) : ∀ (n k : Nat) (Tn : Int32) (Ta : (Nat → Int32)) (Fn : Int32) (Fa : (Nat → Int32)) (Ba : (Nat → Int32)) (Rn : Int32) (Ra : (Nat → Int32)) (Rb : (Nat → Int32)) (Rd : (Nat → Int32)) (Ua : (Nat → Int32)) (Wg : Int32) (Wz : Int32) (Ww : Int32) (Wr : Int32) (QTn : Int32) (QTa : (Nat → Int32)) (QFn : Int32) (QFa : (Nat → Int32)) (QBa : (Nat → Int32)) (QRn : Int32) (QRa : (Nat → Int32)) (QRb : (Nat → Int32)) (QRd : (Nat → Int32)) (QWg : Int32) (QWz : Int32) (QWw : Int32) (QWr : Int32) (x3 : Int32), x3 = nI k → k ≤ 48 → fL_law_H18 N L xs QUa n Tn Ta Fn Fa Ba Rn Ra Rb Rd Ua Wg Wz Ww Wr QTn QTa QFn QFa QBa QRn QRa QRb QRd QWg QWz QWw QWr x3 = some 1 → ∀ (H : Heap) (locs : List Loc), va_P D vwCl (w_0_1_2_3_4_5_6_7_8_9_10_11_12_13_14_15_16_17_18_19_20_21_22_23_24_25_26_27 q cI cJ cD Tn Ta Fn Fa Ba Rn Ra Rb Rd Ua Wg Wz Ww Wr QTn QTa QFn QFa QBa QRn QRa QRb QRd QUa QWg QWz QWw QWr) H → va_S (fun a : Nat => s.heap.size ≤ a) s.heap H locs → ∀ ls : Array Slot, lv_has ls 8 [(0, .ref b), (1, .ref (q 0)), (2, .ref (q 14)), (3, .int x3)] → W p l e room_1 s m #[Value.ref b] below meth c H locs (28 + 2 * k) (942 + 12 * k) (lw_Z below #[Value.ref b] s) (F0 m 18 ls []) := by
  intro n
  induction n with
  | zero =>
    intro k Tn Ta Fn Fa Ba Rn Ra Rb Rd Ua Wg Wz Ww Wr QTn QTa QFn QFa QBa QRn QRa QRb QRd QWg QWz QWw QWr x3 hx3 hk hf
    exact nomatch (show (none : Option Int32) = some 1 from hf)
  | succ n ih =>
    intro k Tn Ta Fn Fa Ba Rn Ra Rb Rd Ua Wg Wz Ww Wr QTn QTa QFn QFa QBa QRn QRa QRb QRd QWg QWz QWw QWr x3 hx3 hk hf
    exact law_B18 hL C0 hlt D cI cJ cD sa q hq hqA hE hXe N QUa k hk (fL_law_H18 N L xs QUa n) (fun h5 => fun Tn Ta Fn Fa Ba Rn Ra Rb Rd Ua Wg Wz Ww Wr QTn QTa QFn QFa QBa QRn QRa QRb QRd QWg QWz QWw QWr x3 h1 h2 => ih (k + 1) Tn Ta Fn Fa Ba Rn Ra Rb Rd Ua Wg Wz Ww Wr QTn QTa QFn QFa QBa QRn QRa QRb QRd QWg QWz QWw QWr x3 h1 h5 h2) Tn Ta Fn Fa Ba Rn Ra Rb Rd Ua Wg Wz Ww Wr QTn QTa QFn QFa QBa QRn QRa QRb QRd QWg QWz QWw QWr x3 hx3 hf
