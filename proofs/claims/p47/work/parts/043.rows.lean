set_option maxHeartbeats 4000000 in
set_option maxRecDepth 100000 in
theorem kX8_longestLyndon (l : Launch) (D : va_G) (cI cJ cD : ClassId) (q : Nat → Nat) (hq : gInj 14 q) (N : Nat) (Tn : Int32) (Ta : (Nat → Int32)) (p1 : Int32) (p2 : Int32) (r0 : Int32) (hf : fX8_longestLyndon N Tn Ta p1 p2 = some (.inr r0)) : Met l yX8_longestLyndon wsX8_longestLyndon rX8_longestLyndon (gP D cI cJ cD [.ref (q 0), .int p1, .int p2] (w_0_1_2 q cI cJ cD Tn Ta)) (gQ D (some (.int r0)) (w_0_1_2 q cI cJ cD Tn Ta) (gA q [0, 1, 2])) 0 0 (gA q [0, 1, 2]) := by
  refine Met.ofW (cc := cX8_longestLyndon) (maxL := 3) (ret := (some .int)) (by decide +kernel) rfl ?_
  intro p e s m args below meth c s₁ B hml hv
  obtain ⟨rfl, hP, hE⟩ := hv
  have hx := B.exec
  have hb := B.bytes
  have hr := B.returns
  have hts := atoms_spec (ws := wsX8_longestLyndon) B.pre
  have hown : s.vm.findClass RX8 = some m.cls := findClass_of_methodNamed B.named
  have hlocks := B.notSynchronized
  have hS : va_S (gA q [0, 1, 2]) s.heap s.heap [] := va_S.rf
  have hl := lv_entry ([.ref (q 0), .int p1, .int p2]) (n := 3) (Nat.le_of_ble_eq_true rfl)
  rw [lg_entry_eq]
  generalize (lg_sl ([.ref (q 0), .int p1, .int p2]) ++ List.replicate (3 - (lg_sl ([.ref (q 0), .int p1, .int p2])).length) Slot.unset).toArray = ls at hl ⊢
  have hl : lv_has ls 3 [(0, .ref (q 0)), (1, .int p1), (2, .int p2)] := hl
  have hk10 := hts (.fieldLink RX8 10 "LyndonText" "text" "LLyndonText$Letters;") (by decide +kernel)
  have huX8 : ∀ w ∈ u_ws RX8 TX8 6, w ∈ wsX8_longestLyndon := by decide +kernel
  unfold fX8_longestLyndon at hf
  refine lv_iload_n hx hb dX8_longestLyndon_0 rfl (lv_at hl 1 rfl) ?_
  refine lv_aload_n hx hb dX8_longestLyndon_1 rfl (lv_at hl 0 rfl) ?_
  refine va_get (D := D) (ci := 6) (v := .ref (q 1)) (C := RX8) (T := TX8) (N := 6) hx hb hts huX8 hown hE.1 hP 0 rfl rfl 0 (by decide) hk10 (fun _ h9 => h9) rfl dX8_longestLyndon_2 ?_
  obtain ⟨r5, hc, hf⟩ := bn_some hf
  try dsimp only at hf
  refine g_call0 (ws' := (w_0_1_2 q cI cJ cD Tn Ta)) (st1 := [.int r5, .int p1]) hq [0, 1, 2] [1] [.inr 0, .inl 0, .inr 2] (va_runV (As := []) (rest := [.int p1]) ⟨hx, hb, hml, hown, hts⟩ (kX2_count l D cI cJ cD q hq N Tn r5 hc) (cwV 0 hts gX8_longestLyndon_X2_count rfl rfl rfl (by decide +kernel) ⟨(Nat.le_of_ble_eq_true rfl), (Nat.le_of_ble_eq_true rfl)⟩) ⟨gP_blind, va_recv hE.1 hP (ci := 2) (q0 := 1) rfl rfl, fun U hU hW => ⟨rfl, by rw [hU]; exact hP.sub (ws' := (w_1 q cI cJ cD Tn)) [1] rfl, gEv.warm hW hE⟩⟩ rfl rfl hl.1 rfl (lv_room (Nat.le_of_ble_eq_true rfl)) dX8_longestLyndon_5 ⟨Nat.zero_le _, Nat.zero_le _⟩) hP hS (gSub rfl) rfl rfl rfl rfl rfl (fun H locs hP hS => ?_)
  rcases bx_some hf with ⟨e8, hc, hf⟩ | ⟨⟨⟩, hc, hf⟩
  · exact nomatch hf
  try dsimp only at hf
  refine g_call0 (ws' := (w_0_1_2 q cI cJ cD Tn Ta)) (st1 := []) hq [0, 1, 2] [] [.inr 0, .inr 1, .inr 2] (va_runS (As := [.int p1, .int r5]) (rest := []) ⟨hx, hb, hml, hown, hts⟩ (kX8_checkIndex l D cI cJ cD q hq N p1 r5 hc) (va_cwS 2 hts gX8_longestLyndon_X8_checkIndex rfl rfl rfl (by decide +kernel) ⟨(Nat.le_of_ble_eq_true rfl), (Nat.le_of_ble_eq_true rfl)⟩) ⟨gP_blind, fun U hU hW => ⟨rfl, by rw [hU]; exact hP.sub (ws' := (w_0none q cI cJ cD)) [] rfl, gEv.warm hW hE⟩⟩ rfl rfl hl.1 rfl (lv_room (Nat.le_of_ble_eq_true rfl)) dX8_longestLyndon_8 ⟨Nat.zero_le _, Nat.zero_le _⟩) hP hS (gSub rfl) rfl rfl rfl rfl rfl (fun H locs hP hS => ?_)
  refine lv_aload_n hx hb dX8_longestLyndon_11 rfl (lv_at hl 0 rfl) ?_
  refine va_get (D := D) (ci := 6) (v := .ref (q 1)) (C := RX8) (T := TX8) (N := 6) hx hb hts huX8 hown hE.1 hP 0 rfl rfl 0 (by decide) hk10 (fun _ h9 => h9) rfl dX8_longestLyndon_12 ?_
  refine lv_iload_n hx hb dX8_longestLyndon_15 rfl (lv_at hl 1 rfl) ?_
  refine lv_aload_n hx hb dX8_longestLyndon_16 rfl (lv_at hl 0 rfl) ?_
  refine va_get (D := D) (ci := 6) (v := .ref (q 1)) (C := RX8) (T := TX8) (N := 6) hx hb hts huX8 hown hE.1 hP 0 rfl rfl 0 (by decide) hk10 (fun _ h9 => h9) rfl dX8_longestLyndon_17 ?_
  obtain ⟨r20, hc, hf⟩ := bn_some hf
  try dsimp only at hf
  refine g_call0 (ws' := (w_0_1_2 q cI cJ cD Tn Ta)) (st1 := [.int r20, .int p1, .ref (q 1)]) hq [0, 1, 2] [1] [.inr 0, .inl 0, .inr 2] (va_runV (As := []) (rest := [.int p1, .ref (q 1)]) ⟨hx, hb, hml, hown, hts⟩ (kX2_count l D cI cJ cD q hq N Tn r20 hc) (cwV 0 hts gX8_longestLyndon_X2_count rfl rfl rfl (by decide +kernel) ⟨(Nat.le_of_ble_eq_true rfl), (Nat.le_of_ble_eq_true rfl)⟩) ⟨gP_blind, va_recv hE.1 hP (ci := 2) (q0 := 1) rfl rfl, fun U hU hW => ⟨rfl, by rw [hU]; exact hP.sub (ws' := (w_1 q cI cJ cD Tn)) [1] rfl, gEv.warm hW hE⟩⟩ rfl rfl hl.1 rfl (lv_room (Nat.le_of_ble_eq_true rfl)) dX8_longestLyndon_20 ⟨Nat.zero_le _, Nat.zero_le _⟩) hP hS (gSub rfl) rfl rfl rfl rfl rfl (fun H locs hP hS => ?_)
  refine lv_iload_n hx hb dX8_longestLyndon_23 rfl (lv_at hl 2 rfl) ?_
  obtain ⟨r24, hc, hf⟩ := bn_some hf
  try dsimp only at hf
  refine g_call0 (ws' := (w_0_1_2 q cI cJ cD Tn Ta)) (st1 := [.int r24]) hq [0, 1, 2] [1, 2] [.inr 0, .inl 0, .inl 1] (va_runS (As := [.ref (q 1), .int p1, .int r20, .int p2]) (rest := []) ⟨hx, hb, hml, hown, hts⟩ (kX1_firstLength l D cI cJ cD q hq N Tn Ta p1 r20 p2 r24 hc) (va_cwS 4 hts gX8_longestLyndon_X1_firstLength rfl rfl rfl (by decide +kernel) ⟨(Nat.le_of_ble_eq_true rfl), (Nat.le_of_ble_eq_true rfl)⟩) ⟨gP_blind, fun U hU hW => ⟨rfl, by rw [hU]; exact hP.sub (ws' := (w_1_2 q cI cJ cD Tn Ta)) [1, 2] rfl, gEv.warm hW hE⟩⟩ rfl rfl hl.1 rfl (lv_room (Nat.le_of_ble_eq_true rfl)) dX8_longestLyndon_24 ⟨Nat.zero_le _, Nat.zero_le _⟩) hP hS (gSub rfl) rfl rfl rfl rfl rfl (fun H locs hP hS => ?_)
  cases hf
  exact W.iret hx hb hr (fun t ht hW => ⟨⟨rfl, by rw [ht]; exact hP⟩, hS.F ht⟩) hS.2.2 dX8_longestLyndon_27
set_option maxHeartbeats 4000000 in
set_option maxRecDepth 100000 in
theorem kX8_longestLyndonx (l : Launch) (hlt : l.stackTraces = false) (D : va_G) (cI cJ cD : ClassId) (sa : Nat → Nat) (q : Nat → Nat) (hq : gInj 14 q) (N : Nat) (Tn : Int32) (Ta : (Nat → Int32)) (p1 : Int32) (p2 : Int32) (e0 : Nat) (hf : fX8_longestLyndon N Tn Ta p1 p2 = some (.inl e0)) : vx_Met l yX8_longestLyndon wsX8_longestLyndon rX8_longestLyndonx (gPx D cI cJ cD sa (gA q [0, 1, 2]) [.ref (q 0), .int p1, .int p2] (w_0_1_2 q cI cJ cD Tn Ta)) (fun _ _ _ _ => False) (gX D (gEn e0) (w_0_1_2 q cI cJ cD Tn Ta) (gA q [0, 1, 2])) 1 6 (gA q [0, 1, 2]) := by
  refine vx_ofW (cc := cX8_longestLyndon) (maxL := 3) (ret := (some .int)) (by decide +kernel) rfl ?_
  intro p e s m args below meth c s₁ B hml htab hv
  obtain ⟨rfl, hP, hE, hXe⟩ := hv
  have hx := B.exec
  have hb := B.bytes
  have hr := B.returns
  have hts := atoms_spec (ws := wsX8_longestLyndon) B.pre
  have hown : s.vm.findClass RX8 = some m.cls := findClass_of_methodNamed B.named
  have hlocks := B.notSynchronized
  have hS : va_S (gA q [0, 1, 2]) s.heap s.heap [] := va_S.rf
  have hl := lv_entry ([.ref (q 0), .int p1, .int p2]) (n := 3) (Nat.le_of_ble_eq_true rfl)
  rw [lg_entry_eq]
  generalize (lg_sl ([.ref (q 0), .int p1, .int p2]) ++ List.replicate (3 - (lg_sl ([.ref (q 0), .int p1, .int p2])).length) Slot.unset).toArray = ls at hl ⊢
  have hl : lv_has ls 3 [(0, .ref (q 0)), (1, .int p1), (2, .int p2)] := hl
  have hk10 := hts (.fieldLink RX8 10 "LyndonText" "text" "LLyndonText$Letters;") (by decide +kernel)
  have huX8 : ∀ w ∈ u_ws RX8 TX8 6, w ∈ wsX8_longestLyndon := by decide +kernel
  unfold fX8_longestLyndon at hf
  refine lv_iload_n hx hb dX8_longestLyndon_0 rfl (lv_at hl 1 rfl) ?_
  refine lv_aload_n hx hb dX8_longestLyndon_1 rfl (lv_at hl 0 rfl) ?_
  refine va_get (D := D) (ci := 6) (v := .ref (q 1)) (C := RX8) (T := TX8) (N := 6) hx hb hts huX8 hown hE.1 hP 0 rfl rfl 0 (by decide) hk10 (fun _ h9 => h9) rfl dX8_longestLyndon_2 ?_
  obtain ⟨r5, hc, hf⟩ := bn_some hf
  try dsimp only at hf
  refine g_call0 (ws' := (w_0_1_2 q cI cJ cD Tn Ta)) (st1 := [.int r5, .int p1]) hq [0, 1, 2] [1] [.inr 0, .inl 0, .inr 2] (va_runV (As := []) (rest := [.int p1]) ⟨hx, hb, hml, hown, hts⟩ (kX2_count l D cI cJ cD q hq N Tn r5 hc) (cwV 0 hts gX8_longestLyndon_X2_count rfl rfl rfl (by decide +kernel) ⟨(Nat.le_of_ble_eq_true rfl), (Nat.le_of_ble_eq_true rfl)⟩) ⟨gP_blind, va_recv hE.1 hP (ci := 2) (q0 := 1) rfl rfl, fun U hU hW => ⟨rfl, by rw [hU]; exact hP.sub (ws' := (w_1 q cI cJ cD Tn)) [1] rfl, gEv.warm hW hE⟩⟩ rfl rfl hl.1 rfl (lv_room (Nat.le_of_ble_eq_true rfl)) dX8_longestLyndon_5 ⟨Nat.zero_le _, Nat.zero_le _⟩) hP hS (gSub rfl) rfl rfl rfl rfl rfl (fun H locs hP hS => ?_)
  rcases bx_some hf with ⟨e8, hc, hf⟩ | ⟨⟨⟩, hc, hf⟩
  · try dsimp only at hf
    refine g_callX (ws' := (w_0_1_2 q cI cJ cD Tn Ta)) hq [0, 1, 2] [] [.inr 0, .inr 1, .inr 2] (vx_runS (As := [.int p1, .int r5]) (rest := []) ⟨hx, hb, hml, hown, hts⟩ (kX8_checkIndexx l hlt D cI cJ cD sa q hq N p1 r5 e8 hc) (va_cwS 2 hts gX8_longestLyndon_X8_checkIndex rfl rfl rfl (by decide +kernel) ⟨(Nat.le_of_ble_eq_true rfl), (Nat.le_of_ble_eq_true rfl)⟩) ⟨gPx_blind, fun U hU hW => ⟨rfl, by rw [hU]; exact hP.sub (ws' := (w_0none q cI cJ cD)) [] rfl, gEv.warm hW hE, gXe.go hW hS (gMono rfl) hXe hU⟩⟩ rfl rfl hl.1 rfl (lv_room (Nat.le_of_ble_eq_true rfl)) dX8_longestLyndon_8 ⟨(Nat.le_of_ble_eq_true rfl), (Nat.le_of_ble_eq_true rfl)⟩) hP hS (gSub rfl) rfl rfl rfl rfl (fun ce q9 H locs hP hS hce hcv hcl => ?_)
    cases hf
    exact vx_out (fun x9 hx9 => (htab x9 hx9).elim) hlocks hce hcv hcl (fun t ht hv => ⟨rfl, by rw [ht]; exact hP, hS.F ht⟩) hS.2.2 (Nat.le_of_ble_eq_true rfl) (Nat.le_of_ble_eq_true rfl)
  try dsimp only at hf
  refine g_call0 (ws' := (w_0_1_2 q cI cJ cD Tn Ta)) (st1 := []) hq [0, 1, 2] [] [.inr 0, .inr 1, .inr 2] (va_runS (As := [.int p1, .int r5]) (rest := []) ⟨hx, hb, hml, hown, hts⟩ (kX8_checkIndex l D cI cJ cD q hq N p1 r5 hc) (va_cwS 2 hts gX8_longestLyndon_X8_checkIndex rfl rfl rfl (by decide +kernel) ⟨(Nat.le_of_ble_eq_true rfl), (Nat.le_of_ble_eq_true rfl)⟩) ⟨gP_blind, fun U hU hW => ⟨rfl, by rw [hU]; exact hP.sub (ws' := (w_0none q cI cJ cD)) [] rfl, gEv.warm hW hE⟩⟩ rfl rfl hl.1 rfl (lv_room (Nat.le_of_ble_eq_true rfl)) dX8_longestLyndon_8 ⟨Nat.zero_le _, Nat.zero_le _⟩) hP hS (gSub rfl) rfl rfl rfl rfl rfl (fun H locs hP hS => ?_)
  refine lv_aload_n hx hb dX8_longestLyndon_11 rfl (lv_at hl 0 rfl) ?_
  refine va_get (D := D) (ci := 6) (v := .ref (q 1)) (C := RX8) (T := TX8) (N := 6) hx hb hts huX8 hown hE.1 hP 0 rfl rfl 0 (by decide) hk10 (fun _ h9 => h9) rfl dX8_longestLyndon_12 ?_
  refine lv_iload_n hx hb dX8_longestLyndon_15 rfl (lv_at hl 1 rfl) ?_
  refine lv_aload_n hx hb dX8_longestLyndon_16 rfl (lv_at hl 0 rfl) ?_
  refine va_get (D := D) (ci := 6) (v := .ref (q 1)) (C := RX8) (T := TX8) (N := 6) hx hb hts huX8 hown hE.1 hP 0 rfl rfl 0 (by decide) hk10 (fun _ h9 => h9) rfl dX8_longestLyndon_17 ?_
  obtain ⟨r20, hc, hf⟩ := bn_some hf
  try dsimp only at hf
  refine g_call0 (ws' := (w_0_1_2 q cI cJ cD Tn Ta)) (st1 := [.int r20, .int p1, .ref (q 1)]) hq [0, 1, 2] [1] [.inr 0, .inl 0, .inr 2] (va_runV (As := []) (rest := [.int p1, .ref (q 1)]) ⟨hx, hb, hml, hown, hts⟩ (kX2_count l D cI cJ cD q hq N Tn r20 hc) (cwV 0 hts gX8_longestLyndon_X2_count rfl rfl rfl (by decide +kernel) ⟨(Nat.le_of_ble_eq_true rfl), (Nat.le_of_ble_eq_true rfl)⟩) ⟨gP_blind, va_recv hE.1 hP (ci := 2) (q0 := 1) rfl rfl, fun U hU hW => ⟨rfl, by rw [hU]; exact hP.sub (ws' := (w_1 q cI cJ cD Tn)) [1] rfl, gEv.warm hW hE⟩⟩ rfl rfl hl.1 rfl (lv_room (Nat.le_of_ble_eq_true rfl)) dX8_longestLyndon_20 ⟨Nat.zero_le _, Nat.zero_le _⟩) hP hS (gSub rfl) rfl rfl rfl rfl rfl (fun H locs hP hS => ?_)
  refine lv_iload_n hx hb dX8_longestLyndon_23 rfl (lv_at hl 2 rfl) ?_
  obtain ⟨r24, hc, hf⟩ := bn_some hf
  try dsimp only at hf
  refine g_call0 (ws' := (w_0_1_2 q cI cJ cD Tn Ta)) (st1 := [.int r24]) hq [0, 1, 2] [1, 2] [.inr 0, .inl 0, .inl 1] (va_runS (As := [.ref (q 1), .int p1, .int r20, .int p2]) (rest := []) ⟨hx, hb, hml, hown, hts⟩ (kX1_firstLength l D cI cJ cD q hq N Tn Ta p1 r20 p2 r24 hc) (va_cwS 4 hts gX8_longestLyndon_X1_firstLength rfl rfl rfl (by decide +kernel) ⟨(Nat.le_of_ble_eq_true rfl), (Nat.le_of_ble_eq_true rfl)⟩) ⟨gP_blind, fun U hU hW => ⟨rfl, by rw [hU]; exact hP.sub (ws' := (w_1_2 q cI cJ cD Tn Ta)) [1, 2] rfl, gEv.warm hW hE⟩⟩ rfl rfl hl.1 rfl (lv_room (Nat.le_of_ble_eq_true rfl)) dX8_longestLyndon_24 ⟨Nat.zero_le _, Nat.zero_le _⟩) hP hS (gSub rfl) rfl rfl rfl rfl rfl (fun H locs hP hS => ?_)
  exact nomatch hf
set_option maxHeartbeats 4000000 in
set_option maxRecDepth 100000 in
theorem kX8_standardFactor (l : Launch) (D : va_G) (cI cJ cD : ClassId) (q : Nat → Nat) (hq : gInj 14 q) (N : Nat) (Tn : Int32) (Ta : (Nat → Int32)) (p1 : Int32) (p2 : Int32) (r0 : Int32) (hf : fX8_standardFactor N Tn Ta p1 p2 = some (.inr r0)) : Met l yX8_standardFactor wsX8_standardFactor rX8_standardFactor (gP D cI cJ cD [.ref (q 0), .int p1, .int p2] (w_0_1_2 q cI cJ cD Tn Ta)) (gQ D (some (.int r0)) (w_0_1_2 q cI cJ cD Tn Ta) (gA q [0, 1, 2])) 0 0 (gA q [0, 1, 2]) := by
  refine Met.ofW (cc := cX8_standardFactor) (maxL := 4) (ret := (some .int)) (by decide +kernel) rfl ?_
  intro p e s m args below meth c s₁ B hml hv
  obtain ⟨rfl, hP, hE⟩ := hv
  have hx := B.exec
  have hb := B.bytes
  have hr := B.returns
  have hts := atoms_spec (ws := wsX8_standardFactor) B.pre
  have hown : s.vm.findClass RX8 = some m.cls := findClass_of_methodNamed B.named
  have hlocks := B.notSynchronized
  have hS : va_S (gA q [0, 1, 2]) s.heap s.heap [] := va_S.rf
  have hl := lv_entry ([.ref (q 0), .int p1, .int p2]) (n := 4) (Nat.le_of_ble_eq_true rfl)
  rw [lg_entry_eq]
  generalize (lg_sl ([.ref (q 0), .int p1, .int p2]) ++ List.replicate (4 - (lg_sl ([.ref (q 0), .int p1, .int p2])).length) Slot.unset).toArray = ls at hl ⊢
  have hl : lv_has ls 4 [(0, .ref (q 0)), (1, .int p1), (2, .int p2)] := hl
  have hk10 := hts (.fieldLink RX8 10 "LyndonText" "text" "LLyndonText$Letters;") (by decide +kernel)
  have huX8 : ∀ w ∈ u_ws RX8 TX8 6, w ∈ wsX8_standardFactor := by decide +kernel
  have J25 : ∀ (_ : Unit), fX8_standardFactor_J25 N Tn Ta = some (.inr r0) → ∀ (H : Heap) (locs : List Loc), va_P D vwCl (w_0_1_2 q cI cJ cD Tn Ta) H → va_S (gA q [0, 1, 2]) s.heap H locs → ∀ ls : Array Slot, lv_has ls 4 [] → W p l e (headSpec wsX8_standardFactor rX8_standardFactor).room s m ([.ref (q 0), .int p1, .int p2] : List Value).toArray below meth c H locs 0 0 (MQ below (gQ D (some (.int r0)) (w_0_1_2 q cI cJ cD Tn Ta) (gA q [0, 1, 2])) ([.ref (q 0), .int p1, .int p2] : List Value).toArray s 0 0 (gA q [0, 1, 2])) (F0 m 25 ls []) := by
    intro _ hf H locs hP hS ls hl
    unfold fX8_standardFactor_J25 at hf
    exact nomatch hf
  have J64 : ∀ (x3 : Int32), fX8_standardFactor_J64 N Tn Ta x3 = some (.inr r0) → ∀ (H : Heap) (locs : List Loc), va_P D vwCl (w_0_1_2 q cI cJ cD Tn Ta) H → va_S (gA q [0, 1, 2]) s.heap H locs → ∀ ls : Array Slot, lv_has ls 4 [(3, .int x3)] → W p l e (headSpec wsX8_standardFactor rX8_standardFactor).room s m ([.ref (q 0), .int p1, .int p2] : List Value).toArray below meth c H locs 0 0 (MQ below (gQ D (some (.int r0)) (w_0_1_2 q cI cJ cD Tn Ta) (gA q [0, 1, 2])) ([.ref (q 0), .int p1, .int p2] : List Value).toArray s 0 0 (gA q [0, 1, 2])) (F0 m 64 ls []) := by
    intro x3 hf H locs hP hS ls hl
    unfold fX8_standardFactor_J64 at hf
    refine lv_iload_n hx hb dX8_standardFactor_64 rfl (lv_at hl 0 rfl) ?_
    cases hf
    exact W.iret hx hb hr (fun t ht hW => ⟨⟨rfl, by rw [ht]; exact hP⟩, hS.F ht⟩) hS.2.2 dX8_standardFactor_65
  have K39 : ∀ (n39 : Nat) (x2 : Int32) (x3 : Int32), fX8_standardFactor_H39 N Tn Ta n39 x2 x3 = some (.inr r0) → ∀ (H : Heap) (locs : List Loc), va_P D vwCl (w_0_1_2 q cI cJ cD Tn Ta) H → va_S (gA q [0, 1, 2]) s.heap H locs → ∀ ls : Array Slot, lv_has ls 4 [(0, .ref (q 0)), (2, .int x2), (3, .int x3)] → W p l e (headSpec wsX8_standardFactor rX8_standardFactor).room s m ([.ref (q 0), .int p1, .int p2] : List Value).toArray below meth c H locs 0 0 (MQ below (gQ D (some (.int r0)) (w_0_1_2 q cI cJ cD Tn Ta) (gA q [0, 1, 2])) ([.ref (q 0), .int p1, .int p2] : List Value).toArray s 0 0 (gA q [0, 1, 2])) (F0 m 39 ls []) := by
    intro n39
    induction n39 with
    | zero =>
      intro x2 x3 hf
      exact nomatch (show (none : Option (Nat ⊕ Int32)) = some (.inr r0) from hf)
    | succ n39 ih39 =>
      intro x2 x3 hf H locs hP hS ls hl
      have hf : fX8_standardFactor_B39 N Tn Ta (fX8_standardFactor_H39 N Tn Ta n39) x2 x3 = some (.inr r0) := hf
      unfold fX8_standardFactor_B39 at hf
      refine lv_iload_n hx hb dX8_standardFactor_39 rfl (lv_at hl 2 rfl) ?_
      refine lv_iload_n hx hb dX8_standardFactor_40 rfl (lv_at hl 1 rfl) ?_
      refine lv_iconst (v := (1 : Int32)) hx hb dX8_standardFactor_41 (by decide) ?_
      refine lv_isub hx hb dX8_standardFactor_42 ?_
      refine lv_icmp_ge (tgt := 64) hx hb dX8_standardFactor_43 (by decide) (fun c_1 => ?_) (fun c_1 => ?_)
      · have hf := (if_pos c_1).symm.trans hf
        exact J64 x3 hf _ _ hP hS _ (lv_sub hl [2] rfl)
      · have hf := (if_neg c_1).symm.trans hf
        refine lv_aload_n hx hb dX8_standardFactor_46 rfl (lv_at hl 0 rfl) ?_
        refine va_get (D := D) (ci := 6) (v := .ref (q 1)) (C := RX8) (T := TX8) (N := 6) hx hb hts huX8 hown hE.1 hP 0 rfl rfl 0 (by decide) hk10 (fun _ h9 => h9) rfl dX8_standardFactor_47 ?_
        refine lv_iload_n hx hb dX8_standardFactor_50 rfl (lv_at hl 2 rfl) ?_
        refine lv_iload_n hx hb dX8_standardFactor_51 rfl (lv_at hl 1 rfl) ?_
        obtain ⟨r52, hc, hf⟩ := bn_some hf
        try dsimp only at hf
        refine g_call0 (ws' := (w_0_1_2 q cI cJ cD Tn Ta)) (st1 := [.int r52]) hq [0, 1, 2] [1, 2] [.inr 0, .inl 0, .inl 1] (va_runS (As := [.ref (q 1), .int x3, .int x2]) (rest := []) ⟨hx, hb, hml, hown, hts⟩ (kX1_isOneFactor l D cI cJ cD q hq N Tn Ta x3 x2 r52 hc) (va_cwS 3 hts gX8_standardFactor_X1_isOneFactor rfl rfl rfl (by decide +kernel) ⟨(Nat.le_of_ble_eq_true rfl), (Nat.le_of_ble_eq_true rfl)⟩) ⟨gP_blind, fun U hU hW => ⟨rfl, by rw [hU]; exact hP.sub (ws' := (w_1_2 q cI cJ cD Tn Ta)) [1, 2] rfl, gEv.warm hW hE⟩⟩ rfl rfl hl.1 rfl (lv_room (Nat.le_of_ble_eq_true rfl)) dX8_standardFactor_52 ⟨Nat.zero_le _, Nat.zero_le _⟩) hP hS (gSub rfl) rfl rfl rfl rfl rfl (fun H locs hP hS => ?_)
        refine lv_if_ne (tgt := 64) hx hb dX8_standardFactor_55 (by decide) (fun c_2 => ?_) (fun c_2 => ?_)
        · have hf := (if_neg c_2).symm.trans hf
          exact J64 x3 hf _ _ hP hS _ (lv_sub hl [2] rfl)
        · have hf := (if_pos c_2).symm.trans hf
          refine lv_iinc (v := (x3 + 1)) (lv' := [(3, .int (x3 + 1)), (0, .ref (q 0)), (2, .int x2)]) hx hb dX8_standardFactor_58 hl (k := 2) rfl rfl (by decide) rfl (fun ls hl => ?_)
          refine lv_goto (tgt := 39) hx hb dX8_standardFactor_61 (by decide) ?_
          exact ih39 x2 (x3 + 1) hf _ _ hP hS _ (lv_sub hl [1, 2, 0] rfl)
  unfold fX8_standardFactor at hf
  refine lv_aload_n hx hb dX8_standardFactor_0 rfl (lv_at hl 0 rfl) ?_
  refine lv_iload_n hx hb dX8_standardFactor_1 rfl (lv_at hl 1 rfl) ?_
  refine lv_iload_n hx hb dX8_standardFactor_2 rfl (lv_at hl 2 rfl) ?_
  rcases bx_some hf with ⟨e3, hc, hf⟩ | ⟨⟨⟩, hc, hf⟩
  · exact nomatch hf
  try dsimp only at hf
  refine g_call0 (ws' := (w_0_1_2 q cI cJ cD Tn Ta)) (st1 := []) hq [0, 1, 2] [0, 1] [.inl 0, .inl 1, .inr 2] (va_runV (As := [.int p1, .int p2]) (rest := []) ⟨hx, hb, hml, hown, hts⟩ (kX8_checkPart l D cI cJ cD q hq N Tn p1 p2 hc) (cwV 2 hts gX8_standardFactor_X8_checkPart rfl rfl rfl (by decide +kernel) ⟨(Nat.le_of_ble_eq_true rfl), (Nat.le_of_ble_eq_true rfl)⟩) ⟨gP_blind, va_recv hE.1 hP (ci := 6) (q0 := 0) rfl rfl, fun U hU hW => ⟨rfl, by rw [hU]; exact hP.sub (ws' := (w_0_1 q cI cJ cD Tn)) [0, 1] rfl, gEv.warm hW hE⟩⟩ rfl rfl hl.1 rfl (lv_room (Nat.le_of_ble_eq_true rfl)) dX8_standardFactor_3 ⟨Nat.zero_le _, Nat.zero_le _⟩) hP hS (gSub rfl) rfl rfl rfl rfl rfl (fun H locs hP hS => ?_)
  refine lv_iload_n hx hb dX8_standardFactor_6 rfl (lv_at hl 2 rfl) ?_
  refine lv_iload_n hx hb dX8_standardFactor_7 rfl (lv_at hl 1 rfl) ?_
  refine lv_isub hx hb dX8_standardFactor_8 ?_
  refine lv_iconst (v := (1 : Int32)) hx hb dX8_standardFactor_9 (by decide) ?_
  refine lv_icmp_eq (tgt := 25) hx hb dX8_standardFactor_10 (by decide) (fun c_3 => ?_) (fun c_3 => ?_)
  · have hf := (if_pos c_3).symm.trans hf
    exact J25 () hf _ _ hP hS _ (lv_sub hl [] rfl)
  · have hf := (if_neg c_3).symm.trans hf
    refine lv_aload_n hx hb dX8_standardFactor_13 rfl (lv_at hl 0 rfl) ?_
    refine va_get (D := D) (ci := 6) (v := .ref (q 1)) (C := RX8) (T := TX8) (N := 6) hx hb hts huX8 hown hE.1 hP 0 rfl rfl 0 (by decide) hk10 (fun _ h9 => h9) rfl dX8_standardFactor_14 ?_
    refine lv_iload_n hx hb dX8_standardFactor_17 rfl (lv_at hl 1 rfl) ?_
    refine lv_iload_n hx hb dX8_standardFactor_18 rfl (lv_at hl 2 rfl) ?_
    obtain ⟨r19, hc, hf⟩ := bn_some hf
    try dsimp only at hf
    refine g_call0 (ws' := (w_0_1_2 q cI cJ cD Tn Ta)) (st1 := [.int r19]) hq [0, 1, 2] [1, 2] [.inr 0, .inl 0, .inl 1] (va_runS (As := [.ref (q 1), .int p1, .int p2]) (rest := []) ⟨hx, hb, hml, hown, hts⟩ (kX1_isOneFactor l D cI cJ cD q hq N Tn Ta p1 p2 r19 hc) (va_cwS 3 hts gX8_standardFactor_X1_isOneFactor rfl rfl rfl (by decide +kernel) ⟨(Nat.le_of_ble_eq_true rfl), (Nat.le_of_ble_eq_true rfl)⟩) ⟨gP_blind, fun U hU hW => ⟨rfl, by rw [hU]; exact hP.sub (ws' := (w_1_2 q cI cJ cD Tn Ta)) [1, 2] rfl, gEv.warm hW hE⟩⟩ rfl rfl hl.1 rfl (lv_room (Nat.le_of_ble_eq_true rfl)) dX8_standardFactor_19 ⟨Nat.zero_le _, Nat.zero_le _⟩) hP hS (gSub rfl) rfl rfl rfl rfl rfl (fun H locs hP hS => ?_)
    refine lv_if_ne (tgt := 35) hx hb dX8_standardFactor_22 (by decide) (fun c_4 => ?_) (fun c_4 => ?_)
    · have hf := (if_neg c_4).symm.trans hf
      refine lv_iload_n hx hb dX8_standardFactor_35 rfl (lv_at hl 1 rfl) ?_
      refine lv_iconst (v := (1 : Int32)) hx hb dX8_standardFactor_36 (by decide) ?_
      refine lv_iadd hx hb dX8_standardFactor_37 ?_
      refine lv_istore_n (lv' := [(3, .int (p1 + (1 : Int32))), (0, .ref (q 0)), (1, .int p1), (2, .int p2)]) hx hb dX8_standardFactor_38 rfl hl (by decide) rfl (fun ls hl => ?_)
      exact K39 N p2 (p1 + (1 : Int32)) hf _ _ hP hS _ (lv_sub hl [1, 3, 0] rfl)
    · have hf := (if_pos c_4).symm.trans hf
      exact J25 () hf _ _ hP hS _ (lv_sub hl [] rfl)
set_option maxHeartbeats 4000000 in
set_option maxRecDepth 100000 in
theorem kX8_standardFactorx (l : Launch) (hlt : l.stackTraces = false) (D : va_G) (cI cJ cD : ClassId) (sa : Nat → Nat) (q : Nat → Nat) (hq : gInj 14 q) (N : Nat) (Tn : Int32) (Ta : (Nat → Int32)) (p1 : Int32) (p2 : Int32) (e0 : Nat) (hf : fX8_standardFactor N Tn Ta p1 p2 = some (.inl e0)) : vx_Met l yX8_standardFactor wsX8_standardFactor rX8_standardFactorx (gPx D cI cJ cD sa (gA q [0, 1, 2]) [.ref (q 0), .int p1, .int p2] (w_0_1_2 q cI cJ cD Tn Ta)) (fun _ _ _ _ => False) (gX D (gEn e0) (w_0_1_2 q cI cJ cD Tn Ta) (gA q [0, 1, 2])) 1 6 (gA q [0, 1, 2]) := by
  refine vx_ofW (cc := cX8_standardFactor) (maxL := 4) (ret := (some .int)) (by decide +kernel) rfl ?_
  intro p e s m args below meth c s₁ B hml htab hv
  obtain ⟨rfl, hP, hE, hXe⟩ := hv
  have hx := B.exec
  have hb := B.bytes
  have hr := B.returns
  have hts := atoms_spec (ws := wsX8_standardFactor) B.pre
  have hown : s.vm.findClass RX8 = some m.cls := findClass_of_methodNamed B.named
  have hlocks := B.notSynchronized
  have hS : va_S (gA q [0, 1, 2]) s.heap s.heap [] := va_S.rf
  have hl := lv_entry ([.ref (q 0), .int p1, .int p2]) (n := 4) (Nat.le_of_ble_eq_true rfl)
  rw [lg_entry_eq]
  generalize (lg_sl ([.ref (q 0), .int p1, .int p2]) ++ List.replicate (4 - (lg_sl ([.ref (q 0), .int p1, .int p2])).length) Slot.unset).toArray = ls at hl ⊢
  have hl : lv_has ls 4 [(0, .ref (q 0)), (1, .int p1), (2, .int p2)] := hl
  have hk10 := hts (.fieldLink RX8 10 "LyndonText" "text" "LLyndonText$Letters;") (by decide +kernel)
  have huX8 : ∀ w ∈ u_ws RX8 TX8 6, w ∈ wsX8_standardFactor := by decide +kernel
  have J25 : ∀ (_ : Unit), fX8_standardFactor_J25 N Tn Ta = some (.inl e0) → ∀ (H : Heap) (locs : List Loc), va_P D vwCl (w_0_1_2 q cI cJ cD Tn Ta) H → va_S (gA q [0, 1, 2]) s.heap H locs → ∀ ls : Array Slot, lv_has ls 4 [] → W p l e (headSpec wsX8_standardFactor rX8_standardFactorx).room s m ([.ref (q 0), .int p1, .int p2] : List Value).toArray below meth c H locs 0 0 (vx_MQ below (fun _ _ _ _ => False) (gX D (gEn e0) (w_0_1_2 q cI cJ cD Tn Ta) (gA q [0, 1, 2])) ([.ref (q 0), .int p1, .int p2] : List Value).toArray s 1 6 (gA q [0, 1, 2])) (F0 m 25 ls []) := by
    intro _ hf H locs hP hS ls hl
    unfold fX8_standardFactor_J25 at hf
    cases hf
    exact vx_throwS (own := RX8) (cls := "java/lang/IllegalStateException") (text := "the part is no Lyndon word of two letters or more") (names := ["java/lang/RuntimeException", "java/lang/Exception"]) (ik := 89) (is := 166) (ic := 93) (sa := sa 166) (A := (gA q [0, 1, 2])) hx hb hlt hown (by decide +kernel) (by decide +kernel) (hts (.classLink RX8 89 "java/lang/IllegalStateException") (by decide +kernel)) (hts (.initialized "java/lang/IllegalStateException") (by decide +kernel)) (hXe.1.1 (166, "the part is no Lyndon word of two letters or more") (by decide +kernel)) (vx_hat (B := gB "java/lang/IllegalStateException") (fun w h => hts w (gw_X8_standardFactor_25 w h)) (gwB_X8_standardFactor_25) (gB_ok hXe.1 (cls := "java/lang/IllegalStateException") (by decide +kernel))) (gwg_X8_standardFactor_25) hXe.2.1 hXe.2.2 hS (hl.1.trans hml.symm) dX8_standardFactor_25 dX8_standardFactor_28 dX8_standardFactor_29 dX8_standardFactor_31 dX8_standardFactor_34 (fun x9 hx9 => (htab x9 hx9).elim) (Nat.le_of_ble_eq_true rfl) (Nat.le_of_ble_eq_true rfl) (Nat.le_of_ble_eq_true rfl) (Nat.le_of_ble_eq_true rfl) hlocks (fun t hv hz hk => ⟨rfl, hP.kept (fun k9 x9 hx9 => hk x9.1 ((hP k9 x9 hx9).lt)), ⟨Nat.le_trans hS.1 hz, fun a9 h1 hn => (hk a9 (Nat.lt_of_lt_of_le h1 hS.1)).trans (hS.2.1 a9 h1 hn)⟩⟩) hS.2.2 (Nat.le_of_ble_eq_true rfl) (Nat.le_of_ble_eq_true rfl)
  have J64 : ∀ (x3 : Int32), fX8_standardFactor_J64 N Tn Ta x3 = some (.inl e0) → ∀ (H : Heap) (locs : List Loc), va_P D vwCl (w_0_1_2 q cI cJ cD Tn Ta) H → va_S (gA q [0, 1, 2]) s.heap H locs → ∀ ls : Array Slot, lv_has ls 4 [(3, .int x3)] → W p l e (headSpec wsX8_standardFactor rX8_standardFactorx).room s m ([.ref (q 0), .int p1, .int p2] : List Value).toArray below meth c H locs 0 0 (vx_MQ below (fun _ _ _ _ => False) (gX D (gEn e0) (w_0_1_2 q cI cJ cD Tn Ta) (gA q [0, 1, 2])) ([.ref (q 0), .int p1, .int p2] : List Value).toArray s 1 6 (gA q [0, 1, 2])) (F0 m 64 ls []) := by
    intro x3 hf H locs hP hS ls hl
    unfold fX8_standardFactor_J64 at hf
    refine lv_iload_n hx hb dX8_standardFactor_64 rfl (lv_at hl 0 rfl) ?_
    exact nomatch hf
  have K39 : ∀ (n39 : Nat) (x2 : Int32) (x3 : Int32), fX8_standardFactor_H39 N Tn Ta n39 x2 x3 = some (.inl e0) → ∀ (H : Heap) (locs : List Loc), va_P D vwCl (w_0_1_2 q cI cJ cD Tn Ta) H → va_S (gA q [0, 1, 2]) s.heap H locs → ∀ ls : Array Slot, lv_has ls 4 [(0, .ref (q 0)), (2, .int x2), (3, .int x3)] → W p l e (headSpec wsX8_standardFactor rX8_standardFactorx).room s m ([.ref (q 0), .int p1, .int p2] : List Value).toArray below meth c H locs 0 0 (vx_MQ below (fun _ _ _ _ => False) (gX D (gEn e0) (w_0_1_2 q cI cJ cD Tn Ta) (gA q [0, 1, 2])) ([.ref (q 0), .int p1, .int p2] : List Value).toArray s 1 6 (gA q [0, 1, 2])) (F0 m 39 ls []) := by
    intro n39
    induction n39 with
    | zero =>
      intro x2 x3 hf
      exact nomatch (show (none : Option (Nat ⊕ Int32)) = some (.inl e0) from hf)
    | succ n39 ih39 =>
      intro x2 x3 hf H locs hP hS ls hl
      have hf : fX8_standardFactor_B39 N Tn Ta (fX8_standardFactor_H39 N Tn Ta n39) x2 x3 = some (.inl e0) := hf
      unfold fX8_standardFactor_B39 at hf
      refine lv_iload_n hx hb dX8_standardFactor_39 rfl (lv_at hl 2 rfl) ?_
      refine lv_iload_n hx hb dX8_standardFactor_40 rfl (lv_at hl 1 rfl) ?_
      refine lv_iconst (v := (1 : Int32)) hx hb dX8_standardFactor_41 (by decide) ?_
      refine lv_isub hx hb dX8_standardFactor_42 ?_
      refine lv_icmp_ge (tgt := 64) hx hb dX8_standardFactor_43 (by decide) (fun c_1 => ?_) (fun c_1 => ?_)
      · have hf := (if_pos c_1).symm.trans hf
        exact J64 x3 hf _ _ hP hS _ (lv_sub hl [2] rfl)
      · have hf := (if_neg c_1).symm.trans hf
        refine lv_aload_n hx hb dX8_standardFactor_46 rfl (lv_at hl 0 rfl) ?_
        refine va_get (D := D) (ci := 6) (v := .ref (q 1)) (C := RX8) (T := TX8) (N := 6) hx hb hts huX8 hown hE.1 hP 0 rfl rfl 0 (by decide) hk10 (fun _ h9 => h9) rfl dX8_standardFactor_47 ?_
        refine lv_iload_n hx hb dX8_standardFactor_50 rfl (lv_at hl 2 rfl) ?_
        refine lv_iload_n hx hb dX8_standardFactor_51 rfl (lv_at hl 1 rfl) ?_
        obtain ⟨r52, hc, hf⟩ := bn_some hf
        try dsimp only at hf
        refine g_call0 (ws' := (w_0_1_2 q cI cJ cD Tn Ta)) (st1 := [.int r52]) hq [0, 1, 2] [1, 2] [.inr 0, .inl 0, .inl 1] (va_runS (As := [.ref (q 1), .int x3, .int x2]) (rest := []) ⟨hx, hb, hml, hown, hts⟩ (kX1_isOneFactor l D cI cJ cD q hq N Tn Ta x3 x2 r52 hc) (va_cwS 3 hts gX8_standardFactor_X1_isOneFactor rfl rfl rfl (by decide +kernel) ⟨(Nat.le_of_ble_eq_true rfl), (Nat.le_of_ble_eq_true rfl)⟩) ⟨gP_blind, fun U hU hW => ⟨rfl, by rw [hU]; exact hP.sub (ws' := (w_1_2 q cI cJ cD Tn Ta)) [1, 2] rfl, gEv.warm hW hE⟩⟩ rfl rfl hl.1 rfl (lv_room (Nat.le_of_ble_eq_true rfl)) dX8_standardFactor_52 ⟨Nat.zero_le _, Nat.zero_le _⟩) hP hS (gSub rfl) rfl rfl rfl rfl rfl (fun H locs hP hS => ?_)
        refine lv_if_ne (tgt := 64) hx hb dX8_standardFactor_55 (by decide) (fun c_2 => ?_) (fun c_2 => ?_)
        · have hf := (if_neg c_2).symm.trans hf
          exact J64 x3 hf _ _ hP hS _ (lv_sub hl [2] rfl)
        · have hf := (if_pos c_2).symm.trans hf
          refine lv_iinc (v := (x3 + 1)) (lv' := [(3, .int (x3 + 1)), (0, .ref (q 0)), (2, .int x2)]) hx hb dX8_standardFactor_58 hl (k := 2) rfl rfl (by decide) rfl (fun ls hl => ?_)
          refine lv_goto (tgt := 39) hx hb dX8_standardFactor_61 (by decide) ?_
          exact ih39 x2 (x3 + 1) hf _ _ hP hS _ (lv_sub hl [1, 2, 0] rfl)
  unfold fX8_standardFactor at hf
  refine lv_aload_n hx hb dX8_standardFactor_0 rfl (lv_at hl 0 rfl) ?_
  refine lv_iload_n hx hb dX8_standardFactor_1 rfl (lv_at hl 1 rfl) ?_
  refine lv_iload_n hx hb dX8_standardFactor_2 rfl (lv_at hl 2 rfl) ?_
  rcases bx_some hf with ⟨e3, hc, hf⟩ | ⟨⟨⟩, hc, hf⟩
  · try dsimp only at hf
    refine g_callX (ws' := (w_0_1_2 q cI cJ cD Tn Ta)) hq [0, 1, 2] [0, 1] [.inl 0, .inl 1, .inr 2] (vx_runV (As := [.int p1, .int p2]) (rest := []) ⟨hx, hb, hml, hown, hts⟩ (kX8_checkPartx l hlt D cI cJ cD sa q hq N Tn p1 p2 e3 hc) (cwV 2 hts gX8_standardFactor_X8_checkPart rfl rfl rfl (by decide +kernel) ⟨(Nat.le_of_ble_eq_true rfl), (Nat.le_of_ble_eq_true rfl)⟩) ⟨gPx_blind, va_recv hE.1 hP (ci := 6) (q0 := 0) rfl rfl, fun U hU hW => ⟨rfl, by rw [hU]; exact hP.sub (ws' := (w_0_1 q cI cJ cD Tn)) [0, 1] rfl, gEv.warm hW hE, gXe.go hW hS (gMono rfl) hXe hU⟩⟩ rfl rfl hl.1 rfl (lv_room (Nat.le_of_ble_eq_true rfl)) dX8_standardFactor_3 ⟨(Nat.le_of_ble_eq_true rfl), (Nat.le_of_ble_eq_true rfl)⟩) hP hS (gSub rfl) rfl rfl rfl rfl (fun ce q9 H locs hP hS hce hcv hcl => ?_)
    cases hf
    exact vx_out (fun x9 hx9 => (htab x9 hx9).elim) hlocks hce hcv hcl (fun t ht hv => ⟨rfl, by rw [ht]; exact hP, hS.F ht⟩) hS.2.2 (Nat.le_of_ble_eq_true rfl) (Nat.le_of_ble_eq_true rfl)
  try dsimp only at hf
  refine g_call0 (ws' := (w_0_1_2 q cI cJ cD Tn Ta)) (st1 := []) hq [0, 1, 2] [0, 1] [.inl 0, .inl 1, .inr 2] (va_runV (As := [.int p1, .int p2]) (rest := []) ⟨hx, hb, hml, hown, hts⟩ (kX8_checkPart l D cI cJ cD q hq N Tn p1 p2 hc) (cwV 2 hts gX8_standardFactor_X8_checkPart rfl rfl rfl (by decide +kernel) ⟨(Nat.le_of_ble_eq_true rfl), (Nat.le_of_ble_eq_true rfl)⟩) ⟨gP_blind, va_recv hE.1 hP (ci := 6) (q0 := 0) rfl rfl, fun U hU hW => ⟨rfl, by rw [hU]; exact hP.sub (ws' := (w_0_1 q cI cJ cD Tn)) [0, 1] rfl, gEv.warm hW hE⟩⟩ rfl rfl hl.1 rfl (lv_room (Nat.le_of_ble_eq_true rfl)) dX8_standardFactor_3 ⟨Nat.zero_le _, Nat.zero_le _⟩) hP hS (gSub rfl) rfl rfl rfl rfl rfl (fun H locs hP hS => ?_)
  refine lv_iload_n hx hb dX8_standardFactor_6 rfl (lv_at hl 2 rfl) ?_
  refine lv_iload_n hx hb dX8_standardFactor_7 rfl (lv_at hl 1 rfl) ?_
  refine lv_isub hx hb dX8_standardFactor_8 ?_
  refine lv_iconst (v := (1 : Int32)) hx hb dX8_standardFactor_9 (by decide) ?_
  refine lv_icmp_eq (tgt := 25) hx hb dX8_standardFactor_10 (by decide) (fun c_3 => ?_) (fun c_3 => ?_)
  · have hf := (if_pos c_3).symm.trans hf
    exact J25 () hf _ _ hP hS _ (lv_sub hl [] rfl)
  · have hf := (if_neg c_3).symm.trans hf
    refine lv_aload_n hx hb dX8_standardFactor_13 rfl (lv_at hl 0 rfl) ?_
    refine va_get (D := D) (ci := 6) (v := .ref (q 1)) (C := RX8) (T := TX8) (N := 6) hx hb hts huX8 hown hE.1 hP 0 rfl rfl 0 (by decide) hk10 (fun _ h9 => h9) rfl dX8_standardFactor_14 ?_
    refine lv_iload_n hx hb dX8_standardFactor_17 rfl (lv_at hl 1 rfl) ?_
    refine lv_iload_n hx hb dX8_standardFactor_18 rfl (lv_at hl 2 rfl) ?_
    obtain ⟨r19, hc, hf⟩ := bn_some hf
    try dsimp only at hf
    refine g_call0 (ws' := (w_0_1_2 q cI cJ cD Tn Ta)) (st1 := [.int r19]) hq [0, 1, 2] [1, 2] [.inr 0, .inl 0, .inl 1] (va_runS (As := [.ref (q 1), .int p1, .int p2]) (rest := []) ⟨hx, hb, hml, hown, hts⟩ (kX1_isOneFactor l D cI cJ cD q hq N Tn Ta p1 p2 r19 hc) (va_cwS 3 hts gX8_standardFactor_X1_isOneFactor rfl rfl rfl (by decide +kernel) ⟨(Nat.le_of_ble_eq_true rfl), (Nat.le_of_ble_eq_true rfl)⟩) ⟨gP_blind, fun U hU hW => ⟨rfl, by rw [hU]; exact hP.sub (ws' := (w_1_2 q cI cJ cD Tn Ta)) [1, 2] rfl, gEv.warm hW hE⟩⟩ rfl rfl hl.1 rfl (lv_room (Nat.le_of_ble_eq_true rfl)) dX8_standardFactor_19 ⟨Nat.zero_le _, Nat.zero_le _⟩) hP hS (gSub rfl) rfl rfl rfl rfl rfl (fun H locs hP hS => ?_)
    refine lv_if_ne (tgt := 35) hx hb dX8_standardFactor_22 (by decide) (fun c_4 => ?_) (fun c_4 => ?_)
    · have hf := (if_neg c_4).symm.trans hf
      refine lv_iload_n hx hb dX8_standardFactor_35 rfl (lv_at hl 1 rfl) ?_
      refine lv_iconst (v := (1 : Int32)) hx hb dX8_standardFactor_36 (by decide) ?_
      refine lv_iadd hx hb dX8_standardFactor_37 ?_
      refine lv_istore_n (lv' := [(3, .int (p1 + (1 : Int32))), (0, .ref (q 0)), (1, .int p1), (2, .int p2)]) hx hb dX8_standardFactor_38 rfl hl (by decide) rfl (fun ls hl => ?_)
      exact K39 N p2 (p1 + (1 : Int32)) hf _ _ hP hS _ (lv_sub hl [1, 3, 0] rfl)
    · have hf := (if_pos c_4).symm.trans hf
      exact J25 () hf _ _ hP hS _ (lv_sub hl [] rfl)
set_option maxHeartbeats 4000000 in
set_option maxRecDepth 100000 in
theorem kX8_leastRotation (l : Launch) (D : va_G) (cI cJ cD : ClassId) (q : Nat → Nat) (hq : gInj 14 q) (N : Nat) (Tn : Int32) (Ta : (Nat → Int32)) (p1 : Int32) (p2 : Int32) (r0 : Int32) (hf : fX8_leastRotation N Tn Ta p1 p2 = some (.inr r0)) : Met l yX8_leastRotation wsX8_leastRotation rX8_leastRotation (gP D cI cJ cD [.ref (q 0), .int p1, .int p2] (w_0_1_2 q cI cJ cD Tn Ta)) (gQ D (some (.int r0)) (w_0_1_2 q cI cJ cD Tn Ta) (gA q [0, 1, 2])) 0 0 (gA q [0, 1, 2]) := by
  refine Met.ofW (cc := cX8_leastRotation) (maxL := 3) (ret := (some .int)) (by decide +kernel) rfl ?_
  intro p e s m args below meth c s₁ B hml hv
  obtain ⟨rfl, hP, hE⟩ := hv
  have hx := B.exec
  have hb := B.bytes
  have hr := B.returns
  have hts := atoms_spec (ws := wsX8_leastRotation) B.pre
  have hown : s.vm.findClass RX8 = some m.cls := findClass_of_methodNamed B.named
  have hlocks := B.notSynchronized
  have hS : va_S (gA q [0, 1, 2]) s.heap s.heap [] := va_S.rf
  have hl := lv_entry ([.ref (q 0), .int p1, .int p2]) (n := 3) (Nat.le_of_ble_eq_true rfl)
  rw [lg_entry_eq]
  generalize (lg_sl ([.ref (q 0), .int p1, .int p2]) ++ List.replicate (3 - (lg_sl ([.ref (q 0), .int p1, .int p2])).length) Slot.unset).toArray = ls at hl ⊢
  have hl : lv_has ls 3 [(0, .ref (q 0)), (1, .int p1), (2, .int p2)] := hl
  have hk10 := hts (.fieldLink RX8 10 "LyndonText" "text" "LLyndonText$Letters;") (by decide +kernel)
  have huX8 : ∀ w ∈ u_ws RX8 TX8 6, w ∈ wsX8_leastRotation := by decide +kernel
  unfold fX8_leastRotation at hf
  refine lv_aload_n hx hb dX8_leastRotation_0 rfl (lv_at hl 0 rfl) ?_
  refine lv_iload_n hx hb dX8_leastRotation_1 rfl (lv_at hl 1 rfl) ?_
  refine lv_iload_n hx hb dX8_leastRotation_2 rfl (lv_at hl 2 rfl) ?_
  rcases bx_some hf with ⟨e3, hc, hf⟩ | ⟨⟨⟩, hc, hf⟩
  · exact nomatch hf
  try dsimp only at hf
  refine g_call0 (ws' := (w_0_1_2 q cI cJ cD Tn Ta)) (st1 := []) hq [0, 1, 2] [0, 1] [.inl 0, .inl 1, .inr 2] (va_runV (As := [.int p1, .int p2]) (rest := []) ⟨hx, hb, hml, hown, hts⟩ (kX8_checkPart l D cI cJ cD q hq N Tn p1 p2 hc) (cwV 2 hts gX8_leastRotation_X8_checkPart rfl rfl rfl (by decide +kernel) ⟨(Nat.le_of_ble_eq_true rfl), (Nat.le_of_ble_eq_true rfl)⟩) ⟨gP_blind, va_recv hE.1 hP (ci := 6) (q0 := 0) rfl rfl, fun U hU hW => ⟨rfl, by rw [hU]; exact hP.sub (ws' := (w_0_1 q cI cJ cD Tn)) [0, 1] rfl, gEv.warm hW hE⟩⟩ rfl rfl hl.1 rfl (lv_room (Nat.le_of_ble_eq_true rfl)) dX8_leastRotation_3 ⟨Nat.zero_le _, Nat.zero_le _⟩) hP hS (gSub rfl) rfl rfl rfl rfl rfl (fun H locs hP hS => ?_)
  refine lv_aload_n hx hb dX8_leastRotation_6 rfl (lv_at hl 0 rfl) ?_
  refine va_get (D := D) (ci := 6) (v := .ref (q 1)) (C := RX8) (T := TX8) (N := 6) hx hb hts huX8 hown hE.1 hP 0 rfl rfl 0 (by decide) hk10 (fun _ h9 => h9) rfl dX8_leastRotation_7 ?_
  refine lv_iload_n hx hb dX8_leastRotation_10 rfl (lv_at hl 1 rfl) ?_
  refine lv_iload_n hx hb dX8_leastRotation_11 rfl (lv_at hl 2 rfl) ?_
  obtain ⟨r12, hc, hf⟩ := bn_some hf
  try dsimp only at hf
  refine g_call0 (ws' := (w_0_1_2 q cI cJ cD Tn Ta)) (st1 := [.int r12]) hq [0, 1, 2] [1, 2] [.inr 0, .inl 0, .inl 1] (va_runS (As := [.ref (q 1), .int p1, .int p2]) (rest := []) ⟨hx, hb, hml, hown, hts⟩ (kX5_least l D cI cJ cD q hq N Tn Ta p1 p2 r12 hc) (va_cwS 3 hts gX8_leastRotation_X5_least rfl rfl rfl (by decide +kernel) ⟨(Nat.le_of_ble_eq_true rfl), (Nat.le_of_ble_eq_true rfl)⟩) ⟨gP_blind, fun U hU hW => ⟨rfl, by rw [hU]; exact hP.sub (ws' := (w_1_2 q cI cJ cD Tn Ta)) [1, 2] rfl, gEv.warm hW hE⟩⟩ rfl rfl hl.1 rfl (lv_room (Nat.le_of_ble_eq_true rfl)) dX8_leastRotation_12 ⟨Nat.zero_le _, Nat.zero_le _⟩) hP hS (gSub rfl) rfl rfl rfl rfl rfl (fun H locs hP hS => ?_)
  cases hf
  exact W.iret hx hb hr (fun t ht hW => ⟨⟨rfl, by rw [ht]; exact hP⟩, hS.F ht⟩) hS.2.2 dX8_leastRotation_15
set_option maxHeartbeats 4000000 in
set_option maxRecDepth 100000 in
theorem kX8_leastRotationx (l : Launch) (hlt : l.stackTraces = false) (D : va_G) (cI cJ cD : ClassId) (sa : Nat → Nat) (q : Nat → Nat) (hq : gInj 14 q) (N : Nat) (Tn : Int32) (Ta : (Nat → Int32)) (p1 : Int32) (p2 : Int32) (e0 : Nat) (hf : fX8_leastRotation N Tn Ta p1 p2 = some (.inl e0)) : vx_Met l yX8_leastRotation wsX8_leastRotation rX8_leastRotationx (gPx D cI cJ cD sa (gA q [0, 1, 2]) [.ref (q 0), .int p1, .int p2] (w_0_1_2 q cI cJ cD Tn Ta)) (fun _ _ _ _ => False) (gX D (gEn e0) (w_0_1_2 q cI cJ cD Tn Ta) (gA q [0, 1, 2])) 1 6 (gA q [0, 1, 2]) := by
  refine vx_ofW (cc := cX8_leastRotation) (maxL := 3) (ret := (some .int)) (by decide +kernel) rfl ?_
  intro p e s m args below meth c s₁ B hml htab hv
  obtain ⟨rfl, hP, hE, hXe⟩ := hv
  have hx := B.exec
  have hb := B.bytes
  have hr := B.returns
  have hts := atoms_spec (ws := wsX8_leastRotation) B.pre
  have hown : s.vm.findClass RX8 = some m.cls := findClass_of_methodNamed B.named
  have hlocks := B.notSynchronized
  have hS : va_S (gA q [0, 1, 2]) s.heap s.heap [] := va_S.rf
  have hl := lv_entry ([.ref (q 0), .int p1, .int p2]) (n := 3) (Nat.le_of_ble_eq_true rfl)
  rw [lg_entry_eq]
  generalize (lg_sl ([.ref (q 0), .int p1, .int p2]) ++ List.replicate (3 - (lg_sl ([.ref (q 0), .int p1, .int p2])).length) Slot.unset).toArray = ls at hl ⊢
  have hl : lv_has ls 3 [(0, .ref (q 0)), (1, .int p1), (2, .int p2)] := hl
  have hk10 := hts (.fieldLink RX8 10 "LyndonText" "text" "LLyndonText$Letters;") (by decide +kernel)
  have huX8 : ∀ w ∈ u_ws RX8 TX8 6, w ∈ wsX8_leastRotation := by decide +kernel
  unfold fX8_leastRotation at hf
  refine lv_aload_n hx hb dX8_leastRotation_0 rfl (lv_at hl 0 rfl) ?_
  refine lv_iload_n hx hb dX8_leastRotation_1 rfl (lv_at hl 1 rfl) ?_
  refine lv_iload_n hx hb dX8_leastRotation_2 rfl (lv_at hl 2 rfl) ?_
  rcases bx_some hf with ⟨e3, hc, hf⟩ | ⟨⟨⟩, hc, hf⟩
  · try dsimp only at hf
    refine g_callX (ws' := (w_0_1_2 q cI cJ cD Tn Ta)) hq [0, 1, 2] [0, 1] [.inl 0, .inl 1, .inr 2] (vx_runV (As := [.int p1, .int p2]) (rest := []) ⟨hx, hb, hml, hown, hts⟩ (kX8_checkPartx l hlt D cI cJ cD sa q hq N Tn p1 p2 e3 hc) (cwV 2 hts gX8_leastRotation_X8_checkPart rfl rfl rfl (by decide +kernel) ⟨(Nat.le_of_ble_eq_true rfl), (Nat.le_of_ble_eq_true rfl)⟩) ⟨gPx_blind, va_recv hE.1 hP (ci := 6) (q0 := 0) rfl rfl, fun U hU hW => ⟨rfl, by rw [hU]; exact hP.sub (ws' := (w_0_1 q cI cJ cD Tn)) [0, 1] rfl, gEv.warm hW hE, gXe.go hW hS (gMono rfl) hXe hU⟩⟩ rfl rfl hl.1 rfl (lv_room (Nat.le_of_ble_eq_true rfl)) dX8_leastRotation_3 ⟨(Nat.le_of_ble_eq_true rfl), (Nat.le_of_ble_eq_true rfl)⟩) hP hS (gSub rfl) rfl rfl rfl rfl (fun ce q9 H locs hP hS hce hcv hcl => ?_)
    cases hf
    exact vx_out (fun x9 hx9 => (htab x9 hx9).elim) hlocks hce hcv hcl (fun t ht hv => ⟨rfl, by rw [ht]; exact hP, hS.F ht⟩) hS.2.2 (Nat.le_of_ble_eq_true rfl) (Nat.le_of_ble_eq_true rfl)
  try dsimp only at hf
  refine g_call0 (ws' := (w_0_1_2 q cI cJ cD Tn Ta)) (st1 := []) hq [0, 1, 2] [0, 1] [.inl 0, .inl 1, .inr 2] (va_runV (As := [.int p1, .int p2]) (rest := []) ⟨hx, hb, hml, hown, hts⟩ (kX8_checkPart l D cI cJ cD q hq N Tn p1 p2 hc) (cwV 2 hts gX8_leastRotation_X8_checkPart rfl rfl rfl (by decide +kernel) ⟨(Nat.le_of_ble_eq_true rfl), (Nat.le_of_ble_eq_true rfl)⟩) ⟨gP_blind, va_recv hE.1 hP (ci := 6) (q0 := 0) rfl rfl, fun U hU hW => ⟨rfl, by rw [hU]; exact hP.sub (ws' := (w_0_1 q cI cJ cD Tn)) [0, 1] rfl, gEv.warm hW hE⟩⟩ rfl rfl hl.1 rfl (lv_room (Nat.le_of_ble_eq_true rfl)) dX8_leastRotation_3 ⟨Nat.zero_le _, Nat.zero_le _⟩) hP hS (gSub rfl) rfl rfl rfl rfl rfl (fun H locs hP hS => ?_)
  refine lv_aload_n hx hb dX8_leastRotation_6 rfl (lv_at hl 0 rfl) ?_
  refine va_get (D := D) (ci := 6) (v := .ref (q 1)) (C := RX8) (T := TX8) (N := 6) hx hb hts huX8 hown hE.1 hP 0 rfl rfl 0 (by decide) hk10 (fun _ h9 => h9) rfl dX8_leastRotation_7 ?_
  refine lv_iload_n hx hb dX8_leastRotation_10 rfl (lv_at hl 1 rfl) ?_
  refine lv_iload_n hx hb dX8_leastRotation_11 rfl (lv_at hl 2 rfl) ?_
  obtain ⟨r12, hc, hf⟩ := bn_some hf
  try dsimp only at hf
  refine g_call0 (ws' := (w_0_1_2 q cI cJ cD Tn Ta)) (st1 := [.int r12]) hq [0, 1, 2] [1, 2] [.inr 0, .inl 0, .inl 1] (va_runS (As := [.ref (q 1), .int p1, .int p2]) (rest := []) ⟨hx, hb, hml, hown, hts⟩ (kX5_least l D cI cJ cD q hq N Tn Ta p1 p2 r12 hc) (va_cwS 3 hts gX8_leastRotation_X5_least rfl rfl rfl (by decide +kernel) ⟨(Nat.le_of_ble_eq_true rfl), (Nat.le_of_ble_eq_true rfl)⟩) ⟨gP_blind, fun U hU hW => ⟨rfl, by rw [hU]; exact hP.sub (ws' := (w_1_2 q cI cJ cD Tn Ta)) [1, 2] rfl, gEv.warm hW hE⟩⟩ rfl rfl hl.1 rfl (lv_room (Nat.le_of_ble_eq_true rfl)) dX8_leastRotation_12 ⟨Nat.zero_le _, Nat.zero_le _⟩) hP hS (gSub rfl) rfl rfl rfl rfl rfl (fun H locs hP hS => ?_)
  exact nomatch hf
set_option maxHeartbeats 4000000 in
set_option maxRecDepth 100000 in
theorem kX8_greatestRotation (l : Launch) (D : va_G) (cI cJ cD : ClassId) (q : Nat → Nat) (hq : gInj 14 q) (N : Nat) (Tn : Int32) (Ta : (Nat → Int32)) (p1 : Int32) (p2 : Int32) (r0 : Int32) (hf : fX8_greatestRotation N Tn Ta p1 p2 = some (.inr r0)) : Met l yX8_greatestRotation wsX8_greatestRotation rX8_greatestRotation (gP D cI cJ cD [.ref (q 0), .int p1, .int p2] (w_0_1_2 q cI cJ cD Tn Ta)) (gQ D (some (.int r0)) (w_0_1_2 q cI cJ cD Tn Ta) (gA q [0, 1, 2])) 0 0 (gA q [0, 1, 2]) := by
  refine Met.ofW (cc := cX8_greatestRotation) (maxL := 3) (ret := (some .int)) (by decide +kernel) rfl ?_
  intro p e s m args below meth c s₁ B hml hv
  obtain ⟨rfl, hP, hE⟩ := hv
  have hx := B.exec
  have hb := B.bytes
  have hr := B.returns
  have hts := atoms_spec (ws := wsX8_greatestRotation) B.pre
  have hown : s.vm.findClass RX8 = some m.cls := findClass_of_methodNamed B.named
  have hlocks := B.notSynchronized
  have hS : va_S (gA q [0, 1, 2]) s.heap s.heap [] := va_S.rf
  have hl := lv_entry ([.ref (q 0), .int p1, .int p2]) (n := 3) (Nat.le_of_ble_eq_true rfl)
  rw [lg_entry_eq]
  generalize (lg_sl ([.ref (q 0), .int p1, .int p2]) ++ List.replicate (3 - (lg_sl ([.ref (q 0), .int p1, .int p2])).length) Slot.unset).toArray = ls at hl ⊢
  have hl : lv_has ls 3 [(0, .ref (q 0)), (1, .int p1), (2, .int p2)] := hl
  have hk10 := hts (.fieldLink RX8 10 "LyndonText" "text" "LLyndonText$Letters;") (by decide +kernel)
  have huX8 : ∀ w ∈ u_ws RX8 TX8 6, w ∈ wsX8_greatestRotation := by decide +kernel
  unfold fX8_greatestRotation at hf
  refine lv_aload_n hx hb dX8_greatestRotation_0 rfl (lv_at hl 0 rfl) ?_
  refine lv_iload_n hx hb dX8_greatestRotation_1 rfl (lv_at hl 1 rfl) ?_
  refine lv_iload_n hx hb dX8_greatestRotation_2 rfl (lv_at hl 2 rfl) ?_
  rcases bx_some hf with ⟨e3, hc, hf⟩ | ⟨⟨⟩, hc, hf⟩
  · exact nomatch hf
  try dsimp only at hf
  refine g_call0 (ws' := (w_0_1_2 q cI cJ cD Tn Ta)) (st1 := []) hq [0, 1, 2] [0, 1] [.inl 0, .inl 1, .inr 2] (va_runV (As := [.int p1, .int p2]) (rest := []) ⟨hx, hb, hml, hown, hts⟩ (kX8_checkPart l D cI cJ cD q hq N Tn p1 p2 hc) (cwV 2 hts gX8_greatestRotation_X8_checkPart rfl rfl rfl (by decide +kernel) ⟨(Nat.le_of_ble_eq_true rfl), (Nat.le_of_ble_eq_true rfl)⟩) ⟨gP_blind, va_recv hE.1 hP (ci := 6) (q0 := 0) rfl rfl, fun U hU hW => ⟨rfl, by rw [hU]; exact hP.sub (ws' := (w_0_1 q cI cJ cD Tn)) [0, 1] rfl, gEv.warm hW hE⟩⟩ rfl rfl hl.1 rfl (lv_room (Nat.le_of_ble_eq_true rfl)) dX8_greatestRotation_3 ⟨Nat.zero_le _, Nat.zero_le _⟩) hP hS (gSub rfl) rfl rfl rfl rfl rfl (fun H locs hP hS => ?_)
  refine lv_aload_n hx hb dX8_greatestRotation_6 rfl (lv_at hl 0 rfl) ?_
  refine va_get (D := D) (ci := 6) (v := .ref (q 1)) (C := RX8) (T := TX8) (N := 6) hx hb hts huX8 hown hE.1 hP 0 rfl rfl 0 (by decide) hk10 (fun _ h9 => h9) rfl dX8_greatestRotation_7 ?_
  refine lv_iload_n hx hb dX8_greatestRotation_10 rfl (lv_at hl 1 rfl) ?_
  refine lv_iload_n hx hb dX8_greatestRotation_11 rfl (lv_at hl 2 rfl) ?_
  obtain ⟨r12, hc, hf⟩ := bn_some hf
  try dsimp only at hf
  refine g_call0 (ws' := (w_0_1_2 q cI cJ cD Tn Ta)) (st1 := [.int r12]) hq [0, 1, 2] [1, 2] [.inr 0, .inl 0, .inl 1] (va_runS (As := [.ref (q 1), .int p1, .int p2]) (rest := []) ⟨hx, hb, hml, hown, hts⟩ (kX5_greatest l D cI cJ cD q hq N Tn Ta p1 p2 r12 hc) (va_cwS 3 hts gX8_greatestRotation_X5_greatest rfl rfl rfl (by decide +kernel) ⟨(Nat.le_of_ble_eq_true rfl), (Nat.le_of_ble_eq_true rfl)⟩) ⟨gP_blind, fun U hU hW => ⟨rfl, by rw [hU]; exact hP.sub (ws' := (w_1_2 q cI cJ cD Tn Ta)) [1, 2] rfl, gEv.warm hW hE⟩⟩ rfl rfl hl.1 rfl (lv_room (Nat.le_of_ble_eq_true rfl)) dX8_greatestRotation_12 ⟨Nat.zero_le _, Nat.zero_le _⟩) hP hS (gSub rfl) rfl rfl rfl rfl rfl (fun H locs hP hS => ?_)
  cases hf
  exact W.iret hx hb hr (fun t ht hW => ⟨⟨rfl, by rw [ht]; exact hP⟩, hS.F ht⟩) hS.2.2 dX8_greatestRotation_15
set_option maxHeartbeats 4000000 in
set_option maxRecDepth 100000 in
theorem kX8_greatestRotationx (l : Launch) (hlt : l.stackTraces = false) (D : va_G) (cI cJ cD : ClassId) (sa : Nat → Nat) (q : Nat → Nat) (hq : gInj 14 q) (N : Nat) (Tn : Int32) (Ta : (Nat → Int32)) (p1 : Int32) (p2 : Int32) (e0 : Nat) (hf : fX8_greatestRotation N Tn Ta p1 p2 = some (.inl e0)) : vx_Met l yX8_greatestRotation wsX8_greatestRotation rX8_greatestRotationx (gPx D cI cJ cD sa (gA q [0, 1, 2]) [.ref (q 0), .int p1, .int p2] (w_0_1_2 q cI cJ cD Tn Ta)) (fun _ _ _ _ => False) (gX D (gEn e0) (w_0_1_2 q cI cJ cD Tn Ta) (gA q [0, 1, 2])) 1 6 (gA q [0, 1, 2]) := by
  refine vx_ofW (cc := cX8_greatestRotation) (maxL := 3) (ret := (some .int)) (by decide +kernel) rfl ?_
  intro p e s m args below meth c s₁ B hml htab hv
  obtain ⟨rfl, hP, hE, hXe⟩ := hv
  have hx := B.exec
  have hb := B.bytes
  have hr := B.returns
  have hts := atoms_spec (ws := wsX8_greatestRotation) B.pre
  have hown : s.vm.findClass RX8 = some m.cls := findClass_of_methodNamed B.named
  have hlocks := B.notSynchronized
  have hS : va_S (gA q [0, 1, 2]) s.heap s.heap [] := va_S.rf
  have hl := lv_entry ([.ref (q 0), .int p1, .int p2]) (n := 3) (Nat.le_of_ble_eq_true rfl)
  rw [lg_entry_eq]
  generalize (lg_sl ([.ref (q 0), .int p1, .int p2]) ++ List.replicate (3 - (lg_sl ([.ref (q 0), .int p1, .int p2])).length) Slot.unset).toArray = ls at hl ⊢
  have hl : lv_has ls 3 [(0, .ref (q 0)), (1, .int p1), (2, .int p2)] := hl
  have hk10 := hts (.fieldLink RX8 10 "LyndonText" "text" "LLyndonText$Letters;") (by decide +kernel)
  have huX8 : ∀ w ∈ u_ws RX8 TX8 6, w ∈ wsX8_greatestRotation := by decide +kernel
  unfold fX8_greatestRotation at hf
  refine lv_aload_n hx hb dX8_greatestRotation_0 rfl (lv_at hl 0 rfl) ?_
  refine lv_iload_n hx hb dX8_greatestRotation_1 rfl (lv_at hl 1 rfl) ?_
  refine lv_iload_n hx hb dX8_greatestRotation_2 rfl (lv_at hl 2 rfl) ?_
  rcases bx_some hf with ⟨e3, hc, hf⟩ | ⟨⟨⟩, hc, hf⟩
  · try dsimp only at hf
    refine g_callX (ws' := (w_0_1_2 q cI cJ cD Tn Ta)) hq [0, 1, 2] [0, 1] [.inl 0, .inl 1, .inr 2] (vx_runV (As := [.int p1, .int p2]) (rest := []) ⟨hx, hb, hml, hown, hts⟩ (kX8_checkPartx l hlt D cI cJ cD sa q hq N Tn p1 p2 e3 hc) (cwV 2 hts gX8_greatestRotation_X8_checkPart rfl rfl rfl (by decide +kernel) ⟨(Nat.le_of_ble_eq_true rfl), (Nat.le_of_ble_eq_true rfl)⟩) ⟨gPx_blind, va_recv hE.1 hP (ci := 6) (q0 := 0) rfl rfl, fun U hU hW => ⟨rfl, by rw [hU]; exact hP.sub (ws' := (w_0_1 q cI cJ cD Tn)) [0, 1] rfl, gEv.warm hW hE, gXe.go hW hS (gMono rfl) hXe hU⟩⟩ rfl rfl hl.1 rfl (lv_room (Nat.le_of_ble_eq_true rfl)) dX8_greatestRotation_3 ⟨(Nat.le_of_ble_eq_true rfl), (Nat.le_of_ble_eq_true rfl)⟩) hP hS (gSub rfl) rfl rfl rfl rfl (fun ce q9 H locs hP hS hce hcv hcl => ?_)
    cases hf
    exact vx_out (fun x9 hx9 => (htab x9 hx9).elim) hlocks hce hcv hcl (fun t ht hv => ⟨rfl, by rw [ht]; exact hP, hS.F ht⟩) hS.2.2 (Nat.le_of_ble_eq_true rfl) (Nat.le_of_ble_eq_true rfl)
  try dsimp only at hf
  refine g_call0 (ws' := (w_0_1_2 q cI cJ cD Tn Ta)) (st1 := []) hq [0, 1, 2] [0, 1] [.inl 0, .inl 1, .inr 2] (va_runV (As := [.int p1, .int p2]) (rest := []) ⟨hx, hb, hml, hown, hts⟩ (kX8_checkPart l D cI cJ cD q hq N Tn p1 p2 hc) (cwV 2 hts gX8_greatestRotation_X8_checkPart rfl rfl rfl (by decide +kernel) ⟨(Nat.le_of_ble_eq_true rfl), (Nat.le_of_ble_eq_true rfl)⟩) ⟨gP_blind, va_recv hE.1 hP (ci := 6) (q0 := 0) rfl rfl, fun U hU hW => ⟨rfl, by rw [hU]; exact hP.sub (ws' := (w_0_1 q cI cJ cD Tn)) [0, 1] rfl, gEv.warm hW hE⟩⟩ rfl rfl hl.1 rfl (lv_room (Nat.le_of_ble_eq_true rfl)) dX8_greatestRotation_3 ⟨Nat.zero_le _, Nat.zero_le _⟩) hP hS (gSub rfl) rfl rfl rfl rfl rfl (fun H locs hP hS => ?_)
  refine lv_aload_n hx hb dX8_greatestRotation_6 rfl (lv_at hl 0 rfl) ?_
  refine va_get (D := D) (ci := 6) (v := .ref (q 1)) (C := RX8) (T := TX8) (N := 6) hx hb hts huX8 hown hE.1 hP 0 rfl rfl 0 (by decide) hk10 (fun _ h9 => h9) rfl dX8_greatestRotation_7 ?_
  refine lv_iload_n hx hb dX8_greatestRotation_10 rfl (lv_at hl 1 rfl) ?_
  refine lv_iload_n hx hb dX8_greatestRotation_11 rfl (lv_at hl 2 rfl) ?_
  obtain ⟨r12, hc, hf⟩ := bn_some hf
  try dsimp only at hf
  refine g_call0 (ws' := (w_0_1_2 q cI cJ cD Tn Ta)) (st1 := [.int r12]) hq [0, 1, 2] [1, 2] [.inr 0, .inl 0, .inl 1] (va_runS (As := [.ref (q 1), .int p1, .int p2]) (rest := []) ⟨hx, hb, hml, hown, hts⟩ (kX5_greatest l D cI cJ cD q hq N Tn Ta p1 p2 r12 hc) (va_cwS 3 hts gX8_greatestRotation_X5_greatest rfl rfl rfl (by decide +kernel) ⟨(Nat.le_of_ble_eq_true rfl), (Nat.le_of_ble_eq_true rfl)⟩) ⟨gP_blind, fun U hU hW => ⟨rfl, by rw [hU]; exact hP.sub (ws' := (w_1_2 q cI cJ cD Tn Ta)) [1, 2] rfl, gEv.warm hW hE⟩⟩ rfl rfl hl.1 rfl (lv_room (Nat.le_of_ble_eq_true rfl)) dX8_greatestRotation_12 ⟨Nat.zero_le _, Nat.zero_le _⟩) hP hS (gSub rfl) rfl rfl rfl rfl rfl (fun H locs hP hS => ?_)
  exact nomatch hf
set_option maxHeartbeats 4000000 in
set_option maxRecDepth 100000 in
theorem kX8_rotations (l : Launch) (D : va_G) (cI cJ cD : ClassId) (q : Nat → Nat) (hq : gInj 14 q) (N : Nat) (Tn : Int32) (Ta : (Nat → Int32)) (Ba : (Nat → Int32)) (p1 : Int32) (p2 : Int32) (r0 : Int32) (Ba9 : (Nat → Int32)) (hf : fX8_rotations N Tn Ta Ba p1 p2 = some (.inr (r0, Ba9))) : Met l yX8_rotations wsX8_rotations rX8_rotations (gP D cI cJ cD [.ref (q 0), .int p1, .int p2] (w_0_1_2_5_6 q cI cJ cD Tn Ta Ba)) (gQ D (some (.int r0)) (w_0_1_2_5_6 q cI cJ cD Tn Ta Ba9) (gA q [0, 1, 2, 5, 6])) 0 0 (gA q [0, 1, 2, 5, 6]) := by
  refine Met.ofW (cc := cX8_rotations) (maxL := 3) (ret := (some .int)) (by decide +kernel) rfl ?_
  intro p e s m args below meth c s₁ B hml hv
  obtain ⟨rfl, hP, hE⟩ := hv
  have hx := B.exec
  have hb := B.bytes
  have hr := B.returns
  have hts := atoms_spec (ws := wsX8_rotations) B.pre
  have hown : s.vm.findClass RX8 = some m.cls := findClass_of_methodNamed B.named
  have hlocks := B.notSynchronized
  have hS : va_S (gA q [0, 1, 2, 5, 6]) s.heap s.heap [] := va_S.rf
  have hl := lv_entry ([.ref (q 0), .int p1, .int p2]) (n := 3) (Nat.le_of_ble_eq_true rfl)
  rw [lg_entry_eq]
  generalize (lg_sl ([.ref (q 0), .int p1, .int p2]) ++ List.replicate (3 - (lg_sl ([.ref (q 0), .int p1, .int p2])).length) Slot.unset).toArray = ls at hl ⊢
  have hl : lv_has ls 3 [(0, .ref (q 0)), (1, .int p1), (2, .int p2)] := hl
  have hk26 := hts (.fieldLink RX8 26 "LyndonText" "borderRow" "LLyndonText$Borders;") (by decide +kernel)
  have hk10 := hts (.fieldLink RX8 10 "LyndonText" "text" "LLyndonText$Letters;") (by decide +kernel)
  have huX8 : ∀ w ∈ u_ws RX8 TX8 6, w ∈ wsX8_rotations := by decide +kernel
  unfold fX8_rotations at hf
  refine lv_aload_n hx hb dX8_rotations_0 rfl (lv_at hl 0 rfl) ?_
  refine lv_iload_n hx hb dX8_rotations_1 rfl (lv_at hl 1 rfl) ?_
  refine lv_iload_n hx hb dX8_rotations_2 rfl (lv_at hl 2 rfl) ?_
  rcases bx_some hf with ⟨e3, hc, hf⟩ | ⟨⟨⟩, hc, hf⟩
  · exact nomatch hf
  try dsimp only at hf
  refine g_call0 (ws' := (w_0_1_2_5_6 q cI cJ cD Tn Ta Ba)) (st1 := []) hq [0, 1, 2, 5, 6] [0, 1] [.inl 0, .inl 1, .inr 2, .inr 3, .inr 4] (va_runV (As := [.int p1, .int p2]) (rest := []) ⟨hx, hb, hml, hown, hts⟩ (kX8_checkPart l D cI cJ cD q hq N Tn p1 p2 hc) (cwV 2 hts gX8_rotations_X8_checkPart rfl rfl rfl (by decide +kernel) ⟨(Nat.le_of_ble_eq_true rfl), (Nat.le_of_ble_eq_true rfl)⟩) ⟨gP_blind, va_recv hE.1 hP (ci := 6) (q0 := 0) rfl rfl, fun U hU hW => ⟨rfl, by rw [hU]; exact hP.sub (ws' := (w_0_1 q cI cJ cD Tn)) [0, 1] rfl, gEv.warm hW hE⟩⟩ rfl rfl hl.1 rfl (lv_room (Nat.le_of_ble_eq_true rfl)) dX8_rotations_3 ⟨Nat.zero_le _, Nat.zero_le _⟩) hP hS (gSub rfl) rfl rfl rfl rfl rfl (fun H locs hP hS => ?_)
  refine lv_aload_n hx hb dX8_rotations_6 rfl (lv_at hl 0 rfl) ?_
  refine va_get (D := D) (ci := 6) (v := .ref (q 5)) (C := RX8) (T := TX8) (N := 6) hx hb hts huX8 hown hE.1 hP 0 rfl rfl 2 (by decide) hk26 (fun _ h9 => h9) rfl dX8_rotations_7 ?_
  refine lv_aload_n hx hb dX8_rotations_10 rfl (lv_at hl 0 rfl) ?_
  refine va_get (D := D) (ci := 6) (v := .ref (q 1)) (C := RX8) (T := TX8) (N := 6) hx hb hts huX8 hown hE.1 hP 0 rfl rfl 0 (by decide) hk10 (fun _ h9 => h9) rfl dX8_rotations_11 ?_
  refine lv_iload_n hx hb dX8_rotations_14 rfl (lv_at hl 1 rfl) ?_
  refine lv_iload_n hx hb dX8_rotations_15 rfl (lv_at hl 2 rfl) ?_
  obtain ⟨⟨r16, Ba16⟩, hc, hf⟩ := bn_some hf
  try dsimp only at hf
  refine g_call0 (ws' := (w_0_1_2_5_6 q cI cJ cD Tn Ta Ba16)) (st1 := [.int r16]) hq [0, 1, 2, 5, 6] [1, 2, 5, 6] [.inr 0, .inl 0, .inl 1, .inl 2, .inl 3] (va_runV (As := [.ref (q 1), .int p1, .int p2]) (rest := []) ⟨hx, hb, hml, hown, hts⟩ (kX0_rootSize l D cI cJ cD q hq N Tn Ta Ba p1 p2 r16 Ba16 hc) (cwV 3 hts gX8_rotations_X0_rootSize rfl rfl rfl (by decide +kernel) ⟨(Nat.le_of_ble_eq_true rfl), (Nat.le_of_ble_eq_true rfl)⟩) ⟨gP_blind, va_recv hE.1 hP (ci := 0) (q0 := 3) rfl rfl, fun U hU hW => ⟨rfl, by rw [hU]; exact hP.sub (ws' := (w_1_2_5_6 q cI cJ cD Tn Ta Ba)) [1, 2, 3, 4] rfl, gEv.warm hW hE⟩⟩ rfl rfl hl.1 rfl (lv_room (Nat.le_of_ble_eq_true rfl)) dX8_rotations_16 ⟨Nat.zero_le _, Nat.zero_le _⟩) hP hS (gSub rfl) rfl rfl rfl rfl rfl (fun H locs hP hS => ?_)
  cases hf
  exact W.iret hx hb hr (fun t ht hW => ⟨⟨rfl, by rw [ht]; exact hP⟩, hS.F ht⟩) hS.2.2 dX8_rotations_19
set_option maxHeartbeats 4000000 in
set_option maxRecDepth 100000 in
theorem kX8_rotationsx (l : Launch) (hlt : l.stackTraces = false) (D : va_G) (cI cJ cD : ClassId) (sa : Nat → Nat) (q : Nat → Nat) (hq : gInj 14 q) (N : Nat) (Tn : Int32) (Ta : (Nat → Int32)) (Ba : (Nat → Int32)) (p1 : Int32) (p2 : Int32) (e0 : Nat) (Ba9 : (Nat → Int32)) (hf : fX8_rotations N Tn Ta Ba p1 p2 = some (.inl (e0, Ba9))) : vx_Met l yX8_rotations wsX8_rotations rX8_rotationsx (gPx D cI cJ cD sa (gA q [0, 1, 2, 5, 6]) [.ref (q 0), .int p1, .int p2] (w_0_1_2_5_6 q cI cJ cD Tn Ta Ba)) (fun _ _ _ _ => False) (gX D (gEn e0) (w_0_1_2_5_6 q cI cJ cD Tn Ta Ba9) (gA q [0, 1, 2, 5, 6])) 1 6 (gA q [0, 1, 2, 5, 6]) := by
  refine vx_ofW (cc := cX8_rotations) (maxL := 3) (ret := (some .int)) (by decide +kernel) rfl ?_
  intro p e s m args below meth c s₁ B hml htab hv
  obtain ⟨rfl, hP, hE, hXe⟩ := hv
  have hx := B.exec
  have hb := B.bytes
  have hr := B.returns
  have hts := atoms_spec (ws := wsX8_rotations) B.pre
  have hown : s.vm.findClass RX8 = some m.cls := findClass_of_methodNamed B.named
  have hlocks := B.notSynchronized
  have hS : va_S (gA q [0, 1, 2, 5, 6]) s.heap s.heap [] := va_S.rf
  have hl := lv_entry ([.ref (q 0), .int p1, .int p2]) (n := 3) (Nat.le_of_ble_eq_true rfl)
  rw [lg_entry_eq]
  generalize (lg_sl ([.ref (q 0), .int p1, .int p2]) ++ List.replicate (3 - (lg_sl ([.ref (q 0), .int p1, .int p2])).length) Slot.unset).toArray = ls at hl ⊢
  have hl : lv_has ls 3 [(0, .ref (q 0)), (1, .int p1), (2, .int p2)] := hl
  have hk26 := hts (.fieldLink RX8 26 "LyndonText" "borderRow" "LLyndonText$Borders;") (by decide +kernel)
  have hk10 := hts (.fieldLink RX8 10 "LyndonText" "text" "LLyndonText$Letters;") (by decide +kernel)
  have huX8 : ∀ w ∈ u_ws RX8 TX8 6, w ∈ wsX8_rotations := by decide +kernel
  unfold fX8_rotations at hf
  refine lv_aload_n hx hb dX8_rotations_0 rfl (lv_at hl 0 rfl) ?_
  refine lv_iload_n hx hb dX8_rotations_1 rfl (lv_at hl 1 rfl) ?_
  refine lv_iload_n hx hb dX8_rotations_2 rfl (lv_at hl 2 rfl) ?_
  rcases bx_some hf with ⟨e3, hc, hf⟩ | ⟨⟨⟩, hc, hf⟩
  · try dsimp only at hf
    refine g_callX (ws' := (w_0_1_2_5_6 q cI cJ cD Tn Ta Ba)) hq [0, 1, 2, 5, 6] [0, 1] [.inl 0, .inl 1, .inr 2, .inr 3, .inr 4] (vx_runV (As := [.int p1, .int p2]) (rest := []) ⟨hx, hb, hml, hown, hts⟩ (kX8_checkPartx l hlt D cI cJ cD sa q hq N Tn p1 p2 e3 hc) (cwV 2 hts gX8_rotations_X8_checkPart rfl rfl rfl (by decide +kernel) ⟨(Nat.le_of_ble_eq_true rfl), (Nat.le_of_ble_eq_true rfl)⟩) ⟨gPx_blind, va_recv hE.1 hP (ci := 6) (q0 := 0) rfl rfl, fun U hU hW => ⟨rfl, by rw [hU]; exact hP.sub (ws' := (w_0_1 q cI cJ cD Tn)) [0, 1] rfl, gEv.warm hW hE, gXe.go hW hS (gMono rfl) hXe hU⟩⟩ rfl rfl hl.1 rfl (lv_room (Nat.le_of_ble_eq_true rfl)) dX8_rotations_3 ⟨(Nat.le_of_ble_eq_true rfl), (Nat.le_of_ble_eq_true rfl)⟩) hP hS (gSub rfl) rfl rfl rfl rfl (fun ce q9 H locs hP hS hce hcv hcl => ?_)
    cases hf
    exact vx_out (fun x9 hx9 => (htab x9 hx9).elim) hlocks hce hcv hcl (fun t ht hv => ⟨rfl, by rw [ht]; exact hP, hS.F ht⟩) hS.2.2 (Nat.le_of_ble_eq_true rfl) (Nat.le_of_ble_eq_true rfl)
  try dsimp only at hf
  refine g_call0 (ws' := (w_0_1_2_5_6 q cI cJ cD Tn Ta Ba)) (st1 := []) hq [0, 1, 2, 5, 6] [0, 1] [.inl 0, .inl 1, .inr 2, .inr 3, .inr 4] (va_runV (As := [.int p1, .int p2]) (rest := []) ⟨hx, hb, hml, hown, hts⟩ (kX8_checkPart l D cI cJ cD q hq N Tn p1 p2 hc) (cwV 2 hts gX8_rotations_X8_checkPart rfl rfl rfl (by decide +kernel) ⟨(Nat.le_of_ble_eq_true rfl), (Nat.le_of_ble_eq_true rfl)⟩) ⟨gP_blind, va_recv hE.1 hP (ci := 6) (q0 := 0) rfl rfl, fun U hU hW => ⟨rfl, by rw [hU]; exact hP.sub (ws' := (w_0_1 q cI cJ cD Tn)) [0, 1] rfl, gEv.warm hW hE⟩⟩ rfl rfl hl.1 rfl (lv_room (Nat.le_of_ble_eq_true rfl)) dX8_rotations_3 ⟨Nat.zero_le _, Nat.zero_le _⟩) hP hS (gSub rfl) rfl rfl rfl rfl rfl (fun H locs hP hS => ?_)
  refine lv_aload_n hx hb dX8_rotations_6 rfl (lv_at hl 0 rfl) ?_
  refine va_get (D := D) (ci := 6) (v := .ref (q 5)) (C := RX8) (T := TX8) (N := 6) hx hb hts huX8 hown hE.1 hP 0 rfl rfl 2 (by decide) hk26 (fun _ h9 => h9) rfl dX8_rotations_7 ?_
  refine lv_aload_n hx hb dX8_rotations_10 rfl (lv_at hl 0 rfl) ?_
  refine va_get (D := D) (ci := 6) (v := .ref (q 1)) (C := RX8) (T := TX8) (N := 6) hx hb hts huX8 hown hE.1 hP 0 rfl rfl 0 (by decide) hk10 (fun _ h9 => h9) rfl dX8_rotations_11 ?_
  refine lv_iload_n hx hb dX8_rotations_14 rfl (lv_at hl 1 rfl) ?_
  refine lv_iload_n hx hb dX8_rotations_15 rfl (lv_at hl 2 rfl) ?_
  obtain ⟨⟨r16, Ba16⟩, hc, hf⟩ := bn_some hf
  try dsimp only at hf
  refine g_call0 (ws' := (w_0_1_2_5_6 q cI cJ cD Tn Ta Ba16)) (st1 := [.int r16]) hq [0, 1, 2, 5, 6] [1, 2, 5, 6] [.inr 0, .inl 0, .inl 1, .inl 2, .inl 3] (va_runV (As := [.ref (q 1), .int p1, .int p2]) (rest := []) ⟨hx, hb, hml, hown, hts⟩ (kX0_rootSize l D cI cJ cD q hq N Tn Ta Ba p1 p2 r16 Ba16 hc) (cwV 3 hts gX8_rotations_X0_rootSize rfl rfl rfl (by decide +kernel) ⟨(Nat.le_of_ble_eq_true rfl), (Nat.le_of_ble_eq_true rfl)⟩) ⟨gP_blind, va_recv hE.1 hP (ci := 0) (q0 := 3) rfl rfl, fun U hU hW => ⟨rfl, by rw [hU]; exact hP.sub (ws' := (w_1_2_5_6 q cI cJ cD Tn Ta Ba)) [1, 2, 3, 4] rfl, gEv.warm hW hE⟩⟩ rfl rfl hl.1 rfl (lv_room (Nat.le_of_ble_eq_true rfl)) dX8_rotations_16 ⟨Nat.zero_le _, Nat.zero_le _⟩) hP hS (gSub rfl) rfl rfl rfl rfl rfl (fun H locs hP hS => ?_)
  exact nomatch hf
set_option maxHeartbeats 4000000 in
set_option maxRecDepth 100000 in
theorem kX8_isNecklace (l : Launch) (D : va_G) (cI cJ cD : ClassId) (q : Nat → Nat) (hq : gInj 14 q) (N : Nat) (Tn : Int32) (Ta : (Nat → Int32)) (p1 : Int32) (p2 : Int32) (r0 : Int32) (hf : fX8_isNecklace N Tn Ta p1 p2 = some (.inr r0)) : Met l yX8_isNecklace wsX8_isNecklace rX8_isNecklace (gP D cI cJ cD [.ref (q 0), .int p1, .int p2] (w_0_1_2 q cI cJ cD Tn Ta)) (gQ D (some (.int r0)) (w_0_1_2 q cI cJ cD Tn Ta) (gA q [0, 1, 2])) 0 0 (gA q [0, 1, 2]) := by
  refine Met.ofW (cc := cX8_isNecklace) (maxL := 3) (ret := (some .boolean)) (by decide +kernel) rfl ?_
  intro p e s m args below meth c s₁ B hml hv
  obtain ⟨rfl, hP, hE⟩ := hv
  have hx := B.exec
  have hb := B.bytes
  have hr := B.returns
  have hts := atoms_spec (ws := wsX8_isNecklace) B.pre
  have hown : s.vm.findClass RX8 = some m.cls := findClass_of_methodNamed B.named
  have hlocks := B.notSynchronized
  have hS : va_S (gA q [0, 1, 2]) s.heap s.heap [] := va_S.rf
  have hl := lv_entry ([.ref (q 0), .int p1, .int p2]) (n := 3) (Nat.le_of_ble_eq_true rfl)
  rw [lg_entry_eq]
  generalize (lg_sl ([.ref (q 0), .int p1, .int p2]) ++ List.replicate (3 - (lg_sl ([.ref (q 0), .int p1, .int p2])).length) Slot.unset).toArray = ls at hl ⊢
  have hl : lv_has ls 3 [(0, .ref (q 0)), (1, .int p1), (2, .int p2)] := hl
  have hk10 := hts (.fieldLink RX8 10 "LyndonText" "text" "LLyndonText$Letters;") (by decide +kernel)
  have huX8 : ∀ w ∈ u_ws RX8 TX8 6, w ∈ wsX8_isNecklace := by decide +kernel
  have J23 : ∀ (y0 : Int32), fX8_isNecklace_J23 N Tn Ta y0 = some (.inr r0) → ∀ (H : Heap) (locs : List Loc), va_P D vwCl (w_0_1_2 q cI cJ cD Tn Ta) H → va_S (gA q [0, 1, 2]) s.heap H locs → ∀ ls : Array Slot, lv_has ls 3 [] → W p l e (headSpec wsX8_isNecklace rX8_isNecklace).room s m ([.ref (q 0), .int p1, .int p2] : List Value).toArray below meth c H locs 0 0 (MQ below (gQ D (some (.int r0)) (w_0_1_2 q cI cJ cD Tn Ta) (gA q [0, 1, 2])) ([.ref (q 0), .int p1, .int p2] : List Value).toArray s 0 0 (gA q [0, 1, 2])) (F0 m 23 ls [.int y0]) := by
    intro y0 hf H locs hP hS ls hl
    unfold fX8_isNecklace_J23 at hf
    obtain ⟨g_1, hf⟩ := gd_some hf
    cases hf
    exact W.zret (ty := .boolean) hx hb hr (isB_nar g_1) (fun t ht hW => ⟨⟨rfl, by rw [ht]; exact hP⟩, hS.F ht⟩) hS.2.2 dX8_isNecklace_23
  unfold fX8_isNecklace at hf
  refine lv_aload_n hx hb dX8_isNecklace_0 rfl (lv_at hl 0 rfl) ?_
  refine lv_iload_n hx hb dX8_isNecklace_1 rfl (lv_at hl 1 rfl) ?_
  refine lv_iload_n hx hb dX8_isNecklace_2 rfl (lv_at hl 2 rfl) ?_
  rcases bx_some hf with ⟨e3, hc, hf⟩ | ⟨⟨⟩, hc, hf⟩
  · exact nomatch hf
  try dsimp only at hf
  refine g_call0 (ws' := (w_0_1_2 q cI cJ cD Tn Ta)) (st1 := []) hq [0, 1, 2] [0, 1] [.inl 0, .inl 1, .inr 2] (va_runV (As := [.int p1, .int p2]) (rest := []) ⟨hx, hb, hml, hown, hts⟩ (kX8_checkPart l D cI cJ cD q hq N Tn p1 p2 hc) (cwV 2 hts gX8_isNecklace_X8_checkPart rfl rfl rfl (by decide +kernel) ⟨(Nat.le_of_ble_eq_true rfl), (Nat.le_of_ble_eq_true rfl)⟩) ⟨gP_blind, va_recv hE.1 hP (ci := 6) (q0 := 0) rfl rfl, fun U hU hW => ⟨rfl, by rw [hU]; exact hP.sub (ws' := (w_0_1 q cI cJ cD Tn)) [0, 1] rfl, gEv.warm hW hE⟩⟩ rfl rfl hl.1 rfl (lv_room (Nat.le_of_ble_eq_true rfl)) dX8_isNecklace_3 ⟨Nat.zero_le _, Nat.zero_le _⟩) hP hS (gSub rfl) rfl rfl rfl rfl rfl (fun H locs hP hS => ?_)
  refine lv_aload_n hx hb dX8_isNecklace_6 rfl (lv_at hl 0 rfl) ?_
  refine va_get (D := D) (ci := 6) (v := .ref (q 1)) (C := RX8) (T := TX8) (N := 6) hx hb hts huX8 hown hE.1 hP 0 rfl rfl 0 (by decide) hk10 (fun _ h9 => h9) rfl dX8_isNecklace_7 ?_
  refine lv_iload_n hx hb dX8_isNecklace_10 rfl (lv_at hl 1 rfl) ?_
  refine lv_iload_n hx hb dX8_isNecklace_11 rfl (lv_at hl 2 rfl) ?_
  obtain ⟨r12, hc, hf⟩ := bn_some hf
  try dsimp only at hf
  refine g_call0 (ws' := (w_0_1_2 q cI cJ cD Tn Ta)) (st1 := [.int r12]) hq [0, 1, 2] [1, 2] [.inr 0, .inl 0, .inl 1] (va_runS (As := [.ref (q 1), .int p1, .int p2]) (rest := []) ⟨hx, hb, hml, hown, hts⟩ (kX5_least l D cI cJ cD q hq N Tn Ta p1 p2 r12 hc) (va_cwS 3 hts gX8_isNecklace_X5_least rfl rfl rfl (by decide +kernel) ⟨(Nat.le_of_ble_eq_true rfl), (Nat.le_of_ble_eq_true rfl)⟩) ⟨gP_blind, fun U hU hW => ⟨rfl, by rw [hU]; exact hP.sub (ws' := (w_1_2 q cI cJ cD Tn Ta)) [1, 2] rfl, gEv.warm hW hE⟩⟩ rfl rfl hl.1 rfl (lv_room (Nat.le_of_ble_eq_true rfl)) dX8_isNecklace_12 ⟨Nat.zero_le _, Nat.zero_le _⟩) hP hS (gSub rfl) rfl rfl rfl rfl rfl (fun H locs hP hS => ?_)
  refine lv_if_ne (tgt := 22) hx hb dX8_isNecklace_15 (by decide) (fun c_2 => ?_) (fun c_2 => ?_)
  · have hf := (if_neg c_2).symm.trans hf
    refine lv_iconst (v := (0 : Int32)) hx hb dX8_isNecklace_22 (by decide) ?_
    exact J23 (0 : Int32) hf _ _ hP hS _ (lv_sub hl [] rfl)
  · have hf := (if_pos c_2).symm.trans hf
    refine lv_iconst (v := (1 : Int32)) hx hb dX8_isNecklace_18 (by decide) ?_
    refine lv_goto (tgt := 23) hx hb dX8_isNecklace_19 (by decide) ?_
    exact J23 (1 : Int32) hf _ _ hP hS _ (lv_sub hl [] rfl)
set_option maxHeartbeats 4000000 in
set_option maxRecDepth 100000 in
theorem kX8_isNecklacex (l : Launch) (hlt : l.stackTraces = false) (D : va_G) (cI cJ cD : ClassId) (sa : Nat → Nat) (q : Nat → Nat) (hq : gInj 14 q) (N : Nat) (Tn : Int32) (Ta : (Nat → Int32)) (p1 : Int32) (p2 : Int32) (e0 : Nat) (hf : fX8_isNecklace N Tn Ta p1 p2 = some (.inl e0)) : vx_Met l yX8_isNecklace wsX8_isNecklace rX8_isNecklacex (gPx D cI cJ cD sa (gA q [0, 1, 2]) [.ref (q 0), .int p1, .int p2] (w_0_1_2 q cI cJ cD Tn Ta)) (fun _ _ _ _ => False) (gX D (gEn e0) (w_0_1_2 q cI cJ cD Tn Ta) (gA q [0, 1, 2])) 1 6 (gA q [0, 1, 2]) := by
  refine vx_ofW (cc := cX8_isNecklace) (maxL := 3) (ret := (some .boolean)) (by decide +kernel) rfl ?_
  intro p e s m args below meth c s₁ B hml htab hv
  obtain ⟨rfl, hP, hE, hXe⟩ := hv
  have hx := B.exec
  have hb := B.bytes
  have hr := B.returns
  have hts := atoms_spec (ws := wsX8_isNecklace) B.pre
  have hown : s.vm.findClass RX8 = some m.cls := findClass_of_methodNamed B.named
  have hlocks := B.notSynchronized
  have hS : va_S (gA q [0, 1, 2]) s.heap s.heap [] := va_S.rf
  have hl := lv_entry ([.ref (q 0), .int p1, .int p2]) (n := 3) (Nat.le_of_ble_eq_true rfl)
  rw [lg_entry_eq]
  generalize (lg_sl ([.ref (q 0), .int p1, .int p2]) ++ List.replicate (3 - (lg_sl ([.ref (q 0), .int p1, .int p2])).length) Slot.unset).toArray = ls at hl ⊢
  have hl : lv_has ls 3 [(0, .ref (q 0)), (1, .int p1), (2, .int p2)] := hl
  have hk10 := hts (.fieldLink RX8 10 "LyndonText" "text" "LLyndonText$Letters;") (by decide +kernel)
  have huX8 : ∀ w ∈ u_ws RX8 TX8 6, w ∈ wsX8_isNecklace := by decide +kernel
  have J23 : ∀ (y0 : Int32), fX8_isNecklace_J23 N Tn Ta y0 = some (.inl e0) → ∀ (H : Heap) (locs : List Loc), va_P D vwCl (w_0_1_2 q cI cJ cD Tn Ta) H → va_S (gA q [0, 1, 2]) s.heap H locs → ∀ ls : Array Slot, lv_has ls 3 [] → W p l e (headSpec wsX8_isNecklace rX8_isNecklacex).room s m ([.ref (q 0), .int p1, .int p2] : List Value).toArray below meth c H locs 0 0 (vx_MQ below (fun _ _ _ _ => False) (gX D (gEn e0) (w_0_1_2 q cI cJ cD Tn Ta) (gA q [0, 1, 2])) ([.ref (q 0), .int p1, .int p2] : List Value).toArray s 1 6 (gA q [0, 1, 2])) (F0 m 23 ls [.int y0]) := by
    intro y0 hf H locs hP hS ls hl
    unfold fX8_isNecklace_J23 at hf
    obtain ⟨-, hf⟩ := gd_some hf
    exact nomatch hf
  unfold fX8_isNecklace at hf
  refine lv_aload_n hx hb dX8_isNecklace_0 rfl (lv_at hl 0 rfl) ?_
  refine lv_iload_n hx hb dX8_isNecklace_1 rfl (lv_at hl 1 rfl) ?_
  refine lv_iload_n hx hb dX8_isNecklace_2 rfl (lv_at hl 2 rfl) ?_
  rcases bx_some hf with ⟨e3, hc, hf⟩ | ⟨⟨⟩, hc, hf⟩
  · try dsimp only at hf
    refine g_callX (ws' := (w_0_1_2 q cI cJ cD Tn Ta)) hq [0, 1, 2] [0, 1] [.inl 0, .inl 1, .inr 2] (vx_runV (As := [.int p1, .int p2]) (rest := []) ⟨hx, hb, hml, hown, hts⟩ (kX8_checkPartx l hlt D cI cJ cD sa q hq N Tn p1 p2 e3 hc) (cwV 2 hts gX8_isNecklace_X8_checkPart rfl rfl rfl (by decide +kernel) ⟨(Nat.le_of_ble_eq_true rfl), (Nat.le_of_ble_eq_true rfl)⟩) ⟨gPx_blind, va_recv hE.1 hP (ci := 6) (q0 := 0) rfl rfl, fun U hU hW => ⟨rfl, by rw [hU]; exact hP.sub (ws' := (w_0_1 q cI cJ cD Tn)) [0, 1] rfl, gEv.warm hW hE, gXe.go hW hS (gMono rfl) hXe hU⟩⟩ rfl rfl hl.1 rfl (lv_room (Nat.le_of_ble_eq_true rfl)) dX8_isNecklace_3 ⟨(Nat.le_of_ble_eq_true rfl), (Nat.le_of_ble_eq_true rfl)⟩) hP hS (gSub rfl) rfl rfl rfl rfl (fun ce q9 H locs hP hS hce hcv hcl => ?_)
    cases hf
    exact vx_out (fun x9 hx9 => (htab x9 hx9).elim) hlocks hce hcv hcl (fun t ht hv => ⟨rfl, by rw [ht]; exact hP, hS.F ht⟩) hS.2.2 (Nat.le_of_ble_eq_true rfl) (Nat.le_of_ble_eq_true rfl)
  try dsimp only at hf
  refine g_call0 (ws' := (w_0_1_2 q cI cJ cD Tn Ta)) (st1 := []) hq [0, 1, 2] [0, 1] [.inl 0, .inl 1, .inr 2] (va_runV (As := [.int p1, .int p2]) (rest := []) ⟨hx, hb, hml, hown, hts⟩ (kX8_checkPart l D cI cJ cD q hq N Tn p1 p2 hc) (cwV 2 hts gX8_isNecklace_X8_checkPart rfl rfl rfl (by decide +kernel) ⟨(Nat.le_of_ble_eq_true rfl), (Nat.le_of_ble_eq_true rfl)⟩) ⟨gP_blind, va_recv hE.1 hP (ci := 6) (q0 := 0) rfl rfl, fun U hU hW => ⟨rfl, by rw [hU]; exact hP.sub (ws' := (w_0_1 q cI cJ cD Tn)) [0, 1] rfl, gEv.warm hW hE⟩⟩ rfl rfl hl.1 rfl (lv_room (Nat.le_of_ble_eq_true rfl)) dX8_isNecklace_3 ⟨Nat.zero_le _, Nat.zero_le _⟩) hP hS (gSub rfl) rfl rfl rfl rfl rfl (fun H locs hP hS => ?_)
  refine lv_aload_n hx hb dX8_isNecklace_6 rfl (lv_at hl 0 rfl) ?_
  refine va_get (D := D) (ci := 6) (v := .ref (q 1)) (C := RX8) (T := TX8) (N := 6) hx hb hts huX8 hown hE.1 hP 0 rfl rfl 0 (by decide) hk10 (fun _ h9 => h9) rfl dX8_isNecklace_7 ?_
  refine lv_iload_n hx hb dX8_isNecklace_10 rfl (lv_at hl 1 rfl) ?_
  refine lv_iload_n hx hb dX8_isNecklace_11 rfl (lv_at hl 2 rfl) ?_
  obtain ⟨r12, hc, hf⟩ := bn_some hf
  try dsimp only at hf
  refine g_call0 (ws' := (w_0_1_2 q cI cJ cD Tn Ta)) (st1 := [.int r12]) hq [0, 1, 2] [1, 2] [.inr 0, .inl 0, .inl 1] (va_runS (As := [.ref (q 1), .int p1, .int p2]) (rest := []) ⟨hx, hb, hml, hown, hts⟩ (kX5_least l D cI cJ cD q hq N Tn Ta p1 p2 r12 hc) (va_cwS 3 hts gX8_isNecklace_X5_least rfl rfl rfl (by decide +kernel) ⟨(Nat.le_of_ble_eq_true rfl), (Nat.le_of_ble_eq_true rfl)⟩) ⟨gP_blind, fun U hU hW => ⟨rfl, by rw [hU]; exact hP.sub (ws' := (w_1_2 q cI cJ cD Tn Ta)) [1, 2] rfl, gEv.warm hW hE⟩⟩ rfl rfl hl.1 rfl (lv_room (Nat.le_of_ble_eq_true rfl)) dX8_isNecklace_12 ⟨Nat.zero_le _, Nat.zero_le _⟩) hP hS (gSub rfl) rfl rfl rfl rfl rfl (fun H locs hP hS => ?_)
  refine lv_if_ne (tgt := 22) hx hb dX8_isNecklace_15 (by decide) (fun c_1 => ?_) (fun c_1 => ?_)
  · have hf := (if_neg c_1).symm.trans hf
    refine lv_iconst (v := (0 : Int32)) hx hb dX8_isNecklace_22 (by decide) ?_
    exact J23 (0 : Int32) hf _ _ hP hS _ (lv_sub hl [] rfl)
  · have hf := (if_pos c_1).symm.trans hf
    refine lv_iconst (v := (1 : Int32)) hx hb dX8_isNecklace_18 (by decide) ?_
    refine lv_goto (tgt := 23) hx hb dX8_isNecklace_19 (by decide) ?_
    exact J23 (1 : Int32) hf _ _ hP hS _ (lv_sub hl [] rfl)
set_option maxHeartbeats 4000000 in
set_option maxRecDepth 100000 in
theorem kX8_period (l : Launch) (D : va_G) (cI cJ cD : ClassId) (q : Nat → Nat) (hq : gInj 14 q) (N : Nat) (Tn : Int32) (Ta : (Nat → Int32)) (Ba : (Nat → Int32)) (p1 : Int32) (p2 : Int32) (r0 : Int32) (Ba9 : (Nat → Int32)) (hf : fX8_period N Tn Ta Ba p1 p2 = some (.inr (r0, Ba9))) : Met l yX8_period wsX8_period rX8_period (gP D cI cJ cD [.ref (q 0), .int p1, .int p2] (w_0_1_2_5_6 q cI cJ cD Tn Ta Ba)) (gQ D (some (.int r0)) (w_0_1_2_5_6 q cI cJ cD Tn Ta Ba9) (gA q [0, 1, 2, 5, 6])) 0 0 (gA q [0, 1, 2, 5, 6]) := by
  refine Met.ofW (cc := cX8_period) (maxL := 3) (ret := (some .int)) (by decide +kernel) rfl ?_
  intro p e s m args below meth c s₁ B hml hv
  obtain ⟨rfl, hP, hE⟩ := hv
  have hx := B.exec
  have hb := B.bytes
  have hr := B.returns
  have hts := atoms_spec (ws := wsX8_period) B.pre
  have hown : s.vm.findClass RX8 = some m.cls := findClass_of_methodNamed B.named
  have hlocks := B.notSynchronized
  have hS : va_S (gA q [0, 1, 2, 5, 6]) s.heap s.heap [] := va_S.rf
  have hl := lv_entry ([.ref (q 0), .int p1, .int p2]) (n := 3) (Nat.le_of_ble_eq_true rfl)
  rw [lg_entry_eq]
  generalize (lg_sl ([.ref (q 0), .int p1, .int p2]) ++ List.replicate (3 - (lg_sl ([.ref (q 0), .int p1, .int p2])).length) Slot.unset).toArray = ls at hl ⊢
  have hl : lv_has ls 3 [(0, .ref (q 0)), (1, .int p1), (2, .int p2)] := hl
  have hk26 := hts (.fieldLink RX8 26 "LyndonText" "borderRow" "LLyndonText$Borders;") (by decide +kernel)
  have hk10 := hts (.fieldLink RX8 10 "LyndonText" "text" "LLyndonText$Letters;") (by decide +kernel)
  have huX8 : ∀ w ∈ u_ws RX8 TX8 6, w ∈ wsX8_period := by decide +kernel
  unfold fX8_period at hf
  refine lv_aload_n hx hb dX8_period_0 rfl (lv_at hl 0 rfl) ?_
  refine lv_iload_n hx hb dX8_period_1 rfl (lv_at hl 1 rfl) ?_
  refine lv_iload_n hx hb dX8_period_2 rfl (lv_at hl 2 rfl) ?_
  rcases bx_some hf with ⟨e3, hc, hf⟩ | ⟨⟨⟩, hc, hf⟩
  · exact nomatch hf
  try dsimp only at hf
  refine g_call0 (ws' := (w_0_1_2_5_6 q cI cJ cD Tn Ta Ba)) (st1 := []) hq [0, 1, 2, 5, 6] [0, 1] [.inl 0, .inl 1, .inr 2, .inr 3, .inr 4] (va_runV (As := [.int p1, .int p2]) (rest := []) ⟨hx, hb, hml, hown, hts⟩ (kX8_checkPart l D cI cJ cD q hq N Tn p1 p2 hc) (cwV 2 hts gX8_period_X8_checkPart rfl rfl rfl (by decide +kernel) ⟨(Nat.le_of_ble_eq_true rfl), (Nat.le_of_ble_eq_true rfl)⟩) ⟨gP_blind, va_recv hE.1 hP (ci := 6) (q0 := 0) rfl rfl, fun U hU hW => ⟨rfl, by rw [hU]; exact hP.sub (ws' := (w_0_1 q cI cJ cD Tn)) [0, 1] rfl, gEv.warm hW hE⟩⟩ rfl rfl hl.1 rfl (lv_room (Nat.le_of_ble_eq_true rfl)) dX8_period_3 ⟨Nat.zero_le _, Nat.zero_le _⟩) hP hS (gSub rfl) rfl rfl rfl rfl rfl (fun H locs hP hS => ?_)
  refine lv_aload_n hx hb dX8_period_6 rfl (lv_at hl 0 rfl) ?_
  refine va_get (D := D) (ci := 6) (v := .ref (q 5)) (C := RX8) (T := TX8) (N := 6) hx hb hts huX8 hown hE.1 hP 0 rfl rfl 2 (by decide) hk26 (fun _ h9 => h9) rfl dX8_period_7 ?_
  refine lv_aload_n hx hb dX8_period_10 rfl (lv_at hl 0 rfl) ?_
  refine va_get (D := D) (ci := 6) (v := .ref (q 1)) (C := RX8) (T := TX8) (N := 6) hx hb hts huX8 hown hE.1 hP 0 rfl rfl 0 (by decide) hk10 (fun _ h9 => h9) rfl dX8_period_11 ?_
  refine lv_iload_n hx hb dX8_period_14 rfl (lv_at hl 1 rfl) ?_
  refine lv_iload_n hx hb dX8_period_15 rfl (lv_at hl 2 rfl) ?_
  obtain ⟨⟨r16, Ba16⟩, hc, hf⟩ := bn_some hf
  try dsimp only at hf
  refine g_call0 (ws' := (w_0_1_2_5_6 q cI cJ cD Tn Ta Ba16)) (st1 := [.int r16]) hq [0, 1, 2, 5, 6] [1, 2, 5, 6] [.inr 0, .inl 0, .inl 1, .inl 2, .inl 3] (va_runV (As := [.ref (q 1), .int p1, .int p2]) (rest := []) ⟨hx, hb, hml, hown, hts⟩ (kX0_leastPeriod l D cI cJ cD q hq N Tn Ta Ba p1 p2 r16 Ba16 hc) (cwV 3 hts gX8_period_X0_leastPeriod rfl rfl rfl (by decide +kernel) ⟨(Nat.le_of_ble_eq_true rfl), (Nat.le_of_ble_eq_true rfl)⟩) ⟨gP_blind, va_recv hE.1 hP (ci := 0) (q0 := 3) rfl rfl, fun U hU hW => ⟨rfl, by rw [hU]; exact hP.sub (ws' := (w_1_2_5_6 q cI cJ cD Tn Ta Ba)) [1, 2, 3, 4] rfl, gEv.warm hW hE⟩⟩ rfl rfl hl.1 rfl (lv_room (Nat.le_of_ble_eq_true rfl)) dX8_period_16 ⟨Nat.zero_le _, Nat.zero_le _⟩) hP hS (gSub rfl) rfl rfl rfl rfl rfl (fun H locs hP hS => ?_)
  cases hf
  exact W.iret hx hb hr (fun t ht hW => ⟨⟨rfl, by rw [ht]; exact hP⟩, hS.F ht⟩) hS.2.2 dX8_period_19
set_option maxHeartbeats 4000000 in
set_option maxRecDepth 100000 in
theorem kX8_periodx (l : Launch) (hlt : l.stackTraces = false) (D : va_G) (cI cJ cD : ClassId) (sa : Nat → Nat) (q : Nat → Nat) (hq : gInj 14 q) (N : Nat) (Tn : Int32) (Ta : (Nat → Int32)) (Ba : (Nat → Int32)) (p1 : Int32) (p2 : Int32) (e0 : Nat) (Ba9 : (Nat → Int32)) (hf : fX8_period N Tn Ta Ba p1 p2 = some (.inl (e0, Ba9))) : vx_Met l yX8_period wsX8_period rX8_periodx (gPx D cI cJ cD sa (gA q [0, 1, 2, 5, 6]) [.ref (q 0), .int p1, .int p2] (w_0_1_2_5_6 q cI cJ cD Tn Ta Ba)) (fun _ _ _ _ => False) (gX D (gEn e0) (w_0_1_2_5_6 q cI cJ cD Tn Ta Ba9) (gA q [0, 1, 2, 5, 6])) 1 6 (gA q [0, 1, 2, 5, 6]) := by
  refine vx_ofW (cc := cX8_period) (maxL := 3) (ret := (some .int)) (by decide +kernel) rfl ?_
  intro p e s m args below meth c s₁ B hml htab hv
  obtain ⟨rfl, hP, hE, hXe⟩ := hv
  have hx := B.exec
  have hb := B.bytes
  have hr := B.returns
  have hts := atoms_spec (ws := wsX8_period) B.pre
  have hown : s.vm.findClass RX8 = some m.cls := findClass_of_methodNamed B.named
  have hlocks := B.notSynchronized
  have hS : va_S (gA q [0, 1, 2, 5, 6]) s.heap s.heap [] := va_S.rf
  have hl := lv_entry ([.ref (q 0), .int p1, .int p2]) (n := 3) (Nat.le_of_ble_eq_true rfl)
  rw [lg_entry_eq]
  generalize (lg_sl ([.ref (q 0), .int p1, .int p2]) ++ List.replicate (3 - (lg_sl ([.ref (q 0), .int p1, .int p2])).length) Slot.unset).toArray = ls at hl ⊢
  have hl : lv_has ls 3 [(0, .ref (q 0)), (1, .int p1), (2, .int p2)] := hl
  have hk26 := hts (.fieldLink RX8 26 "LyndonText" "borderRow" "LLyndonText$Borders;") (by decide +kernel)
  have hk10 := hts (.fieldLink RX8 10 "LyndonText" "text" "LLyndonText$Letters;") (by decide +kernel)
  have huX8 : ∀ w ∈ u_ws RX8 TX8 6, w ∈ wsX8_period := by decide +kernel
  unfold fX8_period at hf
  refine lv_aload_n hx hb dX8_period_0 rfl (lv_at hl 0 rfl) ?_
  refine lv_iload_n hx hb dX8_period_1 rfl (lv_at hl 1 rfl) ?_
  refine lv_iload_n hx hb dX8_period_2 rfl (lv_at hl 2 rfl) ?_
  rcases bx_some hf with ⟨e3, hc, hf⟩ | ⟨⟨⟩, hc, hf⟩
  · try dsimp only at hf
    refine g_callX (ws' := (w_0_1_2_5_6 q cI cJ cD Tn Ta Ba)) hq [0, 1, 2, 5, 6] [0, 1] [.inl 0, .inl 1, .inr 2, .inr 3, .inr 4] (vx_runV (As := [.int p1, .int p2]) (rest := []) ⟨hx, hb, hml, hown, hts⟩ (kX8_checkPartx l hlt D cI cJ cD sa q hq N Tn p1 p2 e3 hc) (cwV 2 hts gX8_period_X8_checkPart rfl rfl rfl (by decide +kernel) ⟨(Nat.le_of_ble_eq_true rfl), (Nat.le_of_ble_eq_true rfl)⟩) ⟨gPx_blind, va_recv hE.1 hP (ci := 6) (q0 := 0) rfl rfl, fun U hU hW => ⟨rfl, by rw [hU]; exact hP.sub (ws' := (w_0_1 q cI cJ cD Tn)) [0, 1] rfl, gEv.warm hW hE, gXe.go hW hS (gMono rfl) hXe hU⟩⟩ rfl rfl hl.1 rfl (lv_room (Nat.le_of_ble_eq_true rfl)) dX8_period_3 ⟨(Nat.le_of_ble_eq_true rfl), (Nat.le_of_ble_eq_true rfl)⟩) hP hS (gSub rfl) rfl rfl rfl rfl (fun ce q9 H locs hP hS hce hcv hcl => ?_)
    cases hf
    exact vx_out (fun x9 hx9 => (htab x9 hx9).elim) hlocks hce hcv hcl (fun t ht hv => ⟨rfl, by rw [ht]; exact hP, hS.F ht⟩) hS.2.2 (Nat.le_of_ble_eq_true rfl) (Nat.le_of_ble_eq_true rfl)
  try dsimp only at hf
  refine g_call0 (ws' := (w_0_1_2_5_6 q cI cJ cD Tn Ta Ba)) (st1 := []) hq [0, 1, 2, 5, 6] [0, 1] [.inl 0, .inl 1, .inr 2, .inr 3, .inr 4] (va_runV (As := [.int p1, .int p2]) (rest := []) ⟨hx, hb, hml, hown, hts⟩ (kX8_checkPart l D cI cJ cD q hq N Tn p1 p2 hc) (cwV 2 hts gX8_period_X8_checkPart rfl rfl rfl (by decide +kernel) ⟨(Nat.le_of_ble_eq_true rfl), (Nat.le_of_ble_eq_true rfl)⟩) ⟨gP_blind, va_recv hE.1 hP (ci := 6) (q0 := 0) rfl rfl, fun U hU hW => ⟨rfl, by rw [hU]; exact hP.sub (ws' := (w_0_1 q cI cJ cD Tn)) [0, 1] rfl, gEv.warm hW hE⟩⟩ rfl rfl hl.1 rfl (lv_room (Nat.le_of_ble_eq_true rfl)) dX8_period_3 ⟨Nat.zero_le _, Nat.zero_le _⟩) hP hS (gSub rfl) rfl rfl rfl rfl rfl (fun H locs hP hS => ?_)
  refine lv_aload_n hx hb dX8_period_6 rfl (lv_at hl 0 rfl) ?_
  refine va_get (D := D) (ci := 6) (v := .ref (q 5)) (C := RX8) (T := TX8) (N := 6) hx hb hts huX8 hown hE.1 hP 0 rfl rfl 2 (by decide) hk26 (fun _ h9 => h9) rfl dX8_period_7 ?_
  refine lv_aload_n hx hb dX8_period_10 rfl (lv_at hl 0 rfl) ?_
  refine va_get (D := D) (ci := 6) (v := .ref (q 1)) (C := RX8) (T := TX8) (N := 6) hx hb hts huX8 hown hE.1 hP 0 rfl rfl 0 (by decide) hk10 (fun _ h9 => h9) rfl dX8_period_11 ?_
  refine lv_iload_n hx hb dX8_period_14 rfl (lv_at hl 1 rfl) ?_
  refine lv_iload_n hx hb dX8_period_15 rfl (lv_at hl 2 rfl) ?_
  obtain ⟨⟨r16, Ba16⟩, hc, hf⟩ := bn_some hf
  try dsimp only at hf
  refine g_call0 (ws' := (w_0_1_2_5_6 q cI cJ cD Tn Ta Ba16)) (st1 := [.int r16]) hq [0, 1, 2, 5, 6] [1, 2, 5, 6] [.inr 0, .inl 0, .inl 1, .inl 2, .inl 3] (va_runV (As := [.ref (q 1), .int p1, .int p2]) (rest := []) ⟨hx, hb, hml, hown, hts⟩ (kX0_leastPeriod l D cI cJ cD q hq N Tn Ta Ba p1 p2 r16 Ba16 hc) (cwV 3 hts gX8_period_X0_leastPeriod rfl rfl rfl (by decide +kernel) ⟨(Nat.le_of_ble_eq_true rfl), (Nat.le_of_ble_eq_true rfl)⟩) ⟨gP_blind, va_recv hE.1 hP (ci := 0) (q0 := 3) rfl rfl, fun U hU hW => ⟨rfl, by rw [hU]; exact hP.sub (ws' := (w_1_2_5_6 q cI cJ cD Tn Ta Ba)) [1, 2, 3, 4] rfl, gEv.warm hW hE⟩⟩ rfl rfl hl.1 rfl (lv_room (Nat.le_of_ble_eq_true rfl)) dX8_period_16 ⟨Nat.zero_le _, Nat.zero_le _⟩) hP hS (gSub rfl) rfl rfl rfl rfl rfl (fun H locs hP hS => ?_)
  exact nomatch hf
set_option maxHeartbeats 4000000 in
set_option maxRecDepth 100000 in
theorem kX8_periodByTrying (l : Launch) (D : va_G) (cI cJ cD : ClassId) (q : Nat → Nat) (hq : gInj 14 q) (N : Nat) (Tn : Int32) (Ta : (Nat → Int32)) (p1 : Int32) (p2 : Int32) (r0 : Int32) (hf : fX8_periodByTrying N Tn Ta p1 p2 = some (.inr r0)) : Met l yX8_periodByTrying wsX8_periodByTrying rX8_periodByTrying (gP D cI cJ cD [.ref (q 0), .int p1, .int p2] (w_0_1_2 q cI cJ cD Tn Ta)) (gQ D (some (.int r0)) (w_0_1_2 q cI cJ cD Tn Ta) (gA q [0, 1, 2])) 0 0 (gA q [0, 1, 2]) := by
  refine Met.ofW (cc := cX8_periodByTrying) (maxL := 3) (ret := (some .int)) (by decide +kernel) rfl ?_
  intro p e s m args below meth c s₁ B hml hv
  obtain ⟨rfl, hP, hE⟩ := hv
  have hx := B.exec
  have hb := B.bytes
  have hr := B.returns
  have hts := atoms_spec (ws := wsX8_periodByTrying) B.pre
  have hown : s.vm.findClass RX8 = some m.cls := findClass_of_methodNamed B.named
  have hlocks := B.notSynchronized
  have hS : va_S (gA q [0, 1, 2]) s.heap s.heap [] := va_S.rf
  have hl := lv_entry ([.ref (q 0), .int p1, .int p2]) (n := 3) (Nat.le_of_ble_eq_true rfl)
  rw [lg_entry_eq]
  generalize (lg_sl ([.ref (q 0), .int p1, .int p2]) ++ List.replicate (3 - (lg_sl ([.ref (q 0), .int p1, .int p2])).length) Slot.unset).toArray = ls at hl ⊢
  have hl : lv_has ls 3 [(0, .ref (q 0)), (1, .int p1), (2, .int p2)] := hl
  have hk10 := hts (.fieldLink RX8 10 "LyndonText" "text" "LLyndonText$Letters;") (by decide +kernel)
  have huX8 : ∀ w ∈ u_ws RX8 TX8 6, w ∈ wsX8_periodByTrying := by decide +kernel
  unfold fX8_periodByTrying at hf
  refine lv_aload_n hx hb dX8_periodByTrying_0 rfl (lv_at hl 0 rfl) ?_
  refine lv_iload_n hx hb dX8_periodByTrying_1 rfl (lv_at hl 1 rfl) ?_
  refine lv_iload_n hx hb dX8_periodByTrying_2 rfl (lv_at hl 2 rfl) ?_
  rcases bx_some hf with ⟨e3, hc, hf⟩ | ⟨⟨⟩, hc, hf⟩
  · exact nomatch hf
  try dsimp only at hf
  refine g_call0 (ws' := (w_0_1_2 q cI cJ cD Tn Ta)) (st1 := []) hq [0, 1, 2] [0, 1] [.inl 0, .inl 1, .inr 2] (va_runV (As := [.int p1, .int p2]) (rest := []) ⟨hx, hb, hml, hown, hts⟩ (kX8_checkPart l D cI cJ cD q hq N Tn p1 p2 hc) (cwV 2 hts gX8_periodByTrying_X8_checkPart rfl rfl rfl (by decide +kernel) ⟨(Nat.le_of_ble_eq_true rfl), (Nat.le_of_ble_eq_true rfl)⟩) ⟨gP_blind, va_recv hE.1 hP (ci := 6) (q0 := 0) rfl rfl, fun U hU hW => ⟨rfl, by rw [hU]; exact hP.sub (ws' := (w_0_1 q cI cJ cD Tn)) [0, 1] rfl, gEv.warm hW hE⟩⟩ rfl rfl hl.1 rfl (lv_room (Nat.le_of_ble_eq_true rfl)) dX8_periodByTrying_3 ⟨Nat.zero_le _, Nat.zero_le _⟩) hP hS (gSub rfl) rfl rfl rfl rfl rfl (fun H locs hP hS => ?_)
  refine lv_aload_n hx hb dX8_periodByTrying_6 rfl (lv_at hl 0 rfl) ?_
  refine va_get (D := D) (ci := 6) (v := .ref (q 1)) (C := RX8) (T := TX8) (N := 6) hx hb hts huX8 hown hE.1 hP 0 rfl rfl 0 (by decide) hk10 (fun _ h9 => h9) rfl dX8_periodByTrying_7 ?_
  refine lv_iload_n hx hb dX8_periodByTrying_10 rfl (lv_at hl 1 rfl) ?_
  refine lv_iload_n hx hb dX8_periodByTrying_11 rfl (lv_at hl 2 rfl) ?_
  obtain ⟨r12, hc, hf⟩ := bn_some hf
  try dsimp only at hf
  refine g_call0 (ws' := (w_0_1_2 q cI cJ cD Tn Ta)) (st1 := [.int r12]) hq [0, 1, 2] [1, 2] [.inr 0, .inl 0, .inl 1] (va_runV (As := [.int p1, .int p2]) (rest := []) ⟨hx, hb, hml, hown, hts⟩ (kX2_firstPeriod l D cI cJ cD q hq N Tn Ta p1 p2 r12 hc) (cwV 2 hts gX8_periodByTrying_X2_firstPeriod rfl rfl rfl (by decide +kernel) ⟨(Nat.le_of_ble_eq_true rfl), (Nat.le_of_ble_eq_true rfl)⟩) ⟨gP_blind, va_recv hE.1 hP (ci := 2) (q0 := 1) rfl rfl, fun U hU hW => ⟨rfl, by rw [hU]; exact hP.sub (ws' := (w_1_2 q cI cJ cD Tn Ta)) [1, 2] rfl, gEv.warm hW hE⟩⟩ rfl rfl hl.1 rfl (lv_room (Nat.le_of_ble_eq_true rfl)) dX8_periodByTrying_12 ⟨Nat.zero_le _, Nat.zero_le _⟩) hP hS (gSub rfl) rfl rfl rfl rfl rfl (fun H locs hP hS => ?_)
  cases hf
  exact W.iret hx hb hr (fun t ht hW => ⟨⟨rfl, by rw [ht]; exact hP⟩, hS.F ht⟩) hS.2.2 dX8_periodByTrying_15
set_option maxHeartbeats 4000000 in
set_option maxRecDepth 100000 in
theorem kX8_periodByTryingx (l : Launch) (hlt : l.stackTraces = false) (D : va_G) (cI cJ cD : ClassId) (sa : Nat → Nat) (q : Nat → Nat) (hq : gInj 14 q) (N : Nat) (Tn : Int32) (Ta : (Nat → Int32)) (p1 : Int32) (p2 : Int32) (e0 : Nat) (hf : fX8_periodByTrying N Tn Ta p1 p2 = some (.inl e0)) : vx_Met l yX8_periodByTrying wsX8_periodByTrying rX8_periodByTryingx (gPx D cI cJ cD sa (gA q [0, 1, 2]) [.ref (q 0), .int p1, .int p2] (w_0_1_2 q cI cJ cD Tn Ta)) (fun _ _ _ _ => False) (gX D (gEn e0) (w_0_1_2 q cI cJ cD Tn Ta) (gA q [0, 1, 2])) 1 6 (gA q [0, 1, 2]) := by
  refine vx_ofW (cc := cX8_periodByTrying) (maxL := 3) (ret := (some .int)) (by decide +kernel) rfl ?_
  intro p e s m args below meth c s₁ B hml htab hv
  obtain ⟨rfl, hP, hE, hXe⟩ := hv
  have hx := B.exec
  have hb := B.bytes
  have hr := B.returns
  have hts := atoms_spec (ws := wsX8_periodByTrying) B.pre
  have hown : s.vm.findClass RX8 = some m.cls := findClass_of_methodNamed B.named
  have hlocks := B.notSynchronized
  have hS : va_S (gA q [0, 1, 2]) s.heap s.heap [] := va_S.rf
  have hl := lv_entry ([.ref (q 0), .int p1, .int p2]) (n := 3) (Nat.le_of_ble_eq_true rfl)
  rw [lg_entry_eq]
  generalize (lg_sl ([.ref (q 0), .int p1, .int p2]) ++ List.replicate (3 - (lg_sl ([.ref (q 0), .int p1, .int p2])).length) Slot.unset).toArray = ls at hl ⊢
  have hl : lv_has ls 3 [(0, .ref (q 0)), (1, .int p1), (2, .int p2)] := hl
  have hk10 := hts (.fieldLink RX8 10 "LyndonText" "text" "LLyndonText$Letters;") (by decide +kernel)
  have huX8 : ∀ w ∈ u_ws RX8 TX8 6, w ∈ wsX8_periodByTrying := by decide +kernel
  unfold fX8_periodByTrying at hf
  refine lv_aload_n hx hb dX8_periodByTrying_0 rfl (lv_at hl 0 rfl) ?_
  refine lv_iload_n hx hb dX8_periodByTrying_1 rfl (lv_at hl 1 rfl) ?_
  refine lv_iload_n hx hb dX8_periodByTrying_2 rfl (lv_at hl 2 rfl) ?_
  rcases bx_some hf with ⟨e3, hc, hf⟩ | ⟨⟨⟩, hc, hf⟩
  · try dsimp only at hf
    refine g_callX (ws' := (w_0_1_2 q cI cJ cD Tn Ta)) hq [0, 1, 2] [0, 1] [.inl 0, .inl 1, .inr 2] (vx_runV (As := [.int p1, .int p2]) (rest := []) ⟨hx, hb, hml, hown, hts⟩ (kX8_checkPartx l hlt D cI cJ cD sa q hq N Tn p1 p2 e3 hc) (cwV 2 hts gX8_periodByTrying_X8_checkPart rfl rfl rfl (by decide +kernel) ⟨(Nat.le_of_ble_eq_true rfl), (Nat.le_of_ble_eq_true rfl)⟩) ⟨gPx_blind, va_recv hE.1 hP (ci := 6) (q0 := 0) rfl rfl, fun U hU hW => ⟨rfl, by rw [hU]; exact hP.sub (ws' := (w_0_1 q cI cJ cD Tn)) [0, 1] rfl, gEv.warm hW hE, gXe.go hW hS (gMono rfl) hXe hU⟩⟩ rfl rfl hl.1 rfl (lv_room (Nat.le_of_ble_eq_true rfl)) dX8_periodByTrying_3 ⟨(Nat.le_of_ble_eq_true rfl), (Nat.le_of_ble_eq_true rfl)⟩) hP hS (gSub rfl) rfl rfl rfl rfl (fun ce q9 H locs hP hS hce hcv hcl => ?_)
    cases hf
    exact vx_out (fun x9 hx9 => (htab x9 hx9).elim) hlocks hce hcv hcl (fun t ht hv => ⟨rfl, by rw [ht]; exact hP, hS.F ht⟩) hS.2.2 (Nat.le_of_ble_eq_true rfl) (Nat.le_of_ble_eq_true rfl)
  try dsimp only at hf
  refine g_call0 (ws' := (w_0_1_2 q cI cJ cD Tn Ta)) (st1 := []) hq [0, 1, 2] [0, 1] [.inl 0, .inl 1, .inr 2] (va_runV (As := [.int p1, .int p2]) (rest := []) ⟨hx, hb, hml, hown, hts⟩ (kX8_checkPart l D cI cJ cD q hq N Tn p1 p2 hc) (cwV 2 hts gX8_periodByTrying_X8_checkPart rfl rfl rfl (by decide +kernel) ⟨(Nat.le_of_ble_eq_true rfl), (Nat.le_of_ble_eq_true rfl)⟩) ⟨gP_blind, va_recv hE.1 hP (ci := 6) (q0 := 0) rfl rfl, fun U hU hW => ⟨rfl, by rw [hU]; exact hP.sub (ws' := (w_0_1 q cI cJ cD Tn)) [0, 1] rfl, gEv.warm hW hE⟩⟩ rfl rfl hl.1 rfl (lv_room (Nat.le_of_ble_eq_true rfl)) dX8_periodByTrying_3 ⟨Nat.zero_le _, Nat.zero_le _⟩) hP hS (gSub rfl) rfl rfl rfl rfl rfl (fun H locs hP hS => ?_)
  refine lv_aload_n hx hb dX8_periodByTrying_6 rfl (lv_at hl 0 rfl) ?_
  refine va_get (D := D) (ci := 6) (v := .ref (q 1)) (C := RX8) (T := TX8) (N := 6) hx hb hts huX8 hown hE.1 hP 0 rfl rfl 0 (by decide) hk10 (fun _ h9 => h9) rfl dX8_periodByTrying_7 ?_
  refine lv_iload_n hx hb dX8_periodByTrying_10 rfl (lv_at hl 1 rfl) ?_
  refine lv_iload_n hx hb dX8_periodByTrying_11 rfl (lv_at hl 2 rfl) ?_
  obtain ⟨r12, hc, hf⟩ := bn_some hf
  try dsimp only at hf
  refine g_call0 (ws' := (w_0_1_2 q cI cJ cD Tn Ta)) (st1 := [.int r12]) hq [0, 1, 2] [1, 2] [.inr 0, .inl 0, .inl 1] (va_runV (As := [.int p1, .int p2]) (rest := []) ⟨hx, hb, hml, hown, hts⟩ (kX2_firstPeriod l D cI cJ cD q hq N Tn Ta p1 p2 r12 hc) (cwV 2 hts gX8_periodByTrying_X2_firstPeriod rfl rfl rfl (by decide +kernel) ⟨(Nat.le_of_ble_eq_true rfl), (Nat.le_of_ble_eq_true rfl)⟩) ⟨gP_blind, va_recv hE.1 hP (ci := 2) (q0 := 1) rfl rfl, fun U hU hW => ⟨rfl, by rw [hU]; exact hP.sub (ws' := (w_1_2 q cI cJ cD Tn Ta)) [1, 2] rfl, gEv.warm hW hE⟩⟩ rfl rfl hl.1 rfl (lv_room (Nat.le_of_ble_eq_true rfl)) dX8_periodByTrying_12 ⟨Nat.zero_le _, Nat.zero_le _⟩) hP hS (gSub rfl) rfl rfl rfl rfl rfl (fun H locs hP hS => ?_)
  exact nomatch hf
set_option maxHeartbeats 4000000 in
set_option maxRecDepth 100000 in
theorem kX8_isPeriod (l : Launch) (D : va_G) (cI cJ cD : ClassId) (q : Nat → Nat) (hq : gInj 14 q) (N : Nat) (Tn : Int32) (Ta : (Nat → Int32)) (p1 : Int32) (p2 : Int32) (p3 : Int32) (r0 : Int32) (hf : fX8_isPeriod N Tn Ta p1 p2 p3 = some (.inr r0)) : Met l yX8_isPeriod wsX8_isPeriod rX8_isPeriod (gP D cI cJ cD [.ref (q 0), .int p1, .int p2, .int p3] (w_0_1_2 q cI cJ cD Tn Ta)) (gQ D (some (.int r0)) (w_0_1_2 q cI cJ cD Tn Ta) (gA q [0, 1, 2])) 0 0 (gA q [0, 1, 2]) := by
  refine Met.ofW (cc := cX8_isPeriod) (maxL := 4) (ret := (some .boolean)) (by decide +kernel) rfl ?_
  intro p e s m args below meth c s₁ B hml hv
  obtain ⟨rfl, hP, hE⟩ := hv
  have hx := B.exec
  have hb := B.bytes
  have hr := B.returns
  have hts := atoms_spec (ws := wsX8_isPeriod) B.pre
  have hown : s.vm.findClass RX8 = some m.cls := findClass_of_methodNamed B.named
  have hlocks := B.notSynchronized
  have hS : va_S (gA q [0, 1, 2]) s.heap s.heap [] := va_S.rf
  have hl := lv_entry ([.ref (q 0), .int p1, .int p2, .int p3]) (n := 4) (Nat.le_of_ble_eq_true rfl)
  rw [lg_entry_eq]
  generalize (lg_sl ([.ref (q 0), .int p1, .int p2, .int p3]) ++ List.replicate (4 - (lg_sl ([.ref (q 0), .int p1, .int p2, .int p3])).length) Slot.unset).toArray = ls at hl ⊢
  have hl : lv_has ls 4 [(0, .ref (q 0)), (1, .int p1), (2, .int p2), (3, .int p3)] := hl
  have hk10 := hts (.fieldLink RX8 10 "LyndonText" "text" "LLyndonText$Letters;") (by decide +kernel)
  have huX8 : ∀ w ∈ u_ws RX8 TX8 6, w ∈ wsX8_isPeriod := by decide +kernel
  unfold fX8_isPeriod at hf
  refine lv_aload_n hx hb dX8_isPeriod_0 rfl (lv_at hl 0 rfl) ?_
  refine lv_iload_n hx hb dX8_isPeriod_1 rfl (lv_at hl 1 rfl) ?_
  refine lv_iload_n hx hb dX8_isPeriod_2 rfl (lv_at hl 2 rfl) ?_
  rcases bx_some hf with ⟨e3, hc, hf⟩ | ⟨⟨⟩, hc, hf⟩
  · exact nomatch hf
  try dsimp only at hf
  refine g_call0 (ws' := (w_0_1_2 q cI cJ cD Tn Ta)) (st1 := []) hq [0, 1, 2] [0, 1] [.inl 0, .inl 1, .inr 2] (va_runV (As := [.int p1, .int p2]) (rest := []) ⟨hx, hb, hml, hown, hts⟩ (kX8_checkPart l D cI cJ cD q hq N Tn p1 p2 hc) (cwV 2 hts gX8_isPeriod_X8_checkPart rfl rfl rfl (by decide +kernel) ⟨(Nat.le_of_ble_eq_true rfl), (Nat.le_of_ble_eq_true rfl)⟩) ⟨gP_blind, va_recv hE.1 hP (ci := 6) (q0 := 0) rfl rfl, fun U hU hW => ⟨rfl, by rw [hU]; exact hP.sub (ws' := (w_0_1 q cI cJ cD Tn)) [0, 1] rfl, gEv.warm hW hE⟩⟩ rfl rfl hl.1 rfl (lv_room (Nat.le_of_ble_eq_true rfl)) dX8_isPeriod_3 ⟨Nat.zero_le _, Nat.zero_le _⟩) hP hS (gSub rfl) rfl rfl rfl rfl rfl (fun H locs hP hS => ?_)
  refine lv_iload_n hx hb dX8_isPeriod_6 rfl (lv_at hl 3 rfl) ?_
  refine lv_iconst (v := (1 : Int32)) hx hb dX8_isPeriod_7 (by decide) ?_
  refine lv_iload_n hx hb dX8_isPeriod_8 rfl (lv_at hl 2 rfl) ?_
  refine lv_iload_n hx hb dX8_isPeriod_9 rfl (lv_at hl 1 rfl) ?_
  refine lv_isub hx hb dX8_isPeriod_10 ?_
  rcases bx_some hf with ⟨e11, hc, hf⟩ | ⟨⟨⟩, hc, hf⟩
  · exact nomatch hf
  try dsimp only at hf
  refine g_call0 (ws' := (w_0_1_2 q cI cJ cD Tn Ta)) (st1 := []) hq [0, 1, 2] [] [.inr 0, .inr 1, .inr 2] (va_runS (As := [.int p3, .int (1 : Int32), .int (p2 - p1)]) (rest := []) ⟨hx, hb, hml, hown, hts⟩ (kX8_checkArgument l D cI cJ cD q hq N p3 (1 : Int32) (p2 - p1) hc) (va_cwS 3 hts gX8_isPeriod_X8_checkArgument rfl rfl rfl (by decide +kernel) ⟨(Nat.le_of_ble_eq_true rfl), (Nat.le_of_ble_eq_true rfl)⟩) ⟨gP_blind, fun U hU hW => ⟨rfl, by rw [hU]; exact hP.sub (ws' := (w_0none q cI cJ cD)) [] rfl, gEv.warm hW hE⟩⟩ rfl rfl hl.1 rfl (lv_room (Nat.le_of_ble_eq_true rfl)) dX8_isPeriod_11 ⟨Nat.zero_le _, Nat.zero_le _⟩) hP hS (gSub rfl) rfl rfl rfl rfl rfl (fun H locs hP hS => ?_)
  refine lv_aload_n hx hb dX8_isPeriod_14 rfl (lv_at hl 0 rfl) ?_
  refine va_get (D := D) (ci := 6) (v := .ref (q 1)) (C := RX8) (T := TX8) (N := 6) hx hb hts huX8 hown hE.1 hP 0 rfl rfl 0 (by decide) hk10 (fun _ h9 => h9) rfl dX8_isPeriod_15 ?_
  refine lv_iload_n hx hb dX8_isPeriod_18 rfl (lv_at hl 1 rfl) ?_
  refine lv_iload_n hx hb dX8_isPeriod_19 rfl (lv_at hl 2 rfl) ?_
  refine lv_iload_n hx hb dX8_isPeriod_20 rfl (lv_at hl 3 rfl) ?_
  obtain ⟨r21, hc, hf⟩ := bn_some hf
  try dsimp only at hf
  refine g_call0 (ws' := (w_0_1_2 q cI cJ cD Tn Ta)) (st1 := [.int r21]) hq [0, 1, 2] [1, 2] [.inr 0, .inl 0, .inl 1] (va_runV (As := [.int p1, .int p2, .int p3]) (rest := []) ⟨hx, hb, hml, hown, hts⟩ (kX2_keepsPeriod l D cI cJ cD q hq N Tn Ta p1 p2 p3 r21 hc) (cwV 3 hts gX8_isPeriod_X2_keepsPeriod rfl rfl rfl (by decide +kernel) ⟨(Nat.le_of_ble_eq_true rfl), (Nat.le_of_ble_eq_true rfl)⟩) ⟨gP_blind, va_recv hE.1 hP (ci := 2) (q0 := 1) rfl rfl, fun U hU hW => ⟨rfl, by rw [hU]; exact hP.sub (ws' := (w_1_2 q cI cJ cD Tn Ta)) [1, 2] rfl, gEv.warm hW hE⟩⟩ rfl rfl hl.1 rfl (lv_room (Nat.le_of_ble_eq_true rfl)) dX8_isPeriod_21 ⟨Nat.zero_le _, Nat.zero_le _⟩) hP hS (gSub rfl) rfl rfl rfl rfl rfl (fun H locs hP hS => ?_)
  obtain ⟨g_1, hf⟩ := gd_some hf
  cases hf
  exact W.zret (ty := .boolean) hx hb hr (isB_nar g_1) (fun t ht hW => ⟨⟨rfl, by rw [ht]; exact hP⟩, hS.F ht⟩) hS.2.2 dX8_isPeriod_24
set_option maxHeartbeats 4000000 in
set_option maxRecDepth 100000 in
theorem kX8_isPeriodx (l : Launch) (hlt : l.stackTraces = false) (D : va_G) (cI cJ cD : ClassId) (sa : Nat → Nat) (q : Nat → Nat) (hq : gInj 14 q) (N : Nat) (Tn : Int32) (Ta : (Nat → Int32)) (p1 : Int32) (p2 : Int32) (p3 : Int32) (e0 : Nat) (hf : fX8_isPeriod N Tn Ta p1 p2 p3 = some (.inl e0)) : vx_Met l yX8_isPeriod wsX8_isPeriod rX8_isPeriodx (gPx D cI cJ cD sa (gA q [0, 1, 2]) [.ref (q 0), .int p1, .int p2, .int p3] (w_0_1_2 q cI cJ cD Tn Ta)) (fun _ _ _ _ => False) (gX D (gEn e0) (w_0_1_2 q cI cJ cD Tn Ta) (gA q [0, 1, 2])) 1 6 (gA q [0, 1, 2]) := by
  refine vx_ofW (cc := cX8_isPeriod) (maxL := 4) (ret := (some .boolean)) (by decide +kernel) rfl ?_
  intro p e s m args below meth c s₁ B hml htab hv
  obtain ⟨rfl, hP, hE, hXe⟩ := hv
  have hx := B.exec
  have hb := B.bytes
  have hr := B.returns
  have hts := atoms_spec (ws := wsX8_isPeriod) B.pre
  have hown : s.vm.findClass RX8 = some m.cls := findClass_of_methodNamed B.named
  have hlocks := B.notSynchronized
  have hS : va_S (gA q [0, 1, 2]) s.heap s.heap [] := va_S.rf
  have hl := lv_entry ([.ref (q 0), .int p1, .int p2, .int p3]) (n := 4) (Nat.le_of_ble_eq_true rfl)
  rw [lg_entry_eq]
  generalize (lg_sl ([.ref (q 0), .int p1, .int p2, .int p3]) ++ List.replicate (4 - (lg_sl ([.ref (q 0), .int p1, .int p2, .int p3])).length) Slot.unset).toArray = ls at hl ⊢
  have hl : lv_has ls 4 [(0, .ref (q 0)), (1, .int p1), (2, .int p2), (3, .int p3)] := hl
  have hk10 := hts (.fieldLink RX8 10 "LyndonText" "text" "LLyndonText$Letters;") (by decide +kernel)
  have huX8 : ∀ w ∈ u_ws RX8 TX8 6, w ∈ wsX8_isPeriod := by decide +kernel
  unfold fX8_isPeriod at hf
  refine lv_aload_n hx hb dX8_isPeriod_0 rfl (lv_at hl 0 rfl) ?_
  refine lv_iload_n hx hb dX8_isPeriod_1 rfl (lv_at hl 1 rfl) ?_
  refine lv_iload_n hx hb dX8_isPeriod_2 rfl (lv_at hl 2 rfl) ?_
  rcases bx_some hf with ⟨e3, hc, hf⟩ | ⟨⟨⟩, hc, hf⟩
  · try dsimp only at hf
    refine g_callX (ws' := (w_0_1_2 q cI cJ cD Tn Ta)) hq [0, 1, 2] [0, 1] [.inl 0, .inl 1, .inr 2] (vx_runV (As := [.int p1, .int p2]) (rest := []) ⟨hx, hb, hml, hown, hts⟩ (kX8_checkPartx l hlt D cI cJ cD sa q hq N Tn p1 p2 e3 hc) (cwV 2 hts gX8_isPeriod_X8_checkPart rfl rfl rfl (by decide +kernel) ⟨(Nat.le_of_ble_eq_true rfl), (Nat.le_of_ble_eq_true rfl)⟩) ⟨gPx_blind, va_recv hE.1 hP (ci := 6) (q0 := 0) rfl rfl, fun U hU hW => ⟨rfl, by rw [hU]; exact hP.sub (ws' := (w_0_1 q cI cJ cD Tn)) [0, 1] rfl, gEv.warm hW hE, gXe.go hW hS (gMono rfl) hXe hU⟩⟩ rfl rfl hl.1 rfl (lv_room (Nat.le_of_ble_eq_true rfl)) dX8_isPeriod_3 ⟨(Nat.le_of_ble_eq_true rfl), (Nat.le_of_ble_eq_true rfl)⟩) hP hS (gSub rfl) rfl rfl rfl rfl (fun ce q9 H locs hP hS hce hcv hcl => ?_)
    cases hf
    exact vx_out (fun x9 hx9 => (htab x9 hx9).elim) hlocks hce hcv hcl (fun t ht hv => ⟨rfl, by rw [ht]; exact hP, hS.F ht⟩) hS.2.2 (Nat.le_of_ble_eq_true rfl) (Nat.le_of_ble_eq_true rfl)
  try dsimp only at hf
  refine g_call0 (ws' := (w_0_1_2 q cI cJ cD Tn Ta)) (st1 := []) hq [0, 1, 2] [0, 1] [.inl 0, .inl 1, .inr 2] (va_runV (As := [.int p1, .int p2]) (rest := []) ⟨hx, hb, hml, hown, hts⟩ (kX8_checkPart l D cI cJ cD q hq N Tn p1 p2 hc) (cwV 2 hts gX8_isPeriod_X8_checkPart rfl rfl rfl (by decide +kernel) ⟨(Nat.le_of_ble_eq_true rfl), (Nat.le_of_ble_eq_true rfl)⟩) ⟨gP_blind, va_recv hE.1 hP (ci := 6) (q0 := 0) rfl rfl, fun U hU hW => ⟨rfl, by rw [hU]; exact hP.sub (ws' := (w_0_1 q cI cJ cD Tn)) [0, 1] rfl, gEv.warm hW hE⟩⟩ rfl rfl hl.1 rfl (lv_room (Nat.le_of_ble_eq_true rfl)) dX8_isPeriod_3 ⟨Nat.zero_le _, Nat.zero_le _⟩) hP hS (gSub rfl) rfl rfl rfl rfl rfl (fun H locs hP hS => ?_)
  refine lv_iload_n hx hb dX8_isPeriod_6 rfl (lv_at hl 3 rfl) ?_
  refine lv_iconst (v := (1 : Int32)) hx hb dX8_isPeriod_7 (by decide) ?_
  refine lv_iload_n hx hb dX8_isPeriod_8 rfl (lv_at hl 2 rfl) ?_
  refine lv_iload_n hx hb dX8_isPeriod_9 rfl (lv_at hl 1 rfl) ?_
  refine lv_isub hx hb dX8_isPeriod_10 ?_
  rcases bx_some hf with ⟨e11, hc, hf⟩ | ⟨⟨⟩, hc, hf⟩
  · try dsimp only at hf
    refine g_callX (ws' := (w_0_1_2 q cI cJ cD Tn Ta)) hq [0, 1, 2] [] [.inr 0, .inr 1, .inr 2] (vx_runS (As := [.int p3, .int (1 : Int32), .int (p2 - p1)]) (rest := []) ⟨hx, hb, hml, hown, hts⟩ (kX8_checkArgumentx l hlt D cI cJ cD sa q hq N p3 (1 : Int32) (p2 - p1) e11 hc) (va_cwS 3 hts gX8_isPeriod_X8_checkArgument rfl rfl rfl (by decide +kernel) ⟨(Nat.le_of_ble_eq_true rfl), (Nat.le_of_ble_eq_true rfl)⟩) ⟨gPx_blind, fun U hU hW => ⟨rfl, by rw [hU]; exact hP.sub (ws' := (w_0none q cI cJ cD)) [] rfl, gEv.warm hW hE, gXe.go hW hS (gMono rfl) hXe hU⟩⟩ rfl rfl hl.1 rfl (lv_room (Nat.le_of_ble_eq_true rfl)) dX8_isPeriod_11 ⟨(Nat.le_of_ble_eq_true rfl), (Nat.le_of_ble_eq_true rfl)⟩) hP hS (gSub rfl) rfl rfl rfl rfl (fun ce q9 H locs hP hS hce hcv hcl => ?_)
    cases hf
    exact vx_out (fun x9 hx9 => (htab x9 hx9).elim) hlocks hce hcv hcl (fun t ht hv => ⟨rfl, by rw [ht]; exact hP, hS.F ht⟩) hS.2.2 (Nat.le_of_ble_eq_true rfl) (Nat.le_of_ble_eq_true rfl)
  try dsimp only at hf
  refine g_call0 (ws' := (w_0_1_2 q cI cJ cD Tn Ta)) (st1 := []) hq [0, 1, 2] [] [.inr 0, .inr 1, .inr 2] (va_runS (As := [.int p3, .int (1 : Int32), .int (p2 - p1)]) (rest := []) ⟨hx, hb, hml, hown, hts⟩ (kX8_checkArgument l D cI cJ cD q hq N p3 (1 : Int32) (p2 - p1) hc) (va_cwS 3 hts gX8_isPeriod_X8_checkArgument rfl rfl rfl (by decide +kernel) ⟨(Nat.le_of_ble_eq_true rfl), (Nat.le_of_ble_eq_true rfl)⟩) ⟨gP_blind, fun U hU hW => ⟨rfl, by rw [hU]; exact hP.sub (ws' := (w_0none q cI cJ cD)) [] rfl, gEv.warm hW hE⟩⟩ rfl rfl hl.1 rfl (lv_room (Nat.le_of_ble_eq_true rfl)) dX8_isPeriod_11 ⟨Nat.zero_le _, Nat.zero_le _⟩) hP hS (gSub rfl) rfl rfl rfl rfl rfl (fun H locs hP hS => ?_)
  refine lv_aload_n hx hb dX8_isPeriod_14 rfl (lv_at hl 0 rfl) ?_
  refine va_get (D := D) (ci := 6) (v := .ref (q 1)) (C := RX8) (T := TX8) (N := 6) hx hb hts huX8 hown hE.1 hP 0 rfl rfl 0 (by decide) hk10 (fun _ h9 => h9) rfl dX8_isPeriod_15 ?_
  refine lv_iload_n hx hb dX8_isPeriod_18 rfl (lv_at hl 1 rfl) ?_
  refine lv_iload_n hx hb dX8_isPeriod_19 rfl (lv_at hl 2 rfl) ?_
  refine lv_iload_n hx hb dX8_isPeriod_20 rfl (lv_at hl 3 rfl) ?_
  obtain ⟨r21, hc, hf⟩ := bn_some hf
  try dsimp only at hf
  refine g_call0 (ws' := (w_0_1_2 q cI cJ cD Tn Ta)) (st1 := [.int r21]) hq [0, 1, 2] [1, 2] [.inr 0, .inl 0, .inl 1] (va_runV (As := [.int p1, .int p2, .int p3]) (rest := []) ⟨hx, hb, hml, hown, hts⟩ (kX2_keepsPeriod l D cI cJ cD q hq N Tn Ta p1 p2 p3 r21 hc) (cwV 3 hts gX8_isPeriod_X2_keepsPeriod rfl rfl rfl (by decide +kernel) ⟨(Nat.le_of_ble_eq_true rfl), (Nat.le_of_ble_eq_true rfl)⟩) ⟨gP_blind, va_recv hE.1 hP (ci := 2) (q0 := 1) rfl rfl, fun U hU hW => ⟨rfl, by rw [hU]; exact hP.sub (ws' := (w_1_2 q cI cJ cD Tn Ta)) [1, 2] rfl, gEv.warm hW hE⟩⟩ rfl rfl hl.1 rfl (lv_room (Nat.le_of_ble_eq_true rfl)) dX8_isPeriod_21 ⟨Nat.zero_le _, Nat.zero_le _⟩) hP hS (gSub rfl) rfl rfl rfl rfl rfl (fun H locs hP hS => ?_)
  obtain ⟨-, hf⟩ := gd_some hf
  exact nomatch hf
set_option maxHeartbeats 4000000 in
set_option maxRecDepth 100000 in
theorem kX8_periods (l : Launch) (D : va_G) (cI cJ cD : ClassId) (q : Nat → Nat) (hq : gInj 14 q) (N : Nat) (Tn : Int32) (Ta : (Nat → Int32)) (Ba : (Nat → Int32)) (p1 : Int32) (p2 : Int32) (r0 : Int32) (Ba9 : (Nat → Int32)) (hf : fX8_periods N Tn Ta Ba p1 p2 = some (.inr (r0, Ba9))) : Met l yX8_periods wsX8_periods rX8_periods (gP D cI cJ cD [.ref (q 0), .int p1, .int p2] (w_0_1_2_5_6 q cI cJ cD Tn Ta Ba)) (gQ D (some (.int r0)) (w_0_1_2_5_6 q cI cJ cD Tn Ta Ba9) (gA q [0, 1, 2, 5, 6])) 0 0 (gA q [0, 1, 2, 5, 6]) := by
  refine Met.ofW (cc := cX8_periods) (maxL := 3) (ret := (some .int)) (by decide +kernel) rfl ?_
  intro p e s m args below meth c s₁ B hml hv
  obtain ⟨rfl, hP, hE⟩ := hv
  have hx := B.exec
  have hb := B.bytes
  have hr := B.returns
  have hts := atoms_spec (ws := wsX8_periods) B.pre
  have hown : s.vm.findClass RX8 = some m.cls := findClass_of_methodNamed B.named
  have hlocks := B.notSynchronized
  have hS : va_S (gA q [0, 1, 2, 5, 6]) s.heap s.heap [] := va_S.rf
  have hl := lv_entry ([.ref (q 0), .int p1, .int p2]) (n := 3) (Nat.le_of_ble_eq_true rfl)
  rw [lg_entry_eq]
  generalize (lg_sl ([.ref (q 0), .int p1, .int p2]) ++ List.replicate (3 - (lg_sl ([.ref (q 0), .int p1, .int p2])).length) Slot.unset).toArray = ls at hl ⊢
  have hl : lv_has ls 3 [(0, .ref (q 0)), (1, .int p1), (2, .int p2)] := hl
  have hk26 := hts (.fieldLink RX8 26 "LyndonText" "borderRow" "LLyndonText$Borders;") (by decide +kernel)
  have hk10 := hts (.fieldLink RX8 10 "LyndonText" "text" "LLyndonText$Letters;") (by decide +kernel)
  have huX8 : ∀ w ∈ u_ws RX8 TX8 6, w ∈ wsX8_periods := by decide +kernel
  unfold fX8_periods at hf
  refine lv_aload_n hx hb dX8_periods_0 rfl (lv_at hl 0 rfl) ?_
  refine lv_iload_n hx hb dX8_periods_1 rfl (lv_at hl 1 rfl) ?_
  refine lv_iload_n hx hb dX8_periods_2 rfl (lv_at hl 2 rfl) ?_
  rcases bx_some hf with ⟨e3, hc, hf⟩ | ⟨⟨⟩, hc, hf⟩
  · exact nomatch hf
  try dsimp only at hf
  refine g_call0 (ws' := (w_0_1_2_5_6 q cI cJ cD Tn Ta Ba)) (st1 := []) hq [0, 1, 2, 5, 6] [0, 1] [.inl 0, .inl 1, .inr 2, .inr 3, .inr 4] (va_runV (As := [.int p1, .int p2]) (rest := []) ⟨hx, hb, hml, hown, hts⟩ (kX8_checkPart l D cI cJ cD q hq N Tn p1 p2 hc) (cwV 2 hts gX8_periods_X8_checkPart rfl rfl rfl (by decide +kernel) ⟨(Nat.le_of_ble_eq_true rfl), (Nat.le_of_ble_eq_true rfl)⟩) ⟨gP_blind, va_recv hE.1 hP (ci := 6) (q0 := 0) rfl rfl, fun U hU hW => ⟨rfl, by rw [hU]; exact hP.sub (ws' := (w_0_1 q cI cJ cD Tn)) [0, 1] rfl, gEv.warm hW hE⟩⟩ rfl rfl hl.1 rfl (lv_room (Nat.le_of_ble_eq_true rfl)) dX8_periods_3 ⟨Nat.zero_le _, Nat.zero_le _⟩) hP hS (gSub rfl) rfl rfl rfl rfl rfl (fun H locs hP hS => ?_)
  refine lv_aload_n hx hb dX8_periods_6 rfl (lv_at hl 0 rfl) ?_
  refine va_get (D := D) (ci := 6) (v := .ref (q 5)) (C := RX8) (T := TX8) (N := 6) hx hb hts huX8 hown hE.1 hP 0 rfl rfl 2 (by decide) hk26 (fun _ h9 => h9) rfl dX8_periods_7 ?_
  refine lv_aload_n hx hb dX8_periods_10 rfl (lv_at hl 0 rfl) ?_
  refine va_get (D := D) (ci := 6) (v := .ref (q 1)) (C := RX8) (T := TX8) (N := 6) hx hb hts huX8 hown hE.1 hP 0 rfl rfl 0 (by decide) hk10 (fun _ h9 => h9) rfl dX8_periods_11 ?_
  refine lv_iload_n hx hb dX8_periods_14 rfl (lv_at hl 1 rfl) ?_
  refine lv_iload_n hx hb dX8_periods_15 rfl (lv_at hl 2 rfl) ?_
  obtain ⟨⟨r16, Ba16⟩, hc, hf⟩ := bn_some hf
  try dsimp only at hf
  refine g_call0 (ws' := (w_0_1_2_5_6 q cI cJ cD Tn Ta Ba16)) (st1 := [.int r16]) hq [0, 1, 2, 5, 6] [1, 2, 5, 6] [.inr 0, .inl 0, .inl 1, .inl 2, .inl 3] (va_runV (As := [.ref (q 1), .int p1, .int p2]) (rest := []) ⟨hx, hb, hml, hown, hts⟩ (kX0_countAll l D cI cJ cD q hq N Tn Ta Ba p1 p2 r16 Ba16 hc) (cwV 3 hts gX8_periods_X0_countAll rfl rfl rfl (by decide +kernel) ⟨(Nat.le_of_ble_eq_true rfl), (Nat.le_of_ble_eq_true rfl)⟩) ⟨gP_blind, va_recv hE.1 hP (ci := 0) (q0 := 3) rfl rfl, fun U hU hW => ⟨rfl, by rw [hU]; exact hP.sub (ws' := (w_1_2_5_6 q cI cJ cD Tn Ta Ba)) [1, 2, 3, 4] rfl, gEv.warm hW hE⟩⟩ rfl rfl hl.1 rfl (lv_room (Nat.le_of_ble_eq_true rfl)) dX8_periods_16 ⟨Nat.zero_le _, Nat.zero_le _⟩) hP hS (gSub rfl) rfl rfl rfl rfl rfl (fun H locs hP hS => ?_)
  cases hf
  exact W.iret hx hb hr (fun t ht hW => ⟨⟨rfl, by rw [ht]; exact hP⟩, hS.F ht⟩) hS.2.2 dX8_periods_19
set_option maxHeartbeats 4000000 in
set_option maxRecDepth 100000 in
theorem kX8_periodsx (l : Launch) (hlt : l.stackTraces = false) (D : va_G) (cI cJ cD : ClassId) (sa : Nat → Nat) (q : Nat → Nat) (hq : gInj 14 q) (N : Nat) (Tn : Int32) (Ta : (Nat → Int32)) (Ba : (Nat → Int32)) (p1 : Int32) (p2 : Int32) (e0 : Nat) (Ba9 : (Nat → Int32)) (hf : fX8_periods N Tn Ta Ba p1 p2 = some (.inl (e0, Ba9))) : vx_Met l yX8_periods wsX8_periods rX8_periodsx (gPx D cI cJ cD sa (gA q [0, 1, 2, 5, 6]) [.ref (q 0), .int p1, .int p2] (w_0_1_2_5_6 q cI cJ cD Tn Ta Ba)) (fun _ _ _ _ => False) (gX D (gEn e0) (w_0_1_2_5_6 q cI cJ cD Tn Ta Ba9) (gA q [0, 1, 2, 5, 6])) 1 6 (gA q [0, 1, 2, 5, 6]) := by
  refine vx_ofW (cc := cX8_periods) (maxL := 3) (ret := (some .int)) (by decide +kernel) rfl ?_
  intro p e s m args below meth c s₁ B hml htab hv
  obtain ⟨rfl, hP, hE, hXe⟩ := hv
  have hx := B.exec
  have hb := B.bytes
  have hr := B.returns
  have hts := atoms_spec (ws := wsX8_periods) B.pre
  have hown : s.vm.findClass RX8 = some m.cls := findClass_of_methodNamed B.named
  have hlocks := B.notSynchronized
  have hS : va_S (gA q [0, 1, 2, 5, 6]) s.heap s.heap [] := va_S.rf
  have hl := lv_entry ([.ref (q 0), .int p1, .int p2]) (n := 3) (Nat.le_of_ble_eq_true rfl)
  rw [lg_entry_eq]
  generalize (lg_sl ([.ref (q 0), .int p1, .int p2]) ++ List.replicate (3 - (lg_sl ([.ref (q 0), .int p1, .int p2])).length) Slot.unset).toArray = ls at hl ⊢
  have hl : lv_has ls 3 [(0, .ref (q 0)), (1, .int p1), (2, .int p2)] := hl
  have hk26 := hts (.fieldLink RX8 26 "LyndonText" "borderRow" "LLyndonText$Borders;") (by decide +kernel)
  have hk10 := hts (.fieldLink RX8 10 "LyndonText" "text" "LLyndonText$Letters;") (by decide +kernel)
  have huX8 : ∀ w ∈ u_ws RX8 TX8 6, w ∈ wsX8_periods := by decide +kernel
  unfold fX8_periods at hf
  refine lv_aload_n hx hb dX8_periods_0 rfl (lv_at hl 0 rfl) ?_
  refine lv_iload_n hx hb dX8_periods_1 rfl (lv_at hl 1 rfl) ?_
  refine lv_iload_n hx hb dX8_periods_2 rfl (lv_at hl 2 rfl) ?_
  rcases bx_some hf with ⟨e3, hc, hf⟩ | ⟨⟨⟩, hc, hf⟩
  · try dsimp only at hf
    refine g_callX (ws' := (w_0_1_2_5_6 q cI cJ cD Tn Ta Ba)) hq [0, 1, 2, 5, 6] [0, 1] [.inl 0, .inl 1, .inr 2, .inr 3, .inr 4] (vx_runV (As := [.int p1, .int p2]) (rest := []) ⟨hx, hb, hml, hown, hts⟩ (kX8_checkPartx l hlt D cI cJ cD sa q hq N Tn p1 p2 e3 hc) (cwV 2 hts gX8_periods_X8_checkPart rfl rfl rfl (by decide +kernel) ⟨(Nat.le_of_ble_eq_true rfl), (Nat.le_of_ble_eq_true rfl)⟩) ⟨gPx_blind, va_recv hE.1 hP (ci := 6) (q0 := 0) rfl rfl, fun U hU hW => ⟨rfl, by rw [hU]; exact hP.sub (ws' := (w_0_1 q cI cJ cD Tn)) [0, 1] rfl, gEv.warm hW hE, gXe.go hW hS (gMono rfl) hXe hU⟩⟩ rfl rfl hl.1 rfl (lv_room (Nat.le_of_ble_eq_true rfl)) dX8_periods_3 ⟨(Nat.le_of_ble_eq_true rfl), (Nat.le_of_ble_eq_true rfl)⟩) hP hS (gSub rfl) rfl rfl rfl rfl (fun ce q9 H locs hP hS hce hcv hcl => ?_)
    cases hf
    exact vx_out (fun x9 hx9 => (htab x9 hx9).elim) hlocks hce hcv hcl (fun t ht hv => ⟨rfl, by rw [ht]; exact hP, hS.F ht⟩) hS.2.2 (Nat.le_of_ble_eq_true rfl) (Nat.le_of_ble_eq_true rfl)
  try dsimp only at hf
  refine g_call0 (ws' := (w_0_1_2_5_6 q cI cJ cD Tn Ta Ba)) (st1 := []) hq [0, 1, 2, 5, 6] [0, 1] [.inl 0, .inl 1, .inr 2, .inr 3, .inr 4] (va_runV (As := [.int p1, .int p2]) (rest := []) ⟨hx, hb, hml, hown, hts⟩ (kX8_checkPart l D cI cJ cD q hq N Tn p1 p2 hc) (cwV 2 hts gX8_periods_X8_checkPart rfl rfl rfl (by decide +kernel) ⟨(Nat.le_of_ble_eq_true rfl), (Nat.le_of_ble_eq_true rfl)⟩) ⟨gP_blind, va_recv hE.1 hP (ci := 6) (q0 := 0) rfl rfl, fun U hU hW => ⟨rfl, by rw [hU]; exact hP.sub (ws' := (w_0_1 q cI cJ cD Tn)) [0, 1] rfl, gEv.warm hW hE⟩⟩ rfl rfl hl.1 rfl (lv_room (Nat.le_of_ble_eq_true rfl)) dX8_periods_3 ⟨Nat.zero_le _, Nat.zero_le _⟩) hP hS (gSub rfl) rfl rfl rfl rfl rfl (fun H locs hP hS => ?_)
  refine lv_aload_n hx hb dX8_periods_6 rfl (lv_at hl 0 rfl) ?_
  refine va_get (D := D) (ci := 6) (v := .ref (q 5)) (C := RX8) (T := TX8) (N := 6) hx hb hts huX8 hown hE.1 hP 0 rfl rfl 2 (by decide) hk26 (fun _ h9 => h9) rfl dX8_periods_7 ?_
  refine lv_aload_n hx hb dX8_periods_10 rfl (lv_at hl 0 rfl) ?_
  refine va_get (D := D) (ci := 6) (v := .ref (q 1)) (C := RX8) (T := TX8) (N := 6) hx hb hts huX8 hown hE.1 hP 0 rfl rfl 0 (by decide) hk10 (fun _ h9 => h9) rfl dX8_periods_11 ?_
  refine lv_iload_n hx hb dX8_periods_14 rfl (lv_at hl 1 rfl) ?_
  refine lv_iload_n hx hb dX8_periods_15 rfl (lv_at hl 2 rfl) ?_
  obtain ⟨⟨r16, Ba16⟩, hc, hf⟩ := bn_some hf
  try dsimp only at hf
  refine g_call0 (ws' := (w_0_1_2_5_6 q cI cJ cD Tn Ta Ba16)) (st1 := [.int r16]) hq [0, 1, 2, 5, 6] [1, 2, 5, 6] [.inr 0, .inl 0, .inl 1, .inl 2, .inl 3] (va_runV (As := [.ref (q 1), .int p1, .int p2]) (rest := []) ⟨hx, hb, hml, hown, hts⟩ (kX0_countAll l D cI cJ cD q hq N Tn Ta Ba p1 p2 r16 Ba16 hc) (cwV 3 hts gX8_periods_X0_countAll rfl rfl rfl (by decide +kernel) ⟨(Nat.le_of_ble_eq_true rfl), (Nat.le_of_ble_eq_true rfl)⟩) ⟨gP_blind, va_recv hE.1 hP (ci := 0) (q0 := 3) rfl rfl, fun U hU hW => ⟨rfl, by rw [hU]; exact hP.sub (ws' := (w_1_2_5_6 q cI cJ cD Tn Ta Ba)) [1, 2, 3, 4] rfl, gEv.warm hW hE⟩⟩ rfl rfl hl.1 rfl (lv_room (Nat.le_of_ble_eq_true rfl)) dX8_periods_16 ⟨Nat.zero_le _, Nat.zero_le _⟩) hP hS (gSub rfl) rfl rfl rfl rfl rfl (fun H locs hP hS => ?_)
  exact nomatch hf
set_option maxHeartbeats 4000000 in
set_option maxRecDepth 100000 in
theorem kX8_border (l : Launch) (D : va_G) (cI cJ cD : ClassId) (q : Nat → Nat) (hq : gInj 14 q) (N : Nat) (Tn : Int32) (Ta : (Nat → Int32)) (Ba : (Nat → Int32)) (p1 : Int32) (p2 : Int32) (r0 : Int32) (Ba9 : (Nat → Int32)) (hf : fX8_border N Tn Ta Ba p1 p2 = some (.inr (r0, Ba9))) : Met l yX8_border wsX8_border rX8_border (gP D cI cJ cD [.ref (q 0), .int p1, .int p2] (w_0_1_2_5_6 q cI cJ cD Tn Ta Ba)) (gQ D (some (.int r0)) (w_0_1_2_5_6 q cI cJ cD Tn Ta Ba9) (gA q [0, 1, 2, 5, 6])) 0 0 (gA q [0, 1, 2, 5, 6]) := by
  refine Met.ofW (cc := cX8_border) (maxL := 3) (ret := (some .int)) (by decide +kernel) rfl ?_
  intro p e s m args below meth c s₁ B hml hv
  obtain ⟨rfl, hP, hE⟩ := hv
  have hx := B.exec
  have hb := B.bytes
  have hr := B.returns
  have hts := atoms_spec (ws := wsX8_border) B.pre
  have hown : s.vm.findClass RX8 = some m.cls := findClass_of_methodNamed B.named
  have hlocks := B.notSynchronized
  have hS : va_S (gA q [0, 1, 2, 5, 6]) s.heap s.heap [] := va_S.rf
  have hl := lv_entry ([.ref (q 0), .int p1, .int p2]) (n := 3) (Nat.le_of_ble_eq_true rfl)
  rw [lg_entry_eq]
  generalize (lg_sl ([.ref (q 0), .int p1, .int p2]) ++ List.replicate (3 - (lg_sl ([.ref (q 0), .int p1, .int p2])).length) Slot.unset).toArray = ls at hl ⊢
  have hl : lv_has ls 3 [(0, .ref (q 0)), (1, .int p1), (2, .int p2)] := hl
  have hk26 := hts (.fieldLink RX8 26 "LyndonText" "borderRow" "LLyndonText$Borders;") (by decide +kernel)
  have hk10 := hts (.fieldLink RX8 10 "LyndonText" "text" "LLyndonText$Letters;") (by decide +kernel)
  have huX8 : ∀ w ∈ u_ws RX8 TX8 6, w ∈ wsX8_border := by decide +kernel
  unfold fX8_border at hf
  refine lv_aload_n hx hb dX8_border_0 rfl (lv_at hl 0 rfl) ?_
  refine lv_iload_n hx hb dX8_border_1 rfl (lv_at hl 1 rfl) ?_
  refine lv_iload_n hx hb dX8_border_2 rfl (lv_at hl 2 rfl) ?_
  rcases bx_some hf with ⟨e3, hc, hf⟩ | ⟨⟨⟩, hc, hf⟩
  · exact nomatch hf
  try dsimp only at hf
  refine g_call0 (ws' := (w_0_1_2_5_6 q cI cJ cD Tn Ta Ba)) (st1 := []) hq [0, 1, 2, 5, 6] [0, 1] [.inl 0, .inl 1, .inr 2, .inr 3, .inr 4] (va_runV (As := [.int p1, .int p2]) (rest := []) ⟨hx, hb, hml, hown, hts⟩ (kX8_checkPart l D cI cJ cD q hq N Tn p1 p2 hc) (cwV 2 hts gX8_border_X8_checkPart rfl rfl rfl (by decide +kernel) ⟨(Nat.le_of_ble_eq_true rfl), (Nat.le_of_ble_eq_true rfl)⟩) ⟨gP_blind, va_recv hE.1 hP (ci := 6) (q0 := 0) rfl rfl, fun U hU hW => ⟨rfl, by rw [hU]; exact hP.sub (ws' := (w_0_1 q cI cJ cD Tn)) [0, 1] rfl, gEv.warm hW hE⟩⟩ rfl rfl hl.1 rfl (lv_room (Nat.le_of_ble_eq_true rfl)) dX8_border_3 ⟨Nat.zero_le _, Nat.zero_le _⟩) hP hS (gSub rfl) rfl rfl rfl rfl rfl (fun H locs hP hS => ?_)
  refine lv_aload_n hx hb dX8_border_6 rfl (lv_at hl 0 rfl) ?_
  refine va_get (D := D) (ci := 6) (v := .ref (q 5)) (C := RX8) (T := TX8) (N := 6) hx hb hts huX8 hown hE.1 hP 0 rfl rfl 2 (by decide) hk26 (fun _ h9 => h9) rfl dX8_border_7 ?_
  refine lv_aload_n hx hb dX8_border_10 rfl (lv_at hl 0 rfl) ?_
  refine va_get (D := D) (ci := 6) (v := .ref (q 1)) (C := RX8) (T := TX8) (N := 6) hx hb hts huX8 hown hE.1 hP 0 rfl rfl 0 (by decide) hk10 (fun _ h9 => h9) rfl dX8_border_11 ?_
  refine lv_iload_n hx hb dX8_border_14 rfl (lv_at hl 1 rfl) ?_
  refine lv_iload_n hx hb dX8_border_15 rfl (lv_at hl 2 rfl) ?_
  obtain ⟨⟨r16, Ba16⟩, hc, hf⟩ := bn_some hf
  try dsimp only at hf
  refine g_call0 (ws' := (w_0_1_2_5_6 q cI cJ cD Tn Ta Ba16)) (st1 := [.int r16]) hq [0, 1, 2, 5, 6] [1, 2, 5, 6] [.inr 0, .inl 0, .inl 1, .inl 2, .inl 3] (va_runV (As := [.ref (q 1), .int p1, .int p2]) (rest := []) ⟨hx, hb, hml, hown, hts⟩ (kX0_longest l D cI cJ cD q hq N Tn Ta Ba p1 p2 r16 Ba16 hc) (cwV 3 hts gX8_border_X0_longest rfl rfl rfl (by decide +kernel) ⟨(Nat.le_of_ble_eq_true rfl), (Nat.le_of_ble_eq_true rfl)⟩) ⟨gP_blind, va_recv hE.1 hP (ci := 0) (q0 := 3) rfl rfl, fun U hU hW => ⟨rfl, by rw [hU]; exact hP.sub (ws' := (w_1_2_5_6 q cI cJ cD Tn Ta Ba)) [1, 2, 3, 4] rfl, gEv.warm hW hE⟩⟩ rfl rfl hl.1 rfl (lv_room (Nat.le_of_ble_eq_true rfl)) dX8_border_16 ⟨Nat.zero_le _, Nat.zero_le _⟩) hP hS (gSub rfl) rfl rfl rfl rfl rfl (fun H locs hP hS => ?_)
  cases hf
  exact W.iret hx hb hr (fun t ht hW => ⟨⟨rfl, by rw [ht]; exact hP⟩, hS.F ht⟩) hS.2.2 dX8_border_19
set_option maxHeartbeats 4000000 in
set_option maxRecDepth 100000 in
theorem kX8_borderx (l : Launch) (hlt : l.stackTraces = false) (D : va_G) (cI cJ cD : ClassId) (sa : Nat → Nat) (q : Nat → Nat) (hq : gInj 14 q) (N : Nat) (Tn : Int32) (Ta : (Nat → Int32)) (Ba : (Nat → Int32)) (p1 : Int32) (p2 : Int32) (e0 : Nat) (Ba9 : (Nat → Int32)) (hf : fX8_border N Tn Ta Ba p1 p2 = some (.inl (e0, Ba9))) : vx_Met l yX8_border wsX8_border rX8_borderx (gPx D cI cJ cD sa (gA q [0, 1, 2, 5, 6]) [.ref (q 0), .int p1, .int p2] (w_0_1_2_5_6 q cI cJ cD Tn Ta Ba)) (fun _ _ _ _ => False) (gX D (gEn e0) (w_0_1_2_5_6 q cI cJ cD Tn Ta Ba9) (gA q [0, 1, 2, 5, 6])) 1 6 (gA q [0, 1, 2, 5, 6]) := by
  refine vx_ofW (cc := cX8_border) (maxL := 3) (ret := (some .int)) (by decide +kernel) rfl ?_
  intro p e s m args below meth c s₁ B hml htab hv
  obtain ⟨rfl, hP, hE, hXe⟩ := hv
  have hx := B.exec
  have hb := B.bytes
  have hr := B.returns
  have hts := atoms_spec (ws := wsX8_border) B.pre
  have hown : s.vm.findClass RX8 = some m.cls := findClass_of_methodNamed B.named
  have hlocks := B.notSynchronized
  have hS : va_S (gA q [0, 1, 2, 5, 6]) s.heap s.heap [] := va_S.rf
  have hl := lv_entry ([.ref (q 0), .int p1, .int p2]) (n := 3) (Nat.le_of_ble_eq_true rfl)
  rw [lg_entry_eq]
  generalize (lg_sl ([.ref (q 0), .int p1, .int p2]) ++ List.replicate (3 - (lg_sl ([.ref (q 0), .int p1, .int p2])).length) Slot.unset).toArray = ls at hl ⊢
  have hl : lv_has ls 3 [(0, .ref (q 0)), (1, .int p1), (2, .int p2)] := hl
  have hk26 := hts (.fieldLink RX8 26 "LyndonText" "borderRow" "LLyndonText$Borders;") (by decide +kernel)
  have hk10 := hts (.fieldLink RX8 10 "LyndonText" "text" "LLyndonText$Letters;") (by decide +kernel)
  have huX8 : ∀ w ∈ u_ws RX8 TX8 6, w ∈ wsX8_border := by decide +kernel
  unfold fX8_border at hf
  refine lv_aload_n hx hb dX8_border_0 rfl (lv_at hl 0 rfl) ?_
  refine lv_iload_n hx hb dX8_border_1 rfl (lv_at hl 1 rfl) ?_
  refine lv_iload_n hx hb dX8_border_2 rfl (lv_at hl 2 rfl) ?_
  rcases bx_some hf with ⟨e3, hc, hf⟩ | ⟨⟨⟩, hc, hf⟩
  · try dsimp only at hf
    refine g_callX (ws' := (w_0_1_2_5_6 q cI cJ cD Tn Ta Ba)) hq [0, 1, 2, 5, 6] [0, 1] [.inl 0, .inl 1, .inr 2, .inr 3, .inr 4] (vx_runV (As := [.int p1, .int p2]) (rest := []) ⟨hx, hb, hml, hown, hts⟩ (kX8_checkPartx l hlt D cI cJ cD sa q hq N Tn p1 p2 e3 hc) (cwV 2 hts gX8_border_X8_checkPart rfl rfl rfl (by decide +kernel) ⟨(Nat.le_of_ble_eq_true rfl), (Nat.le_of_ble_eq_true rfl)⟩) ⟨gPx_blind, va_recv hE.1 hP (ci := 6) (q0 := 0) rfl rfl, fun U hU hW => ⟨rfl, by rw [hU]; exact hP.sub (ws' := (w_0_1 q cI cJ cD Tn)) [0, 1] rfl, gEv.warm hW hE, gXe.go hW hS (gMono rfl) hXe hU⟩⟩ rfl rfl hl.1 rfl (lv_room (Nat.le_of_ble_eq_true rfl)) dX8_border_3 ⟨(Nat.le_of_ble_eq_true rfl), (Nat.le_of_ble_eq_true rfl)⟩) hP hS (gSub rfl) rfl rfl rfl rfl (fun ce q9 H locs hP hS hce hcv hcl => ?_)
    cases hf
    exact vx_out (fun x9 hx9 => (htab x9 hx9).elim) hlocks hce hcv hcl (fun t ht hv => ⟨rfl, by rw [ht]; exact hP, hS.F ht⟩) hS.2.2 (Nat.le_of_ble_eq_true rfl) (Nat.le_of_ble_eq_true rfl)
  try dsimp only at hf
  refine g_call0 (ws' := (w_0_1_2_5_6 q cI cJ cD Tn Ta Ba)) (st1 := []) hq [0, 1, 2, 5, 6] [0, 1] [.inl 0, .inl 1, .inr 2, .inr 3, .inr 4] (va_runV (As := [.int p1, .int p2]) (rest := []) ⟨hx, hb, hml, hown, hts⟩ (kX8_checkPart l D cI cJ cD q hq N Tn p1 p2 hc) (cwV 2 hts gX8_border_X8_checkPart rfl rfl rfl (by decide +kernel) ⟨(Nat.le_of_ble_eq_true rfl), (Nat.le_of_ble_eq_true rfl)⟩) ⟨gP_blind, va_recv hE.1 hP (ci := 6) (q0 := 0) rfl rfl, fun U hU hW => ⟨rfl, by rw [hU]; exact hP.sub (ws' := (w_0_1 q cI cJ cD Tn)) [0, 1] rfl, gEv.warm hW hE⟩⟩ rfl rfl hl.1 rfl (lv_room (Nat.le_of_ble_eq_true rfl)) dX8_border_3 ⟨Nat.zero_le _, Nat.zero_le _⟩) hP hS (gSub rfl) rfl rfl rfl rfl rfl (fun H locs hP hS => ?_)
  refine lv_aload_n hx hb dX8_border_6 rfl (lv_at hl 0 rfl) ?_
  refine va_get (D := D) (ci := 6) (v := .ref (q 5)) (C := RX8) (T := TX8) (N := 6) hx hb hts huX8 hown hE.1 hP 0 rfl rfl 2 (by decide) hk26 (fun _ h9 => h9) rfl dX8_border_7 ?_
  refine lv_aload_n hx hb dX8_border_10 rfl (lv_at hl 0 rfl) ?_
  refine va_get (D := D) (ci := 6) (v := .ref (q 1)) (C := RX8) (T := TX8) (N := 6) hx hb hts huX8 hown hE.1 hP 0 rfl rfl 0 (by decide) hk10 (fun _ h9 => h9) rfl dX8_border_11 ?_
  refine lv_iload_n hx hb dX8_border_14 rfl (lv_at hl 1 rfl) ?_
  refine lv_iload_n hx hb dX8_border_15 rfl (lv_at hl 2 rfl) ?_
  obtain ⟨⟨r16, Ba16⟩, hc, hf⟩ := bn_some hf
  try dsimp only at hf
  refine g_call0 (ws' := (w_0_1_2_5_6 q cI cJ cD Tn Ta Ba16)) (st1 := [.int r16]) hq [0, 1, 2, 5, 6] [1, 2, 5, 6] [.inr 0, .inl 0, .inl 1, .inl 2, .inl 3] (va_runV (As := [.ref (q 1), .int p1, .int p2]) (rest := []) ⟨hx, hb, hml, hown, hts⟩ (kX0_longest l D cI cJ cD q hq N Tn Ta Ba p1 p2 r16 Ba16 hc) (cwV 3 hts gX8_border_X0_longest rfl rfl rfl (by decide +kernel) ⟨(Nat.le_of_ble_eq_true rfl), (Nat.le_of_ble_eq_true rfl)⟩) ⟨gP_blind, va_recv hE.1 hP (ci := 0) (q0 := 3) rfl rfl, fun U hU hW => ⟨rfl, by rw [hU]; exact hP.sub (ws' := (w_1_2_5_6 q cI cJ cD Tn Ta Ba)) [1, 2, 3, 4] rfl, gEv.warm hW hE⟩⟩ rfl rfl hl.1 rfl (lv_room (Nat.le_of_ble_eq_true rfl)) dX8_border_16 ⟨Nat.zero_le _, Nat.zero_le _⟩) hP hS (gSub rfl) rfl rfl rfl rfl rfl (fun H locs hP hS => ?_)
  exact nomatch hf
set_option maxHeartbeats 4000000 in
set_option maxRecDepth 100000 in
theorem kX8_rootLength (l : Launch) (D : va_G) (cI cJ cD : ClassId) (q : Nat → Nat) (hq : gInj 14 q) (N : Nat) (Tn : Int32) (Ta : (Nat → Int32)) (Ba : (Nat → Int32)) (p1 : Int32) (p2 : Int32) (r0 : Int32) (Ba9 : (Nat → Int32)) (hf : fX8_rootLength N Tn Ta Ba p1 p2 = some (.inr (r0, Ba9))) : Met l yX8_rootLength wsX8_rootLength rX8_rootLength (gP D cI cJ cD [.ref (q 0), .int p1, .int p2] (w_0_1_2_5_6 q cI cJ cD Tn Ta Ba)) (gQ D (some (.int r0)) (w_0_1_2_5_6 q cI cJ cD Tn Ta Ba9) (gA q [0, 1, 2, 5, 6])) 0 0 (gA q [0, 1, 2, 5, 6]) := by
  refine Met.ofW (cc := cX8_rootLength) (maxL := 3) (ret := (some .int)) (by decide +kernel) rfl ?_
  intro p e s m args below meth c s₁ B hml hv
  obtain ⟨rfl, hP, hE⟩ := hv
  have hx := B.exec
  have hb := B.bytes
  have hr := B.returns
  have hts := atoms_spec (ws := wsX8_rootLength) B.pre
  have hown : s.vm.findClass RX8 = some m.cls := findClass_of_methodNamed B.named
  have hlocks := B.notSynchronized
  have hS : va_S (gA q [0, 1, 2, 5, 6]) s.heap s.heap [] := va_S.rf
  have hl := lv_entry ([.ref (q 0), .int p1, .int p2]) (n := 3) (Nat.le_of_ble_eq_true rfl)
  rw [lg_entry_eq]
  generalize (lg_sl ([.ref (q 0), .int p1, .int p2]) ++ List.replicate (3 - (lg_sl ([.ref (q 0), .int p1, .int p2])).length) Slot.unset).toArray = ls at hl ⊢
  have hl : lv_has ls 3 [(0, .ref (q 0)), (1, .int p1), (2, .int p2)] := hl
  have hk26 := hts (.fieldLink RX8 26 "LyndonText" "borderRow" "LLyndonText$Borders;") (by decide +kernel)
  have hk10 := hts (.fieldLink RX8 10 "LyndonText" "text" "LLyndonText$Letters;") (by decide +kernel)
  have huX8 : ∀ w ∈ u_ws RX8 TX8 6, w ∈ wsX8_rootLength := by decide +kernel
  unfold fX8_rootLength at hf
  refine lv_aload_n hx hb dX8_rootLength_0 rfl (lv_at hl 0 rfl) ?_
  refine lv_iload_n hx hb dX8_rootLength_1 rfl (lv_at hl 1 rfl) ?_
  refine lv_iload_n hx hb dX8_rootLength_2 rfl (lv_at hl 2 rfl) ?_
  rcases bx_some hf with ⟨e3, hc, hf⟩ | ⟨⟨⟩, hc, hf⟩
  · exact nomatch hf
  try dsimp only at hf
  refine g_call0 (ws' := (w_0_1_2_5_6 q cI cJ cD Tn Ta Ba)) (st1 := []) hq [0, 1, 2, 5, 6] [0, 1] [.inl 0, .inl 1, .inr 2, .inr 3, .inr 4] (va_runV (As := [.int p1, .int p2]) (rest := []) ⟨hx, hb, hml, hown, hts⟩ (kX8_checkPart l D cI cJ cD q hq N Tn p1 p2 hc) (cwV 2 hts gX8_rootLength_X8_checkPart rfl rfl rfl (by decide +kernel) ⟨(Nat.le_of_ble_eq_true rfl), (Nat.le_of_ble_eq_true rfl)⟩) ⟨gP_blind, va_recv hE.1 hP (ci := 6) (q0 := 0) rfl rfl, fun U hU hW => ⟨rfl, by rw [hU]; exact hP.sub (ws' := (w_0_1 q cI cJ cD Tn)) [0, 1] rfl, gEv.warm hW hE⟩⟩ rfl rfl hl.1 rfl (lv_room (Nat.le_of_ble_eq_true rfl)) dX8_rootLength_3 ⟨Nat.zero_le _, Nat.zero_le _⟩) hP hS (gSub rfl) rfl rfl rfl rfl rfl (fun H locs hP hS => ?_)
  refine lv_aload_n hx hb dX8_rootLength_6 rfl (lv_at hl 0 rfl) ?_
  refine va_get (D := D) (ci := 6) (v := .ref (q 5)) (C := RX8) (T := TX8) (N := 6) hx hb hts huX8 hown hE.1 hP 0 rfl rfl 2 (by decide) hk26 (fun _ h9 => h9) rfl dX8_rootLength_7 ?_
  refine lv_aload_n hx hb dX8_rootLength_10 rfl (lv_at hl 0 rfl) ?_
  refine va_get (D := D) (ci := 6) (v := .ref (q 1)) (C := RX8) (T := TX8) (N := 6) hx hb hts huX8 hown hE.1 hP 0 rfl rfl 0 (by decide) hk10 (fun _ h9 => h9) rfl dX8_rootLength_11 ?_
  refine lv_iload_n hx hb dX8_rootLength_14 rfl (lv_at hl 1 rfl) ?_
  refine lv_iload_n hx hb dX8_rootLength_15 rfl (lv_at hl 2 rfl) ?_
  obtain ⟨⟨r16, Ba16⟩, hc, hf⟩ := bn_some hf
  try dsimp only at hf
  refine g_call0 (ws' := (w_0_1_2_5_6 q cI cJ cD Tn Ta Ba16)) (st1 := [.int r16]) hq [0, 1, 2, 5, 6] [1, 2, 5, 6] [.inr 0, .inl 0, .inl 1, .inl 2, .inl 3] (va_runV (As := [.ref (q 1), .int p1, .int p2]) (rest := []) ⟨hx, hb, hml, hown, hts⟩ (kX0_rootSize l D cI cJ cD q hq N Tn Ta Ba p1 p2 r16 Ba16 hc) (cwV 3 hts gX8_rootLength_X0_rootSize rfl rfl rfl (by decide +kernel) ⟨(Nat.le_of_ble_eq_true rfl), (Nat.le_of_ble_eq_true rfl)⟩) ⟨gP_blind, va_recv hE.1 hP (ci := 0) (q0 := 3) rfl rfl, fun U hU hW => ⟨rfl, by rw [hU]; exact hP.sub (ws' := (w_1_2_5_6 q cI cJ cD Tn Ta Ba)) [1, 2, 3, 4] rfl, gEv.warm hW hE⟩⟩ rfl rfl hl.1 rfl (lv_room (Nat.le_of_ble_eq_true rfl)) dX8_rootLength_16 ⟨Nat.zero_le _, Nat.zero_le _⟩) hP hS (gSub rfl) rfl rfl rfl rfl rfl (fun H locs hP hS => ?_)
  cases hf
  exact W.iret hx hb hr (fun t ht hW => ⟨⟨rfl, by rw [ht]; exact hP⟩, hS.F ht⟩) hS.2.2 dX8_rootLength_19
set_option maxHeartbeats 4000000 in
set_option maxRecDepth 100000 in
theorem kX8_rootLengthx (l : Launch) (hlt : l.stackTraces = false) (D : va_G) (cI cJ cD : ClassId) (sa : Nat → Nat) (q : Nat → Nat) (hq : gInj 14 q) (N : Nat) (Tn : Int32) (Ta : (Nat → Int32)) (Ba : (Nat → Int32)) (p1 : Int32) (p2 : Int32) (e0 : Nat) (Ba9 : (Nat → Int32)) (hf : fX8_rootLength N Tn Ta Ba p1 p2 = some (.inl (e0, Ba9))) : vx_Met l yX8_rootLength wsX8_rootLength rX8_rootLengthx (gPx D cI cJ cD sa (gA q [0, 1, 2, 5, 6]) [.ref (q 0), .int p1, .int p2] (w_0_1_2_5_6 q cI cJ cD Tn Ta Ba)) (fun _ _ _ _ => False) (gX D (gEn e0) (w_0_1_2_5_6 q cI cJ cD Tn Ta Ba9) (gA q [0, 1, 2, 5, 6])) 1 6 (gA q [0, 1, 2, 5, 6]) := by
  refine vx_ofW (cc := cX8_rootLength) (maxL := 3) (ret := (some .int)) (by decide +kernel) rfl ?_
  intro p e s m args below meth c s₁ B hml htab hv
  obtain ⟨rfl, hP, hE, hXe⟩ := hv
  have hx := B.exec
  have hb := B.bytes
  have hr := B.returns
  have hts := atoms_spec (ws := wsX8_rootLength) B.pre
  have hown : s.vm.findClass RX8 = some m.cls := findClass_of_methodNamed B.named
  have hlocks := B.notSynchronized
  have hS : va_S (gA q [0, 1, 2, 5, 6]) s.heap s.heap [] := va_S.rf
  have hl := lv_entry ([.ref (q 0), .int p1, .int p2]) (n := 3) (Nat.le_of_ble_eq_true rfl)
  rw [lg_entry_eq]
  generalize (lg_sl ([.ref (q 0), .int p1, .int p2]) ++ List.replicate (3 - (lg_sl ([.ref (q 0), .int p1, .int p2])).length) Slot.unset).toArray = ls at hl ⊢
  have hl : lv_has ls 3 [(0, .ref (q 0)), (1, .int p1), (2, .int p2)] := hl
  have hk26 := hts (.fieldLink RX8 26 "LyndonText" "borderRow" "LLyndonText$Borders;") (by decide +kernel)
  have hk10 := hts (.fieldLink RX8 10 "LyndonText" "text" "LLyndonText$Letters;") (by decide +kernel)
  have huX8 : ∀ w ∈ u_ws RX8 TX8 6, w ∈ wsX8_rootLength := by decide +kernel
  unfold fX8_rootLength at hf
  refine lv_aload_n hx hb dX8_rootLength_0 rfl (lv_at hl 0 rfl) ?_
  refine lv_iload_n hx hb dX8_rootLength_1 rfl (lv_at hl 1 rfl) ?_
  refine lv_iload_n hx hb dX8_rootLength_2 rfl (lv_at hl 2 rfl) ?_
  rcases bx_some hf with ⟨e3, hc, hf⟩ | ⟨⟨⟩, hc, hf⟩
  · try dsimp only at hf
    refine g_callX (ws' := (w_0_1_2_5_6 q cI cJ cD Tn Ta Ba)) hq [0, 1, 2, 5, 6] [0, 1] [.inl 0, .inl 1, .inr 2, .inr 3, .inr 4] (vx_runV (As := [.int p1, .int p2]) (rest := []) ⟨hx, hb, hml, hown, hts⟩ (kX8_checkPartx l hlt D cI cJ cD sa q hq N Tn p1 p2 e3 hc) (cwV 2 hts gX8_rootLength_X8_checkPart rfl rfl rfl (by decide +kernel) ⟨(Nat.le_of_ble_eq_true rfl), (Nat.le_of_ble_eq_true rfl)⟩) ⟨gPx_blind, va_recv hE.1 hP (ci := 6) (q0 := 0) rfl rfl, fun U hU hW => ⟨rfl, by rw [hU]; exact hP.sub (ws' := (w_0_1 q cI cJ cD Tn)) [0, 1] rfl, gEv.warm hW hE, gXe.go hW hS (gMono rfl) hXe hU⟩⟩ rfl rfl hl.1 rfl (lv_room (Nat.le_of_ble_eq_true rfl)) dX8_rootLength_3 ⟨(Nat.le_of_ble_eq_true rfl), (Nat.le_of_ble_eq_true rfl)⟩) hP hS (gSub rfl) rfl rfl rfl rfl (fun ce q9 H locs hP hS hce hcv hcl => ?_)
    cases hf
    exact vx_out (fun x9 hx9 => (htab x9 hx9).elim) hlocks hce hcv hcl (fun t ht hv => ⟨rfl, by rw [ht]; exact hP, hS.F ht⟩) hS.2.2 (Nat.le_of_ble_eq_true rfl) (Nat.le_of_ble_eq_true rfl)
  try dsimp only at hf
  refine g_call0 (ws' := (w_0_1_2_5_6 q cI cJ cD Tn Ta Ba)) (st1 := []) hq [0, 1, 2, 5, 6] [0, 1] [.inl 0, .inl 1, .inr 2, .inr 3, .inr 4] (va_runV (As := [.int p1, .int p2]) (rest := []) ⟨hx, hb, hml, hown, hts⟩ (kX8_checkPart l D cI cJ cD q hq N Tn p1 p2 hc) (cwV 2 hts gX8_rootLength_X8_checkPart rfl rfl rfl (by decide +kernel) ⟨(Nat.le_of_ble_eq_true rfl), (Nat.le_of_ble_eq_true rfl)⟩) ⟨gP_blind, va_recv hE.1 hP (ci := 6) (q0 := 0) rfl rfl, fun U hU hW => ⟨rfl, by rw [hU]; exact hP.sub (ws' := (w_0_1 q cI cJ cD Tn)) [0, 1] rfl, gEv.warm hW hE⟩⟩ rfl rfl hl.1 rfl (lv_room (Nat.le_of_ble_eq_true rfl)) dX8_rootLength_3 ⟨Nat.zero_le _, Nat.zero_le _⟩) hP hS (gSub rfl) rfl rfl rfl rfl rfl (fun H locs hP hS => ?_)
  refine lv_aload_n hx hb dX8_rootLength_6 rfl (lv_at hl 0 rfl) ?_
  refine va_get (D := D) (ci := 6) (v := .ref (q 5)) (C := RX8) (T := TX8) (N := 6) hx hb hts huX8 hown hE.1 hP 0 rfl rfl 2 (by decide) hk26 (fun _ h9 => h9) rfl dX8_rootLength_7 ?_
  refine lv_aload_n hx hb dX8_rootLength_10 rfl (lv_at hl 0 rfl) ?_
  refine va_get (D := D) (ci := 6) (v := .ref (q 1)) (C := RX8) (T := TX8) (N := 6) hx hb hts huX8 hown hE.1 hP 0 rfl rfl 0 (by decide) hk10 (fun _ h9 => h9) rfl dX8_rootLength_11 ?_
  refine lv_iload_n hx hb dX8_rootLength_14 rfl (lv_at hl 1 rfl) ?_
  refine lv_iload_n hx hb dX8_rootLength_15 rfl (lv_at hl 2 rfl) ?_
  obtain ⟨⟨r16, Ba16⟩, hc, hf⟩ := bn_some hf
  try dsimp only at hf
  refine g_call0 (ws' := (w_0_1_2_5_6 q cI cJ cD Tn Ta Ba16)) (st1 := [.int r16]) hq [0, 1, 2, 5, 6] [1, 2, 5, 6] [.inr 0, .inl 0, .inl 1, .inl 2, .inl 3] (va_runV (As := [.ref (q 1), .int p1, .int p2]) (rest := []) ⟨hx, hb, hml, hown, hts⟩ (kX0_rootSize l D cI cJ cD q hq N Tn Ta Ba p1 p2 r16 Ba16 hc) (cwV 3 hts gX8_rootLength_X0_rootSize rfl rfl rfl (by decide +kernel) ⟨(Nat.le_of_ble_eq_true rfl), (Nat.le_of_ble_eq_true rfl)⟩) ⟨gP_blind, va_recv hE.1 hP (ci := 0) (q0 := 3) rfl rfl, fun U hU hW => ⟨rfl, by rw [hU]; exact hP.sub (ws' := (w_1_2_5_6 q cI cJ cD Tn Ta Ba)) [1, 2, 3, 4] rfl, gEv.warm hW hE⟩⟩ rfl rfl hl.1 rfl (lv_room (Nat.le_of_ble_eq_true rfl)) dX8_rootLength_16 ⟨Nat.zero_le _, Nat.zero_le _⟩) hP hS (gSub rfl) rfl rfl rfl rfl rfl (fun H locs hP hS => ?_)
  exact nomatch hf
set_option maxHeartbeats 4000000 in
set_option maxRecDepth 100000 in
theorem kX8_quotient (l : Launch) (D : va_G) (cI cJ cD : ClassId) (q : Nat → Nat) (hq : gInj 14 q) (N : Nat) (p0 : Int32) (p1 : Int32) (r0 : UInt64) (hf : fX8_quotient N p0 p1 = some r0) : Met l yX8_quotient wsX8_quotient rX8_quotient (gP D cI cJ cD [.int p0, .int p1] (w_0none q cI cJ cD)) (gQ D (some (.double r0)) (w_0none q cI cJ cD) (gA q [])) 0 0 (gA q []) := by
  refine Met.ofW (cc := cX8_quotient) (maxL := 2) (ret := (some .double)) (by decide +kernel) rfl ?_
  intro p e s m args below meth c s₁ B hml hv
  obtain ⟨rfl, hP, hE⟩ := hv
  have hx := B.exec
  have hb := B.bytes
  have hr := B.returns
  have hts := atoms_spec (ws := wsX8_quotient) B.pre
  have hown : s.vm.findClass RX8 = some m.cls := findClass_of_methodNamed B.named
  have hlocks := B.notSynchronized
  have hS : va_S (gA q []) s.heap s.heap [] := va_S.rf
  have hl := lv_entry ([.int p0, .int p1]) (n := 2) (Nat.le_of_ble_eq_true rfl)
  rw [lg_entry_eq]
  generalize (lg_sl ([.int p0, .int p1]) ++ List.replicate (2 - (lg_sl ([.int p0, .int p1])).length) Slot.unset).toArray = ls at hl ⊢
  have hl : lv_has ls 2 [(0, .int p0), (1, .int p1)] := hl
  have J13 : ∀ (y0 : UInt64), fX8_quotient_J13 N y0 = some r0 → ∀ (H : Heap) (locs : List Loc), va_P D vwCl (w_0none q cI cJ cD) H → va_S (gA q []) s.heap H locs → ∀ ls : Array Slot, lv_has ls 2 [] → W p l e (headSpec wsX8_quotient rX8_quotient).room s m ([.int p0, .int p1] : List Value).toArray below meth c H locs 0 0 (MQ below (gQ D (some (.double r0)) (w_0none q cI cJ cD) (gA q [])) ([.int p0, .int p1] : List Value).toArray s 0 0 (gA q [])) (F0 m 13 ls [.double y0]) := by
    intro y0 hf H locs hP hS ls hl
    unfold fX8_quotient_J13 at hf
    cases hf
    exact W.dret hx hb hr (fun t ht hW => ⟨⟨rfl, by rw [ht]; exact hP⟩, hS.F ht⟩) hS.2.2 dX8_quotient_13
  unfold fX8_quotient at hf
  refine lv_iload_n hx hb dX8_quotient_0 rfl (lv_at hl 1 rfl) ?_
  refine lv_if_le (tgt := 12) hx hb dX8_quotient_1 (by decide) (fun c_1 => ?_) (fun c_1 => ?_)
  · have hf := (if_pos c_1).symm.trans hf
    refine lv_dconst0 hx hb dX8_quotient_12 ?_
    exact J13 FP.dconst0 hf _ _ hP hS _ (lv_sub hl [] rfl)
  · have hf := (if_neg c_1).symm.trans hf
    refine lv_iload_n hx hb dX8_quotient_4 rfl (lv_at hl 0 rfl) ?_
    refine lv_i2d hx hb dX8_quotient_5 ?_
    refine lv_iload_n hx hb dX8_quotient_6 rfl (lv_at hl 1 rfl) ?_
    refine lv_i2d hx hb dX8_quotient_7 ?_
    obtain ⟨g_2, hf⟩ := gd_some hf
    refine lv_ddiv hx hb dX8_quotient_8 (nonan_n g_2) ?_
    refine lv_goto (tgt := 13) hx hb dX8_quotient_9 (by decide) ?_
    exact J13 (FP.ddiv (FP.i2d p0) (FP.i2d p1)) hf _ _ hP hS _ (lv_sub hl [] rfl)
set_option maxHeartbeats 4000000 in
set_option maxRecDepth 100000 in
theorem kX8_exponent (l : Launch) (D : va_G) (cI cJ cD : ClassId) (q : Nat → Nat) (hq : gInj 14 q) (N : Nat) (Tn : Int32) (Ta : (Nat → Int32)) (Ba : (Nat → Int32)) (p1 : Int32) (p2 : Int32) (r0 : UInt64) (Ba9 : (Nat → Int32)) (hf : fX8_exponent N Tn Ta Ba p1 p2 = some (.inr (r0, Ba9))) : Met l yX8_exponent wsX8_exponent rX8_exponent (gP D cI cJ cD [.ref (q 0), .int p1, .int p2] (w_0_1_2_5_6 q cI cJ cD Tn Ta Ba)) (gQ D (some (.double r0)) (w_0_1_2_5_6 q cI cJ cD Tn Ta Ba9) (gA q [0, 1, 2, 5, 6])) 0 0 (gA q [0, 1, 2, 5, 6]) := by
  refine Met.ofW (cc := cX8_exponent) (maxL := 3) (ret := (some .double)) (by decide +kernel) rfl ?_
  intro p e s m args below meth c s₁ B hml hv
  obtain ⟨rfl, hP, hE⟩ := hv
  have hx := B.exec
  have hb := B.bytes
  have hr := B.returns
  have hts := atoms_spec (ws := wsX8_exponent) B.pre
  have hown : s.vm.findClass RX8 = some m.cls := findClass_of_methodNamed B.named
  have hlocks := B.notSynchronized
  have hS : va_S (gA q [0, 1, 2, 5, 6]) s.heap s.heap [] := va_S.rf
  have hl := lv_entry ([.ref (q 0), .int p1, .int p2]) (n := 3) (Nat.le_of_ble_eq_true rfl)
  rw [lg_entry_eq]
  generalize (lg_sl ([.ref (q 0), .int p1, .int p2]) ++ List.replicate (3 - (lg_sl ([.ref (q 0), .int p1, .int p2])).length) Slot.unset).toArray = ls at hl ⊢
  have hl : lv_has ls 3 [(0, .ref (q 0)), (1, .int p1), (2, .int p2)] := hl
  have hk26 := hts (.fieldLink RX8 26 "LyndonText" "borderRow" "LLyndonText$Borders;") (by decide +kernel)
  have hk10 := hts (.fieldLink RX8 10 "LyndonText" "text" "LLyndonText$Letters;") (by decide +kernel)
  have huX8 : ∀ w ∈ u_ws RX8 TX8 6, w ∈ wsX8_exponent := by decide +kernel
  unfold fX8_exponent at hf
  refine lv_aload_n hx hb dX8_exponent_0 rfl (lv_at hl 0 rfl) ?_
  refine lv_iload_n hx hb dX8_exponent_1 rfl (lv_at hl 1 rfl) ?_
  refine lv_iload_n hx hb dX8_exponent_2 rfl (lv_at hl 2 rfl) ?_
  rcases bx_some hf with ⟨e3, hc, hf⟩ | ⟨⟨⟩, hc, hf⟩
  · exact nomatch hf
  try dsimp only at hf
  refine g_call0 (ws' := (w_0_1_2_5_6 q cI cJ cD Tn Ta Ba)) (st1 := []) hq [0, 1, 2, 5, 6] [0, 1] [.inl 0, .inl 1, .inr 2, .inr 3, .inr 4] (va_runV (As := [.int p1, .int p2]) (rest := []) ⟨hx, hb, hml, hown, hts⟩ (kX8_checkPart l D cI cJ cD q hq N Tn p1 p2 hc) (cwV 2 hts gX8_exponent_X8_checkPart rfl rfl rfl (by decide +kernel) ⟨(Nat.le_of_ble_eq_true rfl), (Nat.le_of_ble_eq_true rfl)⟩) ⟨gP_blind, va_recv hE.1 hP (ci := 6) (q0 := 0) rfl rfl, fun U hU hW => ⟨rfl, by rw [hU]; exact hP.sub (ws' := (w_0_1 q cI cJ cD Tn)) [0, 1] rfl, gEv.warm hW hE⟩⟩ rfl rfl hl.1 rfl (lv_room (Nat.le_of_ble_eq_true rfl)) dX8_exponent_3 ⟨Nat.zero_le _, Nat.zero_le _⟩) hP hS (gSub rfl) rfl rfl rfl rfl rfl (fun H locs hP hS => ?_)
  refine lv_iload_n hx hb dX8_exponent_6 rfl (lv_at hl 2 rfl) ?_
  refine lv_iload_n hx hb dX8_exponent_7 rfl (lv_at hl 1 rfl) ?_
  refine lv_isub hx hb dX8_exponent_8 ?_
  refine lv_aload_n hx hb dX8_exponent_9 rfl (lv_at hl 0 rfl) ?_
  refine va_get (D := D) (ci := 6) (v := .ref (q 5)) (C := RX8) (T := TX8) (N := 6) hx hb hts huX8 hown hE.1 hP 0 rfl rfl 2 (by decide) hk26 (fun _ h9 => h9) rfl dX8_exponent_10 ?_
  refine lv_aload_n hx hb dX8_exponent_13 rfl (lv_at hl 0 rfl) ?_
  refine va_get (D := D) (ci := 6) (v := .ref (q 1)) (C := RX8) (T := TX8) (N := 6) hx hb hts huX8 hown hE.1 hP 0 rfl rfl 0 (by decide) hk10 (fun _ h9 => h9) rfl dX8_exponent_14 ?_
  refine lv_iload_n hx hb dX8_exponent_17 rfl (lv_at hl 1 rfl) ?_
  refine lv_iload_n hx hb dX8_exponent_18 rfl (lv_at hl 2 rfl) ?_
  obtain ⟨⟨r19, Ba19⟩, hc, hf⟩ := bn_some hf
  try dsimp only at hf
  refine g_call0 (ws' := (w_0_1_2_5_6 q cI cJ cD Tn Ta Ba19)) (st1 := [.int r19, .int (p2 - p1)]) hq [0, 1, 2, 5, 6] [1, 2, 5, 6] [.inr 0, .inl 0, .inl 1, .inl 2, .inl 3] (va_runV (As := [.ref (q 1), .int p1, .int p2]) (rest := [.int (p2 - p1)]) ⟨hx, hb, hml, hown, hts⟩ (kX0_leastPeriod l D cI cJ cD q hq N Tn Ta Ba p1 p2 r19 Ba19 hc) (cwV 3 hts gX8_exponent_X0_leastPeriod rfl rfl rfl (by decide +kernel) ⟨(Nat.le_of_ble_eq_true rfl), (Nat.le_of_ble_eq_true rfl)⟩) ⟨gP_blind, va_recv hE.1 hP (ci := 0) (q0 := 3) rfl rfl, fun U hU hW => ⟨rfl, by rw [hU]; exact hP.sub (ws' := (w_1_2_5_6 q cI cJ cD Tn Ta Ba)) [1, 2, 3, 4] rfl, gEv.warm hW hE⟩⟩ rfl rfl hl.1 rfl (lv_room (Nat.le_of_ble_eq_true rfl)) dX8_exponent_19 ⟨Nat.zero_le _, Nat.zero_le _⟩) hP hS (gSub rfl) rfl rfl rfl rfl rfl (fun H locs hP hS => ?_)
  obtain ⟨r22, hc, hf⟩ := bn_some hf
  try dsimp only at hf
  refine g_call0 (ws' := (w_0_1_2_5_6 q cI cJ cD Tn Ta Ba19)) (st1 := [.double r22]) hq [0, 1, 2, 5, 6] [] [.inr 0, .inr 1, .inr 2, .inr 3, .inr 4] (va_runS (As := [.int (p2 - p1), .int r19]) (rest := []) ⟨hx, hb, hml, hown, hts⟩ (kX8_quotient l D cI cJ cD q hq N (p2 - p1) r19 r22 hc) (va_cwS 2 hts gX8_exponent_X8_quotient rfl rfl rfl (by decide +kernel) ⟨(Nat.le_of_ble_eq_true rfl), (Nat.le_of_ble_eq_true rfl)⟩) ⟨gP_blind, fun U hU hW => ⟨rfl, by rw [hU]; exact hP.sub (ws' := (w_0none q cI cJ cD)) [] rfl, gEv.warm hW hE⟩⟩ rfl rfl hl.1 rfl (lv_room (Nat.le_of_ble_eq_true rfl)) dX8_exponent_22 ⟨Nat.zero_le _, Nat.zero_le _⟩) hP hS (gSub rfl) rfl rfl rfl rfl rfl (fun H locs hP hS => ?_)
  cases hf
  exact W.dret hx hb hr (fun t ht hW => ⟨⟨rfl, by rw [ht]; exact hP⟩, hS.F ht⟩) hS.2.2 dX8_exponent_25
set_option maxHeartbeats 4000000 in
set_option maxRecDepth 100000 in
theorem kX8_exponentx (l : Launch) (hlt : l.stackTraces = false) (D : va_G) (cI cJ cD : ClassId) (sa : Nat → Nat) (q : Nat → Nat) (hq : gInj 14 q) (N : Nat) (Tn : Int32) (Ta : (Nat → Int32)) (Ba : (Nat → Int32)) (p1 : Int32) (p2 : Int32) (e0 : Nat) (Ba9 : (Nat → Int32)) (hf : fX8_exponent N Tn Ta Ba p1 p2 = some (.inl (e0, Ba9))) : vx_Met l yX8_exponent wsX8_exponent rX8_exponentx (gPx D cI cJ cD sa (gA q [0, 1, 2, 5, 6]) [.ref (q 0), .int p1, .int p2] (w_0_1_2_5_6 q cI cJ cD Tn Ta Ba)) (fun _ _ _ _ => False) (gX D (gEn e0) (w_0_1_2_5_6 q cI cJ cD Tn Ta Ba9) (gA q [0, 1, 2, 5, 6])) 1 6 (gA q [0, 1, 2, 5, 6]) := by
  refine vx_ofW (cc := cX8_exponent) (maxL := 3) (ret := (some .double)) (by decide +kernel) rfl ?_
  intro p e s m args below meth c s₁ B hml htab hv
  obtain ⟨rfl, hP, hE, hXe⟩ := hv
  have hx := B.exec
  have hb := B.bytes
  have hr := B.returns
  have hts := atoms_spec (ws := wsX8_exponent) B.pre
  have hown : s.vm.findClass RX8 = some m.cls := findClass_of_methodNamed B.named
  have hlocks := B.notSynchronized
  have hS : va_S (gA q [0, 1, 2, 5, 6]) s.heap s.heap [] := va_S.rf
  have hl := lv_entry ([.ref (q 0), .int p1, .int p2]) (n := 3) (Nat.le_of_ble_eq_true rfl)
  rw [lg_entry_eq]
  generalize (lg_sl ([.ref (q 0), .int p1, .int p2]) ++ List.replicate (3 - (lg_sl ([.ref (q 0), .int p1, .int p2])).length) Slot.unset).toArray = ls at hl ⊢
  have hl : lv_has ls 3 [(0, .ref (q 0)), (1, .int p1), (2, .int p2)] := hl
  have hk26 := hts (.fieldLink RX8 26 "LyndonText" "borderRow" "LLyndonText$Borders;") (by decide +kernel)
  have hk10 := hts (.fieldLink RX8 10 "LyndonText" "text" "LLyndonText$Letters;") (by decide +kernel)
  have huX8 : ∀ w ∈ u_ws RX8 TX8 6, w ∈ wsX8_exponent := by decide +kernel
  unfold fX8_exponent at hf
  refine lv_aload_n hx hb dX8_exponent_0 rfl (lv_at hl 0 rfl) ?_
  refine lv_iload_n hx hb dX8_exponent_1 rfl (lv_at hl 1 rfl) ?_
  refine lv_iload_n hx hb dX8_exponent_2 rfl (lv_at hl 2 rfl) ?_
  rcases bx_some hf with ⟨e3, hc, hf⟩ | ⟨⟨⟩, hc, hf⟩
  · try dsimp only at hf
    refine g_callX (ws' := (w_0_1_2_5_6 q cI cJ cD Tn Ta Ba)) hq [0, 1, 2, 5, 6] [0, 1] [.inl 0, .inl 1, .inr 2, .inr 3, .inr 4] (vx_runV (As := [.int p1, .int p2]) (rest := []) ⟨hx, hb, hml, hown, hts⟩ (kX8_checkPartx l hlt D cI cJ cD sa q hq N Tn p1 p2 e3 hc) (cwV 2 hts gX8_exponent_X8_checkPart rfl rfl rfl (by decide +kernel) ⟨(Nat.le_of_ble_eq_true rfl), (Nat.le_of_ble_eq_true rfl)⟩) ⟨gPx_blind, va_recv hE.1 hP (ci := 6) (q0 := 0) rfl rfl, fun U hU hW => ⟨rfl, by rw [hU]; exact hP.sub (ws' := (w_0_1 q cI cJ cD Tn)) [0, 1] rfl, gEv.warm hW hE, gXe.go hW hS (gMono rfl) hXe hU⟩⟩ rfl rfl hl.1 rfl (lv_room (Nat.le_of_ble_eq_true rfl)) dX8_exponent_3 ⟨(Nat.le_of_ble_eq_true rfl), (Nat.le_of_ble_eq_true rfl)⟩) hP hS (gSub rfl) rfl rfl rfl rfl (fun ce q9 H locs hP hS hce hcv hcl => ?_)
    cases hf
    exact vx_out (fun x9 hx9 => (htab x9 hx9).elim) hlocks hce hcv hcl (fun t ht hv => ⟨rfl, by rw [ht]; exact hP, hS.F ht⟩) hS.2.2 (Nat.le_of_ble_eq_true rfl) (Nat.le_of_ble_eq_true rfl)
  try dsimp only at hf
  refine g_call0 (ws' := (w_0_1_2_5_6 q cI cJ cD Tn Ta Ba)) (st1 := []) hq [0, 1, 2, 5, 6] [0, 1] [.inl 0, .inl 1, .inr 2, .inr 3, .inr 4] (va_runV (As := [.int p1, .int p2]) (rest := []) ⟨hx, hb, hml, hown, hts⟩ (kX8_checkPart l D cI cJ cD q hq N Tn p1 p2 hc) (cwV 2 hts gX8_exponent_X8_checkPart rfl rfl rfl (by decide +kernel) ⟨(Nat.le_of_ble_eq_true rfl), (Nat.le_of_ble_eq_true rfl)⟩) ⟨gP_blind, va_recv hE.1 hP (ci := 6) (q0 := 0) rfl rfl, fun U hU hW => ⟨rfl, by rw [hU]; exact hP.sub (ws' := (w_0_1 q cI cJ cD Tn)) [0, 1] rfl, gEv.warm hW hE⟩⟩ rfl rfl hl.1 rfl (lv_room (Nat.le_of_ble_eq_true rfl)) dX8_exponent_3 ⟨Nat.zero_le _, Nat.zero_le _⟩) hP hS (gSub rfl) rfl rfl rfl rfl rfl (fun H locs hP hS => ?_)
  refine lv_iload_n hx hb dX8_exponent_6 rfl (lv_at hl 2 rfl) ?_
  refine lv_iload_n hx hb dX8_exponent_7 rfl (lv_at hl 1 rfl) ?_
  refine lv_isub hx hb dX8_exponent_8 ?_
  refine lv_aload_n hx hb dX8_exponent_9 rfl (lv_at hl 0 rfl) ?_
  refine va_get (D := D) (ci := 6) (v := .ref (q 5)) (C := RX8) (T := TX8) (N := 6) hx hb hts huX8 hown hE.1 hP 0 rfl rfl 2 (by decide) hk26 (fun _ h9 => h9) rfl dX8_exponent_10 ?_
  refine lv_aload_n hx hb dX8_exponent_13 rfl (lv_at hl 0 rfl) ?_
  refine va_get (D := D) (ci := 6) (v := .ref (q 1)) (C := RX8) (T := TX8) (N := 6) hx hb hts huX8 hown hE.1 hP 0 rfl rfl 0 (by decide) hk10 (fun _ h9 => h9) rfl dX8_exponent_14 ?_
  refine lv_iload_n hx hb dX8_exponent_17 rfl (lv_at hl 1 rfl) ?_
  refine lv_iload_n hx hb dX8_exponent_18 rfl (lv_at hl 2 rfl) ?_
  obtain ⟨⟨r19, Ba19⟩, hc, hf⟩ := bn_some hf
  try dsimp only at hf
  refine g_call0 (ws' := (w_0_1_2_5_6 q cI cJ cD Tn Ta Ba19)) (st1 := [.int r19, .int (p2 - p1)]) hq [0, 1, 2, 5, 6] [1, 2, 5, 6] [.inr 0, .inl 0, .inl 1, .inl 2, .inl 3] (va_runV (As := [.ref (q 1), .int p1, .int p2]) (rest := [.int (p2 - p1)]) ⟨hx, hb, hml, hown, hts⟩ (kX0_leastPeriod l D cI cJ cD q hq N Tn Ta Ba p1 p2 r19 Ba19 hc) (cwV 3 hts gX8_exponent_X0_leastPeriod rfl rfl rfl (by decide +kernel) ⟨(Nat.le_of_ble_eq_true rfl), (Nat.le_of_ble_eq_true rfl)⟩) ⟨gP_blind, va_recv hE.1 hP (ci := 0) (q0 := 3) rfl rfl, fun U hU hW => ⟨rfl, by rw [hU]; exact hP.sub (ws' := (w_1_2_5_6 q cI cJ cD Tn Ta Ba)) [1, 2, 3, 4] rfl, gEv.warm hW hE⟩⟩ rfl rfl hl.1 rfl (lv_room (Nat.le_of_ble_eq_true rfl)) dX8_exponent_19 ⟨Nat.zero_le _, Nat.zero_le _⟩) hP hS (gSub rfl) rfl rfl rfl rfl rfl (fun H locs hP hS => ?_)
  obtain ⟨r22, hc, hf⟩ := bn_some hf
  try dsimp only at hf
  refine g_call0 (ws' := (w_0_1_2_5_6 q cI cJ cD Tn Ta Ba19)) (st1 := [.double r22]) hq [0, 1, 2, 5, 6] [] [.inr 0, .inr 1, .inr 2, .inr 3, .inr 4] (va_runS (As := [.int (p2 - p1), .int r19]) (rest := []) ⟨hx, hb, hml, hown, hts⟩ (kX8_quotient l D cI cJ cD q hq N (p2 - p1) r19 r22 hc) (va_cwS 2 hts gX8_exponent_X8_quotient rfl rfl rfl (by decide +kernel) ⟨(Nat.le_of_ble_eq_true rfl), (Nat.le_of_ble_eq_true rfl)⟩) ⟨gP_blind, fun U hU hW => ⟨rfl, by rw [hU]; exact hP.sub (ws' := (w_0none q cI cJ cD)) [] rfl, gEv.warm hW hE⟩⟩ rfl rfl hl.1 rfl (lv_room (Nat.le_of_ble_eq_true rfl)) dX8_exponent_22 ⟨Nat.zero_le _, Nat.zero_le _⟩) hP hS (gSub rfl) rfl rfl rfl rfl rfl (fun H locs hP hS => ?_)
  exact nomatch hf
set_option maxHeartbeats 4000000 in
set_option maxRecDepth 100000 in
theorem kX8_runs (l : Launch) (D : va_G) (cI cJ cD : ClassId) (q : Nat → Nat) (hq : gInj 14 q) (N : Nat) (Tn : Int32) (Ta : (Nat → Int32)) (Rn : Int32) (Ra : (Nat → Int32)) (Rb : (Nat → Int32)) (Rd : (Nat → Int32)) (r0 : Int32) (Rn9 : Int32) (Ra9 : (Nat → Int32)) (Rb9 : (Nat → Int32)) (Rd9 : (Nat → Int32)) (hf : fX8_runs N Tn Ta Rn Ra Rb Rd = some (r0, Rn9, Ra9, Rb9, Rd9)) : Met l yX8_runs wsX8_runs rX8_runs (gP D cI cJ cD [.ref (q 0)] (w_0_1_2_7_8_9_10 q cI cJ cD Tn Ta Rn Ra Rb Rd)) (gQ D (some (.int r0)) (w_0_1_2_7_8_9_10 q cI cJ cD Tn Ta Rn9 Ra9 Rb9 Rd9) (gA q [0, 1, 2, 7, 8, 9, 10])) 0 0 (gA q [0, 1, 2, 7, 8, 9, 10]) := by
  refine Met.ofW (cc := cX8_runs) (maxL := 1) (ret := (some .int)) (by decide +kernel) rfl ?_
  intro p e s m args below meth c s₁ B hml hv
  obtain ⟨rfl, hP, hE⟩ := hv
  have hx := B.exec
  have hb := B.bytes
  have hr := B.returns
  have hts := atoms_spec (ws := wsX8_runs) B.pre
  have hown : s.vm.findClass RX8 = some m.cls := findClass_of_methodNamed B.named
  have hlocks := B.notSynchronized
  have hS : va_S (gA q [0, 1, 2, 7, 8, 9, 10]) s.heap s.heap [] := va_S.rf
  have hl := lv_entry ([.ref (q 0)]) (n := 1) (Nat.le_of_ble_eq_true rfl)
  rw [lg_entry_eq]
  generalize (lg_sl ([.ref (q 0)]) ++ List.replicate (1 - (lg_sl ([.ref (q 0)])).length) Slot.unset).toArray = ls at hl ⊢
  have hl : lv_has ls 1 [(0, .ref (q 0))] := hl
  have hk33 := hts (.fieldLink RX8 33 "LyndonText" "runRow" "LLyndonText$Runs;") (by decide +kernel)
  have hk10 := hts (.fieldLink RX8 10 "LyndonText" "text" "LLyndonText$Letters;") (by decide +kernel)
  have huX8 : ∀ w ∈ u_ws RX8 TX8 6, w ∈ wsX8_runs := by decide +kernel
  unfold fX8_runs at hf
  refine lv_aload_n hx hb dX8_runs_0 rfl (lv_at hl 0 rfl) ?_
  refine va_get (D := D) (ci := 6) (v := .ref (q 7)) (C := RX8) (T := TX8) (N := 6) hx hb hts huX8 hown hE.1 hP 0 rfl rfl 3 (by decide) hk33 (fun _ h9 => h9) rfl dX8_runs_1 ?_
  refine lv_aload_n hx hb dX8_runs_4 rfl (lv_at hl 0 rfl) ?_
  refine va_get (D := D) (ci := 6) (v := .ref (q 1)) (C := RX8) (T := TX8) (N := 6) hx hb hts huX8 hown hE.1 hP 0 rfl rfl 0 (by decide) hk10 (fun _ h9 => h9) rfl dX8_runs_5 ?_
  obtain ⟨⟨Rn8, Ra8, Rb8, Rd8⟩, hc, hf⟩ := bn_some hf
  try dsimp only at hf
  refine g_call0 (ws' := (w_0_1_2_7_8_9_10 q cI cJ cD Tn Ta Rn8 Ra8 Rb8 Rd8)) (st1 := []) hq [0, 1, 2, 7, 8, 9, 10] [1, 2, 7, 8, 9, 10] [.inr 0, .inl 0, .inl 1, .inl 2, .inl 3, .inl 4, .inl 5] (va_runV (As := [.ref (q 1)]) (rest := []) ⟨hx, hb, hml, hown, hts⟩ (kX6_find l D cI cJ cD q hq N Tn Ta Rn Ra Rb Rd Rn8 Ra8 Rb8 Rd8 hc) (cwV 1 hts gX8_runs_X6_find rfl rfl rfl (by decide +kernel) ⟨(Nat.le_of_ble_eq_true rfl), (Nat.le_of_ble_eq_true rfl)⟩) ⟨gP_blind, va_recv hE.1 hP (ci := 4) (q0 := 3) rfl rfl, fun U hU hW => ⟨rfl, by rw [hU]; exact hP.sub (ws' := (w_1_2_7_8_9_10 q cI cJ cD Tn Ta Rn Ra Rb Rd)) [1, 2, 3, 4, 5, 6] rfl, gEv.warm hW hE⟩⟩ rfl rfl hl.1 rfl (lv_room (Nat.le_of_ble_eq_true rfl)) dX8_runs_8 ⟨Nat.zero_le _, Nat.zero_le _⟩) hP hS (gSub rfl) rfl rfl rfl rfl rfl (fun H locs hP hS => ?_)
  refine lv_aload_n hx hb dX8_runs_11 rfl (lv_at hl 0 rfl) ?_
  refine va_get (D := D) (ci := 6) (v := .ref (q 7)) (C := RX8) (T := TX8) (N := 6) hx hb hts huX8 hown hE.1 hP 0 rfl rfl 3 (by decide) hk33 (fun _ h9 => h9) rfl dX8_runs_12 ?_
  obtain ⟨r15, hc, hf⟩ := bn_some hf
  try dsimp only at hf
  refine g_call0 (ws' := (w_0_1_2_7_8_9_10 q cI cJ cD Tn Ta Rn8 Ra8 Rb8 Rd8)) (st1 := [.int r15]) hq [0, 1, 2, 7, 8, 9, 10] [7] [.inr 0, .inr 1, .inr 2, .inl 0, .inr 4, .inr 5, .inr 6] (va_runV (As := []) (rest := []) ⟨hx, hb, hml, hown, hts⟩ (kX6_count l D cI cJ cD q hq N Rn8 r15 hc) (cwV 0 hts gX8_runs_X6_count rfl rfl rfl (by decide +kernel) ⟨(Nat.le_of_ble_eq_true rfl), (Nat.le_of_ble_eq_true rfl)⟩) ⟨gP_blind, va_recv hE.1 hP (ci := 4) (q0 := 3) rfl rfl, fun U hU hW => ⟨rfl, by rw [hU]; exact hP.sub (ws' := (w_7 q cI cJ cD Rn8)) [3] rfl, gEv.warm hW hE⟩⟩ rfl rfl hl.1 rfl (lv_room (Nat.le_of_ble_eq_true rfl)) dX8_runs_15 ⟨Nat.zero_le _, Nat.zero_le _⟩) hP hS (gSub rfl) rfl rfl rfl rfl rfl (fun H locs hP hS => ?_)
  cases hf
  exact W.iret hx hb hr (fun t ht hW => ⟨⟨rfl, by rw [ht]; exact hP⟩, hS.F ht⟩) hS.2.2 dX8_runs_18
set_option maxHeartbeats 4000000 in
set_option maxRecDepth 100000 in
theorem kX8_findRun (l : Launch) (D : va_G) (cI cJ cD : ClassId) (q : Nat → Nat) (hq : gInj 14 q) (N : Nat) (Tn : Int32) (Ta : (Nat → Int32)) (Rn : Int32) (Ra : (Nat → Int32)) (Rb : (Nat → Int32)) (Rd : (Nat → Int32)) (p1 : Int32) (Rn9 : Int32) (Ra9 : (Nat → Int32)) (Rb9 : (Nat → Int32)) (Rd9 : (Nat → Int32)) (hf : fX8_findRun N Tn Ta Rn Ra Rb Rd p1 = some (.inr (Rn9, Ra9, Rb9, Rd9))) : Met l yX8_findRun wsX8_findRun rX8_findRun (gP D cI cJ cD [.ref (q 0), .int p1] (w_0_1_2_7_8_9_10 q cI cJ cD Tn Ta Rn Ra Rb Rd)) (gQ D none (w_0_1_2_7_8_9_10 q cI cJ cD Tn Ta Rn9 Ra9 Rb9 Rd9) (gA q [0, 1, 2, 7, 8, 9, 10])) 0 0 (gA q [0, 1, 2, 7, 8, 9, 10]) := by
  refine Met.ofW (cc := cX8_findRun) (maxL := 2) (ret := none) (by decide +kernel) rfl ?_
  intro p e s m args below meth c s₁ B hml hv
  obtain ⟨rfl, hP, hE⟩ := hv
  have hx := B.exec
  have hb := B.bytes
  have hr := B.returns
  have hts := atoms_spec (ws := wsX8_findRun) B.pre
  have hown : s.vm.findClass RX8 = some m.cls := findClass_of_methodNamed B.named
  have hlocks := B.notSynchronized
  have hS : va_S (gA q [0, 1, 2, 7, 8, 9, 10]) s.heap s.heap [] := va_S.rf
  have hl := lv_entry ([.ref (q 0), .int p1]) (n := 2) (Nat.le_of_ble_eq_true rfl)
  rw [lg_entry_eq]
  generalize (lg_sl ([.ref (q 0), .int p1]) ++ List.replicate (2 - (lg_sl ([.ref (q 0), .int p1])).length) Slot.unset).toArray = ls at hl ⊢
  have hl : lv_has ls 2 [(0, .ref (q 0)), (1, .int p1)] := hl
  have hk33 := hts (.fieldLink RX8 33 "LyndonText" "runRow" "LLyndonText$Runs;") (by decide +kernel)
  have hk10 := hts (.fieldLink RX8 10 "LyndonText" "text" "LLyndonText$Letters;") (by decide +kernel)
  have huX8 : ∀ w ∈ u_ws RX8 TX8 6, w ∈ wsX8_findRun := by decide +kernel
  unfold fX8_findRun at hf
  refine lv_aload_n hx hb dX8_findRun_0 rfl (lv_at hl 0 rfl) ?_
  refine va_get (D := D) (ci := 6) (v := .ref (q 7)) (C := RX8) (T := TX8) (N := 6) hx hb hts huX8 hown hE.1 hP 0 rfl rfl 3 (by decide) hk33 (fun _ h9 => h9) rfl dX8_findRun_1 ?_
  refine lv_aload_n hx hb dX8_findRun_4 rfl (lv_at hl 0 rfl) ?_
  refine va_get (D := D) (ci := 6) (v := .ref (q 1)) (C := RX8) (T := TX8) (N := 6) hx hb hts huX8 hown hE.1 hP 0 rfl rfl 0 (by decide) hk10 (fun _ h9 => h9) rfl dX8_findRun_5 ?_
  obtain ⟨⟨Rn8, Ra8, Rb8, Rd8⟩, hc, hf⟩ := bn_some hf
  try dsimp only at hf
  refine g_call0 (ws' := (w_0_1_2_7_8_9_10 q cI cJ cD Tn Ta Rn8 Ra8 Rb8 Rd8)) (st1 := []) hq [0, 1, 2, 7, 8, 9, 10] [1, 2, 7, 8, 9, 10] [.inr 0, .inl 0, .inl 1, .inl 2, .inl 3, .inl 4, .inl 5] (va_runV (As := [.ref (q 1)]) (rest := []) ⟨hx, hb, hml, hown, hts⟩ (kX6_find l D cI cJ cD q hq N Tn Ta Rn Ra Rb Rd Rn8 Ra8 Rb8 Rd8 hc) (cwV 1 hts gX8_findRun_X6_find rfl rfl rfl (by decide +kernel) ⟨(Nat.le_of_ble_eq_true rfl), (Nat.le_of_ble_eq_true rfl)⟩) ⟨gP_blind, va_recv hE.1 hP (ci := 4) (q0 := 3) rfl rfl, fun U hU hW => ⟨rfl, by rw [hU]; exact hP.sub (ws' := (w_1_2_7_8_9_10 q cI cJ cD Tn Ta Rn Ra Rb Rd)) [1, 2, 3, 4, 5, 6] rfl, gEv.warm hW hE⟩⟩ rfl rfl hl.1 rfl (lv_room (Nat.le_of_ble_eq_true rfl)) dX8_findRun_8 ⟨Nat.zero_le _, Nat.zero_le _⟩) hP hS (gSub rfl) rfl rfl rfl rfl rfl (fun H locs hP hS => ?_)
  refine lv_iload_n hx hb dX8_findRun_11 rfl (lv_at hl 1 rfl) ?_
  refine lv_aload_n hx hb dX8_findRun_12 rfl (lv_at hl 0 rfl) ?_
  refine va_get (D := D) (ci := 6) (v := .ref (q 7)) (C := RX8) (T := TX8) (N := 6) hx hb hts huX8 hown hE.1 hP 0 rfl rfl 3 (by decide) hk33 (fun _ h9 => h9) rfl dX8_findRun_13 ?_
  obtain ⟨r16, hc, hf⟩ := bn_some hf
  try dsimp only at hf
  refine g_call0 (ws' := (w_0_1_2_7_8_9_10 q cI cJ cD Tn Ta Rn8 Ra8 Rb8 Rd8)) (st1 := [.int r16, .int p1]) hq [0, 1, 2, 7, 8, 9, 10] [7] [.inr 0, .inr 1, .inr 2, .inl 0, .inr 4, .inr 5, .inr 6] (va_runV (As := []) (rest := [.int p1]) ⟨hx, hb, hml, hown, hts⟩ (kX6_count l D cI cJ cD q hq N Rn8 r16 hc) (cwV 0 hts gX8_findRun_X6_count rfl rfl rfl (by decide +kernel) ⟨(Nat.le_of_ble_eq_true rfl), (Nat.le_of_ble_eq_true rfl)⟩) ⟨gP_blind, va_recv hE.1 hP (ci := 4) (q0 := 3) rfl rfl, fun U hU hW => ⟨rfl, by rw [hU]; exact hP.sub (ws' := (w_7 q cI cJ cD Rn8)) [3] rfl, gEv.warm hW hE⟩⟩ rfl rfl hl.1 rfl (lv_room (Nat.le_of_ble_eq_true rfl)) dX8_findRun_16 ⟨Nat.zero_le _, Nat.zero_le _⟩) hP hS (gSub rfl) rfl rfl rfl rfl rfl (fun H locs hP hS => ?_)
  rcases bx_some hf with ⟨e19, hc, hf⟩ | ⟨⟨⟩, hc, hf⟩
  · exact nomatch hf
  try dsimp only at hf
  refine g_call0 (ws' := (w_0_1_2_7_8_9_10 q cI cJ cD Tn Ta Rn8 Ra8 Rb8 Rd8)) (st1 := []) hq [0, 1, 2, 7, 8, 9, 10] [] [.inr 0, .inr 1, .inr 2, .inr 3, .inr 4, .inr 5, .inr 6] (va_runS (As := [.int p1, .int r16]) (rest := []) ⟨hx, hb, hml, hown, hts⟩ (kX8_checkIndex l D cI cJ cD q hq N p1 r16 hc) (va_cwS 2 hts gX8_findRun_X8_checkIndex rfl rfl rfl (by decide +kernel) ⟨(Nat.le_of_ble_eq_true rfl), (Nat.le_of_ble_eq_true rfl)⟩) ⟨gP_blind, fun U hU hW => ⟨rfl, by rw [hU]; exact hP.sub (ws' := (w_0none q cI cJ cD)) [] rfl, gEv.warm hW hE⟩⟩ rfl rfl hl.1 rfl (lv_room (Nat.le_of_ble_eq_true rfl)) dX8_findRun_19 ⟨Nat.zero_le _, Nat.zero_le _⟩) hP hS (gSub rfl) rfl rfl rfl rfl rfl (fun H locs hP hS => ?_)
  cases hf
  exact W.vret hx hb hr (fun t ht hW => ⟨⟨rfl, by rw [ht]; exact hP⟩, hS.F ht⟩) hS.2.2 dX8_findRun_22
set_option maxHeartbeats 4000000 in
set_option maxRecDepth 100000 in
theorem kX8_findRunx (l : Launch) (hlt : l.stackTraces = false) (D : va_G) (cI cJ cD : ClassId) (sa : Nat → Nat) (q : Nat → Nat) (hq : gInj 14 q) (N : Nat) (Tn : Int32) (Ta : (Nat → Int32)) (Rn : Int32) (Ra : (Nat → Int32)) (Rb : (Nat → Int32)) (Rd : (Nat → Int32)) (p1 : Int32) (e0 : Nat) (Rn9 : Int32) (Ra9 : (Nat → Int32)) (Rb9 : (Nat → Int32)) (Rd9 : (Nat → Int32)) (hf : fX8_findRun N Tn Ta Rn Ra Rb Rd p1 = some (.inl (e0, Rn9, Ra9, Rb9, Rd9))) : vx_Met l yX8_findRun wsX8_findRun rX8_findRunx (gPx D cI cJ cD sa (gA q [0, 1, 2, 7, 8, 9, 10]) [.ref (q 0), .int p1] (w_0_1_2_7_8_9_10 q cI cJ cD Tn Ta Rn Ra Rb Rd)) (fun _ _ _ _ => False) (gX D (gEn e0) (w_0_1_2_7_8_9_10 q cI cJ cD Tn Ta Rn9 Ra9 Rb9 Rd9) (gA q [0, 1, 2, 7, 8, 9, 10])) 1 6 (gA q [0, 1, 2, 7, 8, 9, 10]) := by
  refine vx_ofW (cc := cX8_findRun) (maxL := 2) (ret := none) (by decide +kernel) rfl ?_
  intro p e s m args below meth c s₁ B hml htab hv
  obtain ⟨rfl, hP, hE, hXe⟩ := hv
  have hx := B.exec
  have hb := B.bytes
  have hr := B.returns
  have hts := atoms_spec (ws := wsX8_findRun) B.pre
  have hown : s.vm.findClass RX8 = some m.cls := findClass_of_methodNamed B.named
  have hlocks := B.notSynchronized
  have hS : va_S (gA q [0, 1, 2, 7, 8, 9, 10]) s.heap s.heap [] := va_S.rf
  have hl := lv_entry ([.ref (q 0), .int p1]) (n := 2) (Nat.le_of_ble_eq_true rfl)
  rw [lg_entry_eq]
  generalize (lg_sl ([.ref (q 0), .int p1]) ++ List.replicate (2 - (lg_sl ([.ref (q 0), .int p1])).length) Slot.unset).toArray = ls at hl ⊢
  have hl : lv_has ls 2 [(0, .ref (q 0)), (1, .int p1)] := hl
  have hk33 := hts (.fieldLink RX8 33 "LyndonText" "runRow" "LLyndonText$Runs;") (by decide +kernel)
  have hk10 := hts (.fieldLink RX8 10 "LyndonText" "text" "LLyndonText$Letters;") (by decide +kernel)
  have huX8 : ∀ w ∈ u_ws RX8 TX8 6, w ∈ wsX8_findRun := by decide +kernel
  unfold fX8_findRun at hf
  refine lv_aload_n hx hb dX8_findRun_0 rfl (lv_at hl 0 rfl) ?_
  refine va_get (D := D) (ci := 6) (v := .ref (q 7)) (C := RX8) (T := TX8) (N := 6) hx hb hts huX8 hown hE.1 hP 0 rfl rfl 3 (by decide) hk33 (fun _ h9 => h9) rfl dX8_findRun_1 ?_
  refine lv_aload_n hx hb dX8_findRun_4 rfl (lv_at hl 0 rfl) ?_
  refine va_get (D := D) (ci := 6) (v := .ref (q 1)) (C := RX8) (T := TX8) (N := 6) hx hb hts huX8 hown hE.1 hP 0 rfl rfl 0 (by decide) hk10 (fun _ h9 => h9) rfl dX8_findRun_5 ?_
  obtain ⟨⟨Rn8, Ra8, Rb8, Rd8⟩, hc, hf⟩ := bn_some hf
  try dsimp only at hf
  refine g_call0 (ws' := (w_0_1_2_7_8_9_10 q cI cJ cD Tn Ta Rn8 Ra8 Rb8 Rd8)) (st1 := []) hq [0, 1, 2, 7, 8, 9, 10] [1, 2, 7, 8, 9, 10] [.inr 0, .inl 0, .inl 1, .inl 2, .inl 3, .inl 4, .inl 5] (va_runV (As := [.ref (q 1)]) (rest := []) ⟨hx, hb, hml, hown, hts⟩ (kX6_find l D cI cJ cD q hq N Tn Ta Rn Ra Rb Rd Rn8 Ra8 Rb8 Rd8 hc) (cwV 1 hts gX8_findRun_X6_find rfl rfl rfl (by decide +kernel) ⟨(Nat.le_of_ble_eq_true rfl), (Nat.le_of_ble_eq_true rfl)⟩) ⟨gP_blind, va_recv hE.1 hP (ci := 4) (q0 := 3) rfl rfl, fun U hU hW => ⟨rfl, by rw [hU]; exact hP.sub (ws' := (w_1_2_7_8_9_10 q cI cJ cD Tn Ta Rn Ra Rb Rd)) [1, 2, 3, 4, 5, 6] rfl, gEv.warm hW hE⟩⟩ rfl rfl hl.1 rfl (lv_room (Nat.le_of_ble_eq_true rfl)) dX8_findRun_8 ⟨Nat.zero_le _, Nat.zero_le _⟩) hP hS (gSub rfl) rfl rfl rfl rfl rfl (fun H locs hP hS => ?_)
  refine lv_iload_n hx hb dX8_findRun_11 rfl (lv_at hl 1 rfl) ?_
  refine lv_aload_n hx hb dX8_findRun_12 rfl (lv_at hl 0 rfl) ?_
  refine va_get (D := D) (ci := 6) (v := .ref (q 7)) (C := RX8) (T := TX8) (N := 6) hx hb hts huX8 hown hE.1 hP 0 rfl rfl 3 (by decide) hk33 (fun _ h9 => h9) rfl dX8_findRun_13 ?_
  obtain ⟨r16, hc, hf⟩ := bn_some hf
  try dsimp only at hf
  refine g_call0 (ws' := (w_0_1_2_7_8_9_10 q cI cJ cD Tn Ta Rn8 Ra8 Rb8 Rd8)) (st1 := [.int r16, .int p1]) hq [0, 1, 2, 7, 8, 9, 10] [7] [.inr 0, .inr 1, .inr 2, .inl 0, .inr 4, .inr 5, .inr 6] (va_runV (As := []) (rest := [.int p1]) ⟨hx, hb, hml, hown, hts⟩ (kX6_count l D cI cJ cD q hq N Rn8 r16 hc) (cwV 0 hts gX8_findRun_X6_count rfl rfl rfl (by decide +kernel) ⟨(Nat.le_of_ble_eq_true rfl), (Nat.le_of_ble_eq_true rfl)⟩) ⟨gP_blind, va_recv hE.1 hP (ci := 4) (q0 := 3) rfl rfl, fun U hU hW => ⟨rfl, by rw [hU]; exact hP.sub (ws' := (w_7 q cI cJ cD Rn8)) [3] rfl, gEv.warm hW hE⟩⟩ rfl rfl hl.1 rfl (lv_room (Nat.le_of_ble_eq_true rfl)) dX8_findRun_16 ⟨Nat.zero_le _, Nat.zero_le _⟩) hP hS (gSub rfl) rfl rfl rfl rfl rfl (fun H locs hP hS => ?_)
  rcases bx_some hf with ⟨e19, hc, hf⟩ | ⟨⟨⟩, hc, hf⟩
  · try dsimp only at hf
    refine g_callX (ws' := (w_0_1_2_7_8_9_10 q cI cJ cD Tn Ta Rn8 Ra8 Rb8 Rd8)) hq [0, 1, 2, 7, 8, 9, 10] [] [.inr 0, .inr 1, .inr 2, .inr 3, .inr 4, .inr 5, .inr 6] (vx_runS (As := [.int p1, .int r16]) (rest := []) ⟨hx, hb, hml, hown, hts⟩ (kX8_checkIndexx l hlt D cI cJ cD sa q hq N p1 r16 e19 hc) (va_cwS 2 hts gX8_findRun_X8_checkIndex rfl rfl rfl (by decide +kernel) ⟨(Nat.le_of_ble_eq_true rfl), (Nat.le_of_ble_eq_true rfl)⟩) ⟨gPx_blind, fun U hU hW => ⟨rfl, by rw [hU]; exact hP.sub (ws' := (w_0none q cI cJ cD)) [] rfl, gEv.warm hW hE, gXe.go hW hS (gMono rfl) hXe hU⟩⟩ rfl rfl hl.1 rfl (lv_room (Nat.le_of_ble_eq_true rfl)) dX8_findRun_19 ⟨(Nat.le_of_ble_eq_true rfl), (Nat.le_of_ble_eq_true rfl)⟩) hP hS (gSub rfl) rfl rfl rfl rfl (fun ce q9 H locs hP hS hce hcv hcl => ?_)
    cases hf
    exact vx_out (fun x9 hx9 => (htab x9 hx9).elim) hlocks hce hcv hcl (fun t ht hv => ⟨rfl, by rw [ht]; exact hP, hS.F ht⟩) hS.2.2 (Nat.le_of_ble_eq_true rfl) (Nat.le_of_ble_eq_true rfl)
  try dsimp only at hf
  refine g_call0 (ws' := (w_0_1_2_7_8_9_10 q cI cJ cD Tn Ta Rn8 Ra8 Rb8 Rd8)) (st1 := []) hq [0, 1, 2, 7, 8, 9, 10] [] [.inr 0, .inr 1, .inr 2, .inr 3, .inr 4, .inr 5, .inr 6] (va_runS (As := [.int p1, .int r16]) (rest := []) ⟨hx, hb, hml, hown, hts⟩ (kX8_checkIndex l D cI cJ cD q hq N p1 r16 hc) (va_cwS 2 hts gX8_findRun_X8_checkIndex rfl rfl rfl (by decide +kernel) ⟨(Nat.le_of_ble_eq_true rfl), (Nat.le_of_ble_eq_true rfl)⟩) ⟨gP_blind, fun U hU hW => ⟨rfl, by rw [hU]; exact hP.sub (ws' := (w_0none q cI cJ cD)) [] rfl, gEv.warm hW hE⟩⟩ rfl rfl hl.1 rfl (lv_room (Nat.le_of_ble_eq_true rfl)) dX8_findRun_19 ⟨Nat.zero_le _, Nat.zero_le _⟩) hP hS (gSub rfl) rfl rfl rfl rfl rfl (fun H locs hP hS => ?_)
  exact nomatch hf
set_option maxHeartbeats 4000000 in
set_option maxRecDepth 100000 in
theorem kX8_runStart (l : Launch) (D : va_G) (cI cJ cD : ClassId) (q : Nat → Nat) (hq : gInj 14 q) (N : Nat) (Tn : Int32) (Ta : (Nat → Int32)) (Rn : Int32) (Ra : (Nat → Int32)) (Rb : (Nat → Int32)) (Rd : (Nat → Int32)) (p1 : Int32) (r0 : Int32) (Rn9 : Int32) (Ra9 : (Nat → Int32)) (Rb9 : (Nat → Int32)) (Rd9 : (Nat → Int32)) (hf : fX8_runStart N Tn Ta Rn Ra Rb Rd p1 = some (.inr (r0, Rn9, Ra9, Rb9, Rd9))) : Met l yX8_runStart wsX8_runStart rX8_runStart (gP D cI cJ cD [.ref (q 0), .int p1] (w_0_1_2_7_8_9_10 q cI cJ cD Tn Ta Rn Ra Rb Rd)) (gQ D (some (.int r0)) (w_0_1_2_7_8_9_10 q cI cJ cD Tn Ta Rn9 Ra9 Rb9 Rd9) (gA q [0, 1, 2, 7, 8, 9, 10])) 0 0 (gA q [0, 1, 2, 7, 8, 9, 10]) := by
  refine Met.ofW (cc := cX8_runStart) (maxL := 2) (ret := (some .int)) (by decide +kernel) rfl ?_
  intro p e s m args below meth c s₁ B hml hv
  obtain ⟨rfl, hP, hE⟩ := hv
  have hx := B.exec
  have hb := B.bytes
  have hr := B.returns
  have hts := atoms_spec (ws := wsX8_runStart) B.pre
  have hown : s.vm.findClass RX8 = some m.cls := findClass_of_methodNamed B.named
  have hlocks := B.notSynchronized
  have hS : va_S (gA q [0, 1, 2, 7, 8, 9, 10]) s.heap s.heap [] := va_S.rf
  have hl := lv_entry ([.ref (q 0), .int p1]) (n := 2) (Nat.le_of_ble_eq_true rfl)
  rw [lg_entry_eq]
  generalize (lg_sl ([.ref (q 0), .int p1]) ++ List.replicate (2 - (lg_sl ([.ref (q 0), .int p1])).length) Slot.unset).toArray = ls at hl ⊢
  have hl : lv_has ls 2 [(0, .ref (q 0)), (1, .int p1)] := hl
  have hk33 := hts (.fieldLink RX8 33 "LyndonText" "runRow" "LLyndonText$Runs;") (by decide +kernel)
  have huX8 : ∀ w ∈ u_ws RX8 TX8 6, w ∈ wsX8_runStart := by decide +kernel
  unfold fX8_runStart at hf
  refine lv_aload_n hx hb dX8_runStart_0 rfl (lv_at hl 0 rfl) ?_
  refine lv_iload_n hx hb dX8_runStart_1 rfl (lv_at hl 1 rfl) ?_
  rcases bx_some hf with ⟨⟨e2, Rn2, Ra2, Rb2, Rd2⟩, hc, hf⟩ | ⟨⟨Rn2, Ra2, Rb2, Rd2⟩, hc, hf⟩
  · exact nomatch hf
  try dsimp only at hf
  refine g_call0 (ws' := (w_0_1_2_7_8_9_10 q cI cJ cD Tn Ta Rn2 Ra2 Rb2 Rd2)) (st1 := []) hq [0, 1, 2, 7, 8, 9, 10] [0, 1, 2, 7, 8, 9, 10] [.inl 0, .inl 1, .inl 2, .inl 3, .inl 4, .inl 5, .inl 6] (va_runV (As := [.int p1]) (rest := []) ⟨hx, hb, hml, hown, hts⟩ (kX8_findRun l D cI cJ cD q hq N Tn Ta Rn Ra Rb Rd p1 Rn2 Ra2 Rb2 Rd2 hc) (cwV 1 hts gX8_runStart_X8_findRun rfl rfl rfl (by decide +kernel) ⟨(Nat.le_of_ble_eq_true rfl), (Nat.le_of_ble_eq_true rfl)⟩) ⟨gP_blind, va_recv hE.1 hP (ci := 6) (q0 := 0) rfl rfl, fun U hU hW => ⟨rfl, by rw [hU]; exact hP.sub (ws' := (w_0_1_2_7_8_9_10 q cI cJ cD Tn Ta Rn Ra Rb Rd)) [0, 1, 2, 3, 4, 5, 6] rfl, gEv.warm hW hE⟩⟩ rfl rfl hl.1 rfl (lv_room (Nat.le_of_ble_eq_true rfl)) dX8_runStart_2 ⟨Nat.zero_le _, Nat.zero_le _⟩) hP hS (gSub rfl) rfl rfl rfl rfl rfl (fun H locs hP hS => ?_)
  refine lv_aload_n hx hb dX8_runStart_5 rfl (lv_at hl 0 rfl) ?_
  refine va_get (D := D) (ci := 6) (v := .ref (q 7)) (C := RX8) (T := TX8) (N := 6) hx hb hts huX8 hown hE.1 hP 0 rfl rfl 3 (by decide) hk33 (fun _ h9 => h9) rfl dX8_runStart_6 ?_
  refine lv_iload_n hx hb dX8_runStart_9 rfl (lv_at hl 1 rfl) ?_
  obtain ⟨r10, hc, hf⟩ := bn_some hf
  try dsimp only at hf
  refine g_call0 (ws' := (w_0_1_2_7_8_9_10 q cI cJ cD Tn Ta Rn2 Ra2 Rb2 Rd2)) (st1 := [.int r10]) hq [0, 1, 2, 7, 8, 9, 10] [7, 8] [.inr 0, .inr 1, .inr 2, .inl 0, .inl 1, .inr 5, .inr 6] (va_runV (As := [.int p1]) (rest := []) ⟨hx, hb, hml, hown, hts⟩ (kX6_start l D cI cJ cD q hq N Rn2 Ra2 p1 r10 hc) (cwV 1 hts gX8_runStart_X6_start rfl rfl rfl (by decide +kernel) ⟨(Nat.le_of_ble_eq_true rfl), (Nat.le_of_ble_eq_true rfl)⟩) ⟨gP_blind, va_recv hE.1 hP (ci := 4) (q0 := 3) rfl rfl, fun U hU hW => ⟨rfl, by rw [hU]; exact hP.sub (ws' := (w_7_8 q cI cJ cD Rn2 Ra2)) [3, 4] rfl, gEv.warm hW hE⟩⟩ rfl rfl hl.1 rfl (lv_room (Nat.le_of_ble_eq_true rfl)) dX8_runStart_10 ⟨Nat.zero_le _, Nat.zero_le _⟩) hP hS (gSub rfl) rfl rfl rfl rfl rfl (fun H locs hP hS => ?_)
  cases hf
  exact W.iret hx hb hr (fun t ht hW => ⟨⟨rfl, by rw [ht]; exact hP⟩, hS.F ht⟩) hS.2.2 dX8_runStart_13
set_option maxHeartbeats 4000000 in
set_option maxRecDepth 100000 in
theorem kX8_runStartx (l : Launch) (hlt : l.stackTraces = false) (D : va_G) (cI cJ cD : ClassId) (sa : Nat → Nat) (q : Nat → Nat) (hq : gInj 14 q) (N : Nat) (Tn : Int32) (Ta : (Nat → Int32)) (Rn : Int32) (Ra : (Nat → Int32)) (Rb : (Nat → Int32)) (Rd : (Nat → Int32)) (p1 : Int32) (e0 : Nat) (Rn9 : Int32) (Ra9 : (Nat → Int32)) (Rb9 : (Nat → Int32)) (Rd9 : (Nat → Int32)) (hf : fX8_runStart N Tn Ta Rn Ra Rb Rd p1 = some (.inl (e0, Rn9, Ra9, Rb9, Rd9))) : vx_Met l yX8_runStart wsX8_runStart rX8_runStartx (gPx D cI cJ cD sa (gA q [0, 1, 2, 7, 8, 9, 10]) [.ref (q 0), .int p1] (w_0_1_2_7_8_9_10 q cI cJ cD Tn Ta Rn Ra Rb Rd)) (fun _ _ _ _ => False) (gX D (gEn e0) (w_0_1_2_7_8_9_10 q cI cJ cD Tn Ta Rn9 Ra9 Rb9 Rd9) (gA q [0, 1, 2, 7, 8, 9, 10])) 1 6 (gA q [0, 1, 2, 7, 8, 9, 10]) := by
  refine vx_ofW (cc := cX8_runStart) (maxL := 2) (ret := (some .int)) (by decide +kernel) rfl ?_
  intro p e s m args below meth c s₁ B hml htab hv
  obtain ⟨rfl, hP, hE, hXe⟩ := hv
  have hx := B.exec
  have hb := B.bytes
  have hr := B.returns
  have hts := atoms_spec (ws := wsX8_runStart) B.pre
  have hown : s.vm.findClass RX8 = some m.cls := findClass_of_methodNamed B.named
  have hlocks := B.notSynchronized
  have hS : va_S (gA q [0, 1, 2, 7, 8, 9, 10]) s.heap s.heap [] := va_S.rf
  have hl := lv_entry ([.ref (q 0), .int p1]) (n := 2) (Nat.le_of_ble_eq_true rfl)
  rw [lg_entry_eq]
  generalize (lg_sl ([.ref (q 0), .int p1]) ++ List.replicate (2 - (lg_sl ([.ref (q 0), .int p1])).length) Slot.unset).toArray = ls at hl ⊢
  have hl : lv_has ls 2 [(0, .ref (q 0)), (1, .int p1)] := hl
  have hk33 := hts (.fieldLink RX8 33 "LyndonText" "runRow" "LLyndonText$Runs;") (by decide +kernel)
  have huX8 : ∀ w ∈ u_ws RX8 TX8 6, w ∈ wsX8_runStart := by decide +kernel
  unfold fX8_runStart at hf
  refine lv_aload_n hx hb dX8_runStart_0 rfl (lv_at hl 0 rfl) ?_
  refine lv_iload_n hx hb dX8_runStart_1 rfl (lv_at hl 1 rfl) ?_
  rcases bx_some hf with ⟨⟨e2, Rn2, Ra2, Rb2, Rd2⟩, hc, hf⟩ | ⟨⟨Rn2, Ra2, Rb2, Rd2⟩, hc, hf⟩
  · try dsimp only at hf
    refine g_callX (ws' := (w_0_1_2_7_8_9_10 q cI cJ cD Tn Ta Rn2 Ra2 Rb2 Rd2)) hq [0, 1, 2, 7, 8, 9, 10] [0, 1, 2, 7, 8, 9, 10] [.inl 0, .inl 1, .inl 2, .inl 3, .inl 4, .inl 5, .inl 6] (vx_runV (As := [.int p1]) (rest := []) ⟨hx, hb, hml, hown, hts⟩ (kX8_findRunx l hlt D cI cJ cD sa q hq N Tn Ta Rn Ra Rb Rd p1 e2 Rn2 Ra2 Rb2 Rd2 hc) (cwV 1 hts gX8_runStart_X8_findRun rfl rfl rfl (by decide +kernel) ⟨(Nat.le_of_ble_eq_true rfl), (Nat.le_of_ble_eq_true rfl)⟩) ⟨gPx_blind, va_recv hE.1 hP (ci := 6) (q0 := 0) rfl rfl, fun U hU hW => ⟨rfl, by rw [hU]; exact hP.sub (ws' := (w_0_1_2_7_8_9_10 q cI cJ cD Tn Ta Rn Ra Rb Rd)) [0, 1, 2, 3, 4, 5, 6] rfl, gEv.warm hW hE, gXe.go hW hS (gMono rfl) hXe hU⟩⟩ rfl rfl hl.1 rfl (lv_room (Nat.le_of_ble_eq_true rfl)) dX8_runStart_2 ⟨(Nat.le_of_ble_eq_true rfl), (Nat.le_of_ble_eq_true rfl)⟩) hP hS (gSub rfl) rfl rfl rfl rfl (fun ce q9 H locs hP hS hce hcv hcl => ?_)
    cases hf
    exact vx_out (fun x9 hx9 => (htab x9 hx9).elim) hlocks hce hcv hcl (fun t ht hv => ⟨rfl, by rw [ht]; exact hP, hS.F ht⟩) hS.2.2 (Nat.le_of_ble_eq_true rfl) (Nat.le_of_ble_eq_true rfl)
  try dsimp only at hf
  refine g_call0 (ws' := (w_0_1_2_7_8_9_10 q cI cJ cD Tn Ta Rn2 Ra2 Rb2 Rd2)) (st1 := []) hq [0, 1, 2, 7, 8, 9, 10] [0, 1, 2, 7, 8, 9, 10] [.inl 0, .inl 1, .inl 2, .inl 3, .inl 4, .inl 5, .inl 6] (va_runV (As := [.int p1]) (rest := []) ⟨hx, hb, hml, hown, hts⟩ (kX8_findRun l D cI cJ cD q hq N Tn Ta Rn Ra Rb Rd p1 Rn2 Ra2 Rb2 Rd2 hc) (cwV 1 hts gX8_runStart_X8_findRun rfl rfl rfl (by decide +kernel) ⟨(Nat.le_of_ble_eq_true rfl), (Nat.le_of_ble_eq_true rfl)⟩) ⟨gP_blind, va_recv hE.1 hP (ci := 6) (q0 := 0) rfl rfl, fun U hU hW => ⟨rfl, by rw [hU]; exact hP.sub (ws' := (w_0_1_2_7_8_9_10 q cI cJ cD Tn Ta Rn Ra Rb Rd)) [0, 1, 2, 3, 4, 5, 6] rfl, gEv.warm hW hE⟩⟩ rfl rfl hl.1 rfl (lv_room (Nat.le_of_ble_eq_true rfl)) dX8_runStart_2 ⟨Nat.zero_le _, Nat.zero_le _⟩) hP hS (gSub rfl) rfl rfl rfl rfl rfl (fun H locs hP hS => ?_)
  refine lv_aload_n hx hb dX8_runStart_5 rfl (lv_at hl 0 rfl) ?_
  refine va_get (D := D) (ci := 6) (v := .ref (q 7)) (C := RX8) (T := TX8) (N := 6) hx hb hts huX8 hown hE.1 hP 0 rfl rfl 3 (by decide) hk33 (fun _ h9 => h9) rfl dX8_runStart_6 ?_
  refine lv_iload_n hx hb dX8_runStart_9 rfl (lv_at hl 1 rfl) ?_
  obtain ⟨r10, hc, hf⟩ := bn_some hf
  try dsimp only at hf
  refine g_call0 (ws' := (w_0_1_2_7_8_9_10 q cI cJ cD Tn Ta Rn2 Ra2 Rb2 Rd2)) (st1 := [.int r10]) hq [0, 1, 2, 7, 8, 9, 10] [7, 8] [.inr 0, .inr 1, .inr 2, .inl 0, .inl 1, .inr 5, .inr 6] (va_runV (As := [.int p1]) (rest := []) ⟨hx, hb, hml, hown, hts⟩ (kX6_start l D cI cJ cD q hq N Rn2 Ra2 p1 r10 hc) (cwV 1 hts gX8_runStart_X6_start rfl rfl rfl (by decide +kernel) ⟨(Nat.le_of_ble_eq_true rfl), (Nat.le_of_ble_eq_true rfl)⟩) ⟨gP_blind, va_recv hE.1 hP (ci := 4) (q0 := 3) rfl rfl, fun U hU hW => ⟨rfl, by rw [hU]; exact hP.sub (ws' := (w_7_8 q cI cJ cD Rn2 Ra2)) [3, 4] rfl, gEv.warm hW hE⟩⟩ rfl rfl hl.1 rfl (lv_room (Nat.le_of_ble_eq_true rfl)) dX8_runStart_10 ⟨Nat.zero_le _, Nat.zero_le _⟩) hP hS (gSub rfl) rfl rfl rfl rfl rfl (fun H locs hP hS => ?_)
  exact nomatch hf
set_option maxHeartbeats 4000000 in
set_option maxRecDepth 100000 in
theorem kX8_runEnd (l : Launch) (D : va_G) (cI cJ cD : ClassId) (q : Nat → Nat) (hq : gInj 14 q) (N : Nat) (Tn : Int32) (Ta : (Nat → Int32)) (Rn : Int32) (Ra : (Nat → Int32)) (Rb : (Nat → Int32)) (Rd : (Nat → Int32)) (p1 : Int32) (r0 : Int32) (Rn9 : Int32) (Ra9 : (Nat → Int32)) (Rb9 : (Nat → Int32)) (Rd9 : (Nat → Int32)) (hf : fX8_runEnd N Tn Ta Rn Ra Rb Rd p1 = some (.inr (r0, Rn9, Ra9, Rb9, Rd9))) : Met l yX8_runEnd wsX8_runEnd rX8_runEnd (gP D cI cJ cD [.ref (q 0), .int p1] (w_0_1_2_7_8_9_10 q cI cJ cD Tn Ta Rn Ra Rb Rd)) (gQ D (some (.int r0)) (w_0_1_2_7_8_9_10 q cI cJ cD Tn Ta Rn9 Ra9 Rb9 Rd9) (gA q [0, 1, 2, 7, 8, 9, 10])) 0 0 (gA q [0, 1, 2, 7, 8, 9, 10]) := by
  refine Met.ofW (cc := cX8_runEnd) (maxL := 2) (ret := (some .int)) (by decide +kernel) rfl ?_
  intro p e s m args below meth c s₁ B hml hv
  obtain ⟨rfl, hP, hE⟩ := hv
  have hx := B.exec
  have hb := B.bytes
  have hr := B.returns
  have hts := atoms_spec (ws := wsX8_runEnd) B.pre
  have hown : s.vm.findClass RX8 = some m.cls := findClass_of_methodNamed B.named
  have hlocks := B.notSynchronized
  have hS : va_S (gA q [0, 1, 2, 7, 8, 9, 10]) s.heap s.heap [] := va_S.rf
  have hl := lv_entry ([.ref (q 0), .int p1]) (n := 2) (Nat.le_of_ble_eq_true rfl)
  rw [lg_entry_eq]
  generalize (lg_sl ([.ref (q 0), .int p1]) ++ List.replicate (2 - (lg_sl ([.ref (q 0), .int p1])).length) Slot.unset).toArray = ls at hl ⊢
  have hl : lv_has ls 2 [(0, .ref (q 0)), (1, .int p1)] := hl
  have hk33 := hts (.fieldLink RX8 33 "LyndonText" "runRow" "LLyndonText$Runs;") (by decide +kernel)
  have huX8 : ∀ w ∈ u_ws RX8 TX8 6, w ∈ wsX8_runEnd := by decide +kernel
  unfold fX8_runEnd at hf
  refine lv_aload_n hx hb dX8_runEnd_0 rfl (lv_at hl 0 rfl) ?_
  refine lv_iload_n hx hb dX8_runEnd_1 rfl (lv_at hl 1 rfl) ?_
  rcases bx_some hf with ⟨⟨e2, Rn2, Ra2, Rb2, Rd2⟩, hc, hf⟩ | ⟨⟨Rn2, Ra2, Rb2, Rd2⟩, hc, hf⟩
  · exact nomatch hf
  try dsimp only at hf
  refine g_call0 (ws' := (w_0_1_2_7_8_9_10 q cI cJ cD Tn Ta Rn2 Ra2 Rb2 Rd2)) (st1 := []) hq [0, 1, 2, 7, 8, 9, 10] [0, 1, 2, 7, 8, 9, 10] [.inl 0, .inl 1, .inl 2, .inl 3, .inl 4, .inl 5, .inl 6] (va_runV (As := [.int p1]) (rest := []) ⟨hx, hb, hml, hown, hts⟩ (kX8_findRun l D cI cJ cD q hq N Tn Ta Rn Ra Rb Rd p1 Rn2 Ra2 Rb2 Rd2 hc) (cwV 1 hts gX8_runEnd_X8_findRun rfl rfl rfl (by decide +kernel) ⟨(Nat.le_of_ble_eq_true rfl), (Nat.le_of_ble_eq_true rfl)⟩) ⟨gP_blind, va_recv hE.1 hP (ci := 6) (q0 := 0) rfl rfl, fun U hU hW => ⟨rfl, by rw [hU]; exact hP.sub (ws' := (w_0_1_2_7_8_9_10 q cI cJ cD Tn Ta Rn Ra Rb Rd)) [0, 1, 2, 3, 4, 5, 6] rfl, gEv.warm hW hE⟩⟩ rfl rfl hl.1 rfl (lv_room (Nat.le_of_ble_eq_true rfl)) dX8_runEnd_2 ⟨Nat.zero_le _, Nat.zero_le _⟩) hP hS (gSub rfl) rfl rfl rfl rfl rfl (fun H locs hP hS => ?_)
  refine lv_aload_n hx hb dX8_runEnd_5 rfl (lv_at hl 0 rfl) ?_
  refine va_get (D := D) (ci := 6) (v := .ref (q 7)) (C := RX8) (T := TX8) (N := 6) hx hb hts huX8 hown hE.1 hP 0 rfl rfl 3 (by decide) hk33 (fun _ h9 => h9) rfl dX8_runEnd_6 ?_
  refine lv_iload_n hx hb dX8_runEnd_9 rfl (lv_at hl 1 rfl) ?_
  obtain ⟨r10, hc, hf⟩ := bn_some hf
  try dsimp only at hf
  refine g_call0 (ws' := (w_0_1_2_7_8_9_10 q cI cJ cD Tn Ta Rn2 Ra2 Rb2 Rd2)) (st1 := [.int r10]) hq [0, 1, 2, 7, 8, 9, 10] [7, 9] [.inr 0, .inr 1, .inr 2, .inl 0, .inr 4, .inl 1, .inr 6] (va_runV (As := [.int p1]) (rest := []) ⟨hx, hb, hml, hown, hts⟩ (kX6_end l D cI cJ cD q hq N Rn2 Rb2 p1 r10 hc) (cwV 1 hts gX8_runEnd_X6_end rfl rfl rfl (by decide +kernel) ⟨(Nat.le_of_ble_eq_true rfl), (Nat.le_of_ble_eq_true rfl)⟩) ⟨gP_blind, va_recv hE.1 hP (ci := 4) (q0 := 3) rfl rfl, fun U hU hW => ⟨rfl, by rw [hU]; exact hP.sub (ws' := (w_7_9 q cI cJ cD Rn2 Rb2)) [3, 5] rfl, gEv.warm hW hE⟩⟩ rfl rfl hl.1 rfl (lv_room (Nat.le_of_ble_eq_true rfl)) dX8_runEnd_10 ⟨Nat.zero_le _, Nat.zero_le _⟩) hP hS (gSub rfl) rfl rfl rfl rfl rfl (fun H locs hP hS => ?_)
  cases hf
  exact W.iret hx hb hr (fun t ht hW => ⟨⟨rfl, by rw [ht]; exact hP⟩, hS.F ht⟩) hS.2.2 dX8_runEnd_13
set_option maxHeartbeats 4000000 in
set_option maxRecDepth 100000 in
theorem kX8_runEndx (l : Launch) (hlt : l.stackTraces = false) (D : va_G) (cI cJ cD : ClassId) (sa : Nat → Nat) (q : Nat → Nat) (hq : gInj 14 q) (N : Nat) (Tn : Int32) (Ta : (Nat → Int32)) (Rn : Int32) (Ra : (Nat → Int32)) (Rb : (Nat → Int32)) (Rd : (Nat → Int32)) (p1 : Int32) (e0 : Nat) (Rn9 : Int32) (Ra9 : (Nat → Int32)) (Rb9 : (Nat → Int32)) (Rd9 : (Nat → Int32)) (hf : fX8_runEnd N Tn Ta Rn Ra Rb Rd p1 = some (.inl (e0, Rn9, Ra9, Rb9, Rd9))) : vx_Met l yX8_runEnd wsX8_runEnd rX8_runEndx (gPx D cI cJ cD sa (gA q [0, 1, 2, 7, 8, 9, 10]) [.ref (q 0), .int p1] (w_0_1_2_7_8_9_10 q cI cJ cD Tn Ta Rn Ra Rb Rd)) (fun _ _ _ _ => False) (gX D (gEn e0) (w_0_1_2_7_8_9_10 q cI cJ cD Tn Ta Rn9 Ra9 Rb9 Rd9) (gA q [0, 1, 2, 7, 8, 9, 10])) 1 6 (gA q [0, 1, 2, 7, 8, 9, 10]) := by
  refine vx_ofW (cc := cX8_runEnd) (maxL := 2) (ret := (some .int)) (by decide +kernel) rfl ?_
  intro p e s m args below meth c s₁ B hml htab hv
  obtain ⟨rfl, hP, hE, hXe⟩ := hv
  have hx := B.exec
  have hb := B.bytes
  have hr := B.returns
  have hts := atoms_spec (ws := wsX8_runEnd) B.pre
  have hown : s.vm.findClass RX8 = some m.cls := findClass_of_methodNamed B.named
  have hlocks := B.notSynchronized
  have hS : va_S (gA q [0, 1, 2, 7, 8, 9, 10]) s.heap s.heap [] := va_S.rf
  have hl := lv_entry ([.ref (q 0), .int p1]) (n := 2) (Nat.le_of_ble_eq_true rfl)
  rw [lg_entry_eq]
  generalize (lg_sl ([.ref (q 0), .int p1]) ++ List.replicate (2 - (lg_sl ([.ref (q 0), .int p1])).length) Slot.unset).toArray = ls at hl ⊢
  have hl : lv_has ls 2 [(0, .ref (q 0)), (1, .int p1)] := hl
  have hk33 := hts (.fieldLink RX8 33 "LyndonText" "runRow" "LLyndonText$Runs;") (by decide +kernel)
  have huX8 : ∀ w ∈ u_ws RX8 TX8 6, w ∈ wsX8_runEnd := by decide +kernel
  unfold fX8_runEnd at hf
  refine lv_aload_n hx hb dX8_runEnd_0 rfl (lv_at hl 0 rfl) ?_
  refine lv_iload_n hx hb dX8_runEnd_1 rfl (lv_at hl 1 rfl) ?_
  rcases bx_some hf with ⟨⟨e2, Rn2, Ra2, Rb2, Rd2⟩, hc, hf⟩ | ⟨⟨Rn2, Ra2, Rb2, Rd2⟩, hc, hf⟩
  · try dsimp only at hf
    refine g_callX (ws' := (w_0_1_2_7_8_9_10 q cI cJ cD Tn Ta Rn2 Ra2 Rb2 Rd2)) hq [0, 1, 2, 7, 8, 9, 10] [0, 1, 2, 7, 8, 9, 10] [.inl 0, .inl 1, .inl 2, .inl 3, .inl 4, .inl 5, .inl 6] (vx_runV (As := [.int p1]) (rest := []) ⟨hx, hb, hml, hown, hts⟩ (kX8_findRunx l hlt D cI cJ cD sa q hq N Tn Ta Rn Ra Rb Rd p1 e2 Rn2 Ra2 Rb2 Rd2 hc) (cwV 1 hts gX8_runEnd_X8_findRun rfl rfl rfl (by decide +kernel) ⟨(Nat.le_of_ble_eq_true rfl), (Nat.le_of_ble_eq_true rfl)⟩) ⟨gPx_blind, va_recv hE.1 hP (ci := 6) (q0 := 0) rfl rfl, fun U hU hW => ⟨rfl, by rw [hU]; exact hP.sub (ws' := (w_0_1_2_7_8_9_10 q cI cJ cD Tn Ta Rn Ra Rb Rd)) [0, 1, 2, 3, 4, 5, 6] rfl, gEv.warm hW hE, gXe.go hW hS (gMono rfl) hXe hU⟩⟩ rfl rfl hl.1 rfl (lv_room (Nat.le_of_ble_eq_true rfl)) dX8_runEnd_2 ⟨(Nat.le_of_ble_eq_true rfl), (Nat.le_of_ble_eq_true rfl)⟩) hP hS (gSub rfl) rfl rfl rfl rfl (fun ce q9 H locs hP hS hce hcv hcl => ?_)
    cases hf
    exact vx_out (fun x9 hx9 => (htab x9 hx9).elim) hlocks hce hcv hcl (fun t ht hv => ⟨rfl, by rw [ht]; exact hP, hS.F ht⟩) hS.2.2 (Nat.le_of_ble_eq_true rfl) (Nat.le_of_ble_eq_true rfl)
  try dsimp only at hf
  refine g_call0 (ws' := (w_0_1_2_7_8_9_10 q cI cJ cD Tn Ta Rn2 Ra2 Rb2 Rd2)) (st1 := []) hq [0, 1, 2, 7, 8, 9, 10] [0, 1, 2, 7, 8, 9, 10] [.inl 0, .inl 1, .inl 2, .inl 3, .inl 4, .inl 5, .inl 6] (va_runV (As := [.int p1]) (rest := []) ⟨hx, hb, hml, hown, hts⟩ (kX8_findRun l D cI cJ cD q hq N Tn Ta Rn Ra Rb Rd p1 Rn2 Ra2 Rb2 Rd2 hc) (cwV 1 hts gX8_runEnd_X8_findRun rfl rfl rfl (by decide +kernel) ⟨(Nat.le_of_ble_eq_true rfl), (Nat.le_of_ble_eq_true rfl)⟩) ⟨gP_blind, va_recv hE.1 hP (ci := 6) (q0 := 0) rfl rfl, fun U hU hW => ⟨rfl, by rw [hU]; exact hP.sub (ws' := (w_0_1_2_7_8_9_10 q cI cJ cD Tn Ta Rn Ra Rb Rd)) [0, 1, 2, 3, 4, 5, 6] rfl, gEv.warm hW hE⟩⟩ rfl rfl hl.1 rfl (lv_room (Nat.le_of_ble_eq_true rfl)) dX8_runEnd_2 ⟨Nat.zero_le _, Nat.zero_le _⟩) hP hS (gSub rfl) rfl rfl rfl rfl rfl (fun H locs hP hS => ?_)
  refine lv_aload_n hx hb dX8_runEnd_5 rfl (lv_at hl 0 rfl) ?_
  refine va_get (D := D) (ci := 6) (v := .ref (q 7)) (C := RX8) (T := TX8) (N := 6) hx hb hts huX8 hown hE.1 hP 0 rfl rfl 3 (by decide) hk33 (fun _ h9 => h9) rfl dX8_runEnd_6 ?_
  refine lv_iload_n hx hb dX8_runEnd_9 rfl (lv_at hl 1 rfl) ?_
  obtain ⟨r10, hc, hf⟩ := bn_some hf
  try dsimp only at hf
  refine g_call0 (ws' := (w_0_1_2_7_8_9_10 q cI cJ cD Tn Ta Rn2 Ra2 Rb2 Rd2)) (st1 := [.int r10]) hq [0, 1, 2, 7, 8, 9, 10] [7, 9] [.inr 0, .inr 1, .inr 2, .inl 0, .inr 4, .inl 1, .inr 6] (va_runV (As := [.int p1]) (rest := []) ⟨hx, hb, hml, hown, hts⟩ (kX6_end l D cI cJ cD q hq N Rn2 Rb2 p1 r10 hc) (cwV 1 hts gX8_runEnd_X6_end rfl rfl rfl (by decide +kernel) ⟨(Nat.le_of_ble_eq_true rfl), (Nat.le_of_ble_eq_true rfl)⟩) ⟨gP_blind, va_recv hE.1 hP (ci := 4) (q0 := 3) rfl rfl, fun U hU hW => ⟨rfl, by rw [hU]; exact hP.sub (ws' := (w_7_9 q cI cJ cD Rn2 Rb2)) [3, 5] rfl, gEv.warm hW hE⟩⟩ rfl rfl hl.1 rfl (lv_room (Nat.le_of_ble_eq_true rfl)) dX8_runEnd_10 ⟨Nat.zero_le _, Nat.zero_le _⟩) hP hS (gSub rfl) rfl rfl rfl rfl rfl (fun H locs hP hS => ?_)
  exact nomatch hf
set_option maxHeartbeats 4000000 in
set_option maxRecDepth 100000 in
theorem kX8_runPeriod (l : Launch) (D : va_G) (cI cJ cD : ClassId) (q : Nat → Nat) (hq : gInj 14 q) (N : Nat) (Tn : Int32) (Ta : (Nat → Int32)) (Rn : Int32) (Ra : (Nat → Int32)) (Rb : (Nat → Int32)) (Rd : (Nat → Int32)) (p1 : Int32) (r0 : Int32) (Rn9 : Int32) (Ra9 : (Nat → Int32)) (Rb9 : (Nat → Int32)) (Rd9 : (Nat → Int32)) (hf : fX8_runPeriod N Tn Ta Rn Ra Rb Rd p1 = some (.inr (r0, Rn9, Ra9, Rb9, Rd9))) : Met l yX8_runPeriod wsX8_runPeriod rX8_runPeriod (gP D cI cJ cD [.ref (q 0), .int p1] (w_0_1_2_7_8_9_10 q cI cJ cD Tn Ta Rn Ra Rb Rd)) (gQ D (some (.int r0)) (w_0_1_2_7_8_9_10 q cI cJ cD Tn Ta Rn9 Ra9 Rb9 Rd9) (gA q [0, 1, 2, 7, 8, 9, 10])) 0 0 (gA q [0, 1, 2, 7, 8, 9, 10]) := by
  refine Met.ofW (cc := cX8_runPeriod) (maxL := 2) (ret := (some .int)) (by decide +kernel) rfl ?_
  intro p e s m args below meth c s₁ B hml hv
  obtain ⟨rfl, hP, hE⟩ := hv
  have hx := B.exec
  have hb := B.bytes
  have hr := B.returns
  have hts := atoms_spec (ws := wsX8_runPeriod) B.pre
  have hown : s.vm.findClass RX8 = some m.cls := findClass_of_methodNamed B.named
  have hlocks := B.notSynchronized
  have hS : va_S (gA q [0, 1, 2, 7, 8, 9, 10]) s.heap s.heap [] := va_S.rf
  have hl := lv_entry ([.ref (q 0), .int p1]) (n := 2) (Nat.le_of_ble_eq_true rfl)
  rw [lg_entry_eq]
  generalize (lg_sl ([.ref (q 0), .int p1]) ++ List.replicate (2 - (lg_sl ([.ref (q 0), .int p1])).length) Slot.unset).toArray = ls at hl ⊢
  have hl : lv_has ls 2 [(0, .ref (q 0)), (1, .int p1)] := hl
  have hk33 := hts (.fieldLink RX8 33 "LyndonText" "runRow" "LLyndonText$Runs;") (by decide +kernel)
  have huX8 : ∀ w ∈ u_ws RX8 TX8 6, w ∈ wsX8_runPeriod := by decide +kernel
  unfold fX8_runPeriod at hf
  refine lv_aload_n hx hb dX8_runPeriod_0 rfl (lv_at hl 0 rfl) ?_
  refine lv_iload_n hx hb dX8_runPeriod_1 rfl (lv_at hl 1 rfl) ?_
  rcases bx_some hf with ⟨⟨e2, Rn2, Ra2, Rb2, Rd2⟩, hc, hf⟩ | ⟨⟨Rn2, Ra2, Rb2, Rd2⟩, hc, hf⟩
  · exact nomatch hf
  try dsimp only at hf
  refine g_call0 (ws' := (w_0_1_2_7_8_9_10 q cI cJ cD Tn Ta Rn2 Ra2 Rb2 Rd2)) (st1 := []) hq [0, 1, 2, 7, 8, 9, 10] [0, 1, 2, 7, 8, 9, 10] [.inl 0, .inl 1, .inl 2, .inl 3, .inl 4, .inl 5, .inl 6] (va_runV (As := [.int p1]) (rest := []) ⟨hx, hb, hml, hown, hts⟩ (kX8_findRun l D cI cJ cD q hq N Tn Ta Rn Ra Rb Rd p1 Rn2 Ra2 Rb2 Rd2 hc) (cwV 1 hts gX8_runPeriod_X8_findRun rfl rfl rfl (by decide +kernel) ⟨(Nat.le_of_ble_eq_true rfl), (Nat.le_of_ble_eq_true rfl)⟩) ⟨gP_blind, va_recv hE.1 hP (ci := 6) (q0 := 0) rfl rfl, fun U hU hW => ⟨rfl, by rw [hU]; exact hP.sub (ws' := (w_0_1_2_7_8_9_10 q cI cJ cD Tn Ta Rn Ra Rb Rd)) [0, 1, 2, 3, 4, 5, 6] rfl, gEv.warm hW hE⟩⟩ rfl rfl hl.1 rfl (lv_room (Nat.le_of_ble_eq_true rfl)) dX8_runPeriod_2 ⟨Nat.zero_le _, Nat.zero_le _⟩) hP hS (gSub rfl) rfl rfl rfl rfl rfl (fun H locs hP hS => ?_)
  refine lv_aload_n hx hb dX8_runPeriod_5 rfl (lv_at hl 0 rfl) ?_
  refine va_get (D := D) (ci := 6) (v := .ref (q 7)) (C := RX8) (T := TX8) (N := 6) hx hb hts huX8 hown hE.1 hP 0 rfl rfl 3 (by decide) hk33 (fun _ h9 => h9) rfl dX8_runPeriod_6 ?_
  refine lv_iload_n hx hb dX8_runPeriod_9 rfl (lv_at hl 1 rfl) ?_
  obtain ⟨r10, hc, hf⟩ := bn_some hf
  try dsimp only at hf
  refine g_call0 (ws' := (w_0_1_2_7_8_9_10 q cI cJ cD Tn Ta Rn2 Ra2 Rb2 Rd2)) (st1 := [.int r10]) hq [0, 1, 2, 7, 8, 9, 10] [7, 10] [.inr 0, .inr 1, .inr 2, .inl 0, .inr 4, .inr 5, .inl 1] (va_runV (As := [.int p1]) (rest := []) ⟨hx, hb, hml, hown, hts⟩ (kX6_leastPeriod l D cI cJ cD q hq N Rn2 Rd2 p1 r10 hc) (cwV 1 hts gX8_runPeriod_X6_leastPeriod rfl rfl rfl (by decide +kernel) ⟨(Nat.le_of_ble_eq_true rfl), (Nat.le_of_ble_eq_true rfl)⟩) ⟨gP_blind, va_recv hE.1 hP (ci := 4) (q0 := 3) rfl rfl, fun U hU hW => ⟨rfl, by rw [hU]; exact hP.sub (ws' := (w_7_10 q cI cJ cD Rn2 Rd2)) [3, 6] rfl, gEv.warm hW hE⟩⟩ rfl rfl hl.1 rfl (lv_room (Nat.le_of_ble_eq_true rfl)) dX8_runPeriod_10 ⟨Nat.zero_le _, Nat.zero_le _⟩) hP hS (gSub rfl) rfl rfl rfl rfl rfl (fun H locs hP hS => ?_)
  cases hf
  exact W.iret hx hb hr (fun t ht hW => ⟨⟨rfl, by rw [ht]; exact hP⟩, hS.F ht⟩) hS.2.2 dX8_runPeriod_13
set_option maxHeartbeats 4000000 in
set_option maxRecDepth 100000 in
theorem kX8_runPeriodx (l : Launch) (hlt : l.stackTraces = false) (D : va_G) (cI cJ cD : ClassId) (sa : Nat → Nat) (q : Nat → Nat) (hq : gInj 14 q) (N : Nat) (Tn : Int32) (Ta : (Nat → Int32)) (Rn : Int32) (Ra : (Nat → Int32)) (Rb : (Nat → Int32)) (Rd : (Nat → Int32)) (p1 : Int32) (e0 : Nat) (Rn9 : Int32) (Ra9 : (Nat → Int32)) (Rb9 : (Nat → Int32)) (Rd9 : (Nat → Int32)) (hf : fX8_runPeriod N Tn Ta Rn Ra Rb Rd p1 = some (.inl (e0, Rn9, Ra9, Rb9, Rd9))) : vx_Met l yX8_runPeriod wsX8_runPeriod rX8_runPeriodx (gPx D cI cJ cD sa (gA q [0, 1, 2, 7, 8, 9, 10]) [.ref (q 0), .int p1] (w_0_1_2_7_8_9_10 q cI cJ cD Tn Ta Rn Ra Rb Rd)) (fun _ _ _ _ => False) (gX D (gEn e0) (w_0_1_2_7_8_9_10 q cI cJ cD Tn Ta Rn9 Ra9 Rb9 Rd9) (gA q [0, 1, 2, 7, 8, 9, 10])) 1 6 (gA q [0, 1, 2, 7, 8, 9, 10]) := by
  refine vx_ofW (cc := cX8_runPeriod) (maxL := 2) (ret := (some .int)) (by decide +kernel) rfl ?_
  intro p e s m args below meth c s₁ B hml htab hv
  obtain ⟨rfl, hP, hE, hXe⟩ := hv
  have hx := B.exec
  have hb := B.bytes
  have hr := B.returns
  have hts := atoms_spec (ws := wsX8_runPeriod) B.pre
  have hown : s.vm.findClass RX8 = some m.cls := findClass_of_methodNamed B.named
  have hlocks := B.notSynchronized
  have hS : va_S (gA q [0, 1, 2, 7, 8, 9, 10]) s.heap s.heap [] := va_S.rf
  have hl := lv_entry ([.ref (q 0), .int p1]) (n := 2) (Nat.le_of_ble_eq_true rfl)
  rw [lg_entry_eq]
  generalize (lg_sl ([.ref (q 0), .int p1]) ++ List.replicate (2 - (lg_sl ([.ref (q 0), .int p1])).length) Slot.unset).toArray = ls at hl ⊢
  have hl : lv_has ls 2 [(0, .ref (q 0)), (1, .int p1)] := hl
  have hk33 := hts (.fieldLink RX8 33 "LyndonText" "runRow" "LLyndonText$Runs;") (by decide +kernel)
  have huX8 : ∀ w ∈ u_ws RX8 TX8 6, w ∈ wsX8_runPeriod := by decide +kernel
  unfold fX8_runPeriod at hf
  refine lv_aload_n hx hb dX8_runPeriod_0 rfl (lv_at hl 0 rfl) ?_
  refine lv_iload_n hx hb dX8_runPeriod_1 rfl (lv_at hl 1 rfl) ?_
  rcases bx_some hf with ⟨⟨e2, Rn2, Ra2, Rb2, Rd2⟩, hc, hf⟩ | ⟨⟨Rn2, Ra2, Rb2, Rd2⟩, hc, hf⟩
  · try dsimp only at hf
    refine g_callX (ws' := (w_0_1_2_7_8_9_10 q cI cJ cD Tn Ta Rn2 Ra2 Rb2 Rd2)) hq [0, 1, 2, 7, 8, 9, 10] [0, 1, 2, 7, 8, 9, 10] [.inl 0, .inl 1, .inl 2, .inl 3, .inl 4, .inl 5, .inl 6] (vx_runV (As := [.int p1]) (rest := []) ⟨hx, hb, hml, hown, hts⟩ (kX8_findRunx l hlt D cI cJ cD sa q hq N Tn Ta Rn Ra Rb Rd p1 e2 Rn2 Ra2 Rb2 Rd2 hc) (cwV 1 hts gX8_runPeriod_X8_findRun rfl rfl rfl (by decide +kernel) ⟨(Nat.le_of_ble_eq_true rfl), (Nat.le_of_ble_eq_true rfl)⟩) ⟨gPx_blind, va_recv hE.1 hP (ci := 6) (q0 := 0) rfl rfl, fun U hU hW => ⟨rfl, by rw [hU]; exact hP.sub (ws' := (w_0_1_2_7_8_9_10 q cI cJ cD Tn Ta Rn Ra Rb Rd)) [0, 1, 2, 3, 4, 5, 6] rfl, gEv.warm hW hE, gXe.go hW hS (gMono rfl) hXe hU⟩⟩ rfl rfl hl.1 rfl (lv_room (Nat.le_of_ble_eq_true rfl)) dX8_runPeriod_2 ⟨(Nat.le_of_ble_eq_true rfl), (Nat.le_of_ble_eq_true rfl)⟩) hP hS (gSub rfl) rfl rfl rfl rfl (fun ce q9 H locs hP hS hce hcv hcl => ?_)
    cases hf
    exact vx_out (fun x9 hx9 => (htab x9 hx9).elim) hlocks hce hcv hcl (fun t ht hv => ⟨rfl, by rw [ht]; exact hP, hS.F ht⟩) hS.2.2 (Nat.le_of_ble_eq_true rfl) (Nat.le_of_ble_eq_true rfl)
  try dsimp only at hf
  refine g_call0 (ws' := (w_0_1_2_7_8_9_10 q cI cJ cD Tn Ta Rn2 Ra2 Rb2 Rd2)) (st1 := []) hq [0, 1, 2, 7, 8, 9, 10] [0, 1, 2, 7, 8, 9, 10] [.inl 0, .inl 1, .inl 2, .inl 3, .inl 4, .inl 5, .inl 6] (va_runV (As := [.int p1]) (rest := []) ⟨hx, hb, hml, hown, hts⟩ (kX8_findRun l D cI cJ cD q hq N Tn Ta Rn Ra Rb Rd p1 Rn2 Ra2 Rb2 Rd2 hc) (cwV 1 hts gX8_runPeriod_X8_findRun rfl rfl rfl (by decide +kernel) ⟨(Nat.le_of_ble_eq_true rfl), (Nat.le_of_ble_eq_true rfl)⟩) ⟨gP_blind, va_recv hE.1 hP (ci := 6) (q0 := 0) rfl rfl, fun U hU hW => ⟨rfl, by rw [hU]; exact hP.sub (ws' := (w_0_1_2_7_8_9_10 q cI cJ cD Tn Ta Rn Ra Rb Rd)) [0, 1, 2, 3, 4, 5, 6] rfl, gEv.warm hW hE⟩⟩ rfl rfl hl.1 rfl (lv_room (Nat.le_of_ble_eq_true rfl)) dX8_runPeriod_2 ⟨Nat.zero_le _, Nat.zero_le _⟩) hP hS (gSub rfl) rfl rfl rfl rfl rfl (fun H locs hP hS => ?_)
  refine lv_aload_n hx hb dX8_runPeriod_5 rfl (lv_at hl 0 rfl) ?_
  refine va_get (D := D) (ci := 6) (v := .ref (q 7)) (C := RX8) (T := TX8) (N := 6) hx hb hts huX8 hown hE.1 hP 0 rfl rfl 3 (by decide) hk33 (fun _ h9 => h9) rfl dX8_runPeriod_6 ?_
  refine lv_iload_n hx hb dX8_runPeriod_9 rfl (lv_at hl 1 rfl) ?_
  obtain ⟨r10, hc, hf⟩ := bn_some hf
  try dsimp only at hf
  refine g_call0 (ws' := (w_0_1_2_7_8_9_10 q cI cJ cD Tn Ta Rn2 Ra2 Rb2 Rd2)) (st1 := [.int r10]) hq [0, 1, 2, 7, 8, 9, 10] [7, 10] [.inr 0, .inr 1, .inr 2, .inl 0, .inr 4, .inr 5, .inl 1] (va_runV (As := [.int p1]) (rest := []) ⟨hx, hb, hml, hown, hts⟩ (kX6_leastPeriod l D cI cJ cD q hq N Rn2 Rd2 p1 r10 hc) (cwV 1 hts gX8_runPeriod_X6_leastPeriod rfl rfl rfl (by decide +kernel) ⟨(Nat.le_of_ble_eq_true rfl), (Nat.le_of_ble_eq_true rfl)⟩) ⟨gP_blind, va_recv hE.1 hP (ci := 4) (q0 := 3) rfl rfl, fun U hU hW => ⟨rfl, by rw [hU]; exact hP.sub (ws' := (w_7_10 q cI cJ cD Rn2 Rd2)) [3, 6] rfl, gEv.warm hW hE⟩⟩ rfl rfl hl.1 rfl (lv_room (Nat.le_of_ble_eq_true rfl)) dX8_runPeriod_10 ⟨Nat.zero_le _, Nat.zero_le _⟩) hP hS (gSub rfl) rfl rfl rfl rfl rfl (fun H locs hP hS => ?_)
  exact nomatch hf
set_option maxHeartbeats 4000000 in
set_option maxRecDepth 100000 in
theorem kX8_runsOver (l : Launch) (D : va_G) (cI cJ cD : ClassId) (q : Nat → Nat) (hq : gInj 14 q) (N : Nat) (Tn : Int32) (Ta : (Nat → Int32)) (Rn : Int32) (Ra : (Nat → Int32)) (Rb : (Nat → Int32)) (Rd : (Nat → Int32)) (p1 : Int32) (r0 : Int32) (Rn9 : Int32) (Ra9 : (Nat → Int32)) (Rb9 : (Nat → Int32)) (Rd9 : (Nat → Int32)) (hf : fX8_runsOver N Tn Ta Rn Ra Rb Rd p1 = some (.inr (r0, Rn9, Ra9, Rb9, Rd9))) : Met l yX8_runsOver wsX8_runsOver rX8_runsOver (gP D cI cJ cD [.ref (q 0), .int p1] (w_0_1_2_7_8_9_10 q cI cJ cD Tn Ta Rn Ra Rb Rd)) (gQ D (some (.int r0)) (w_0_1_2_7_8_9_10 q cI cJ cD Tn Ta Rn9 Ra9 Rb9 Rd9) (gA q [0, 1, 2, 7, 8, 9, 10])) 0 0 (gA q [0, 1, 2, 7, 8, 9, 10]) := by
  refine Met.ofW (cc := cX8_runsOver) (maxL := 4) (ret := (some .int)) (by decide +kernel) rfl ?_
  intro p e s m args below meth c s₁ B hml hv
  obtain ⟨rfl, hP, hE⟩ := hv
  have hx := B.exec
  have hb := B.bytes
  have hr := B.returns
  have hts := atoms_spec (ws := wsX8_runsOver) B.pre
  have hown : s.vm.findClass RX8 = some m.cls := findClass_of_methodNamed B.named
  have hlocks := B.notSynchronized
  have hS : va_S (gA q [0, 1, 2, 7, 8, 9, 10]) s.heap s.heap [] := va_S.rf
  have hl := lv_entry ([.ref (q 0), .int p1]) (n := 4) (Nat.le_of_ble_eq_true rfl)
  rw [lg_entry_eq]
  generalize (lg_sl ([.ref (q 0), .int p1]) ++ List.replicate (4 - (lg_sl ([.ref (q 0), .int p1])).length) Slot.unset).toArray = ls at hl ⊢
  have hl : lv_has ls 4 [(0, .ref (q 0)), (1, .int p1)] := hl
  have hk10 := hts (.fieldLink RX8 10 "LyndonText" "text" "LLyndonText$Letters;") (by decide +kernel)
  have hk33 := hts (.fieldLink RX8 33 "LyndonText" "runRow" "LLyndonText$Runs;") (by decide +kernel)
  have huX8 : ∀ w ∈ u_ws RX8 TX8 6, w ∈ wsX8_runsOver := by decide +kernel
  have J70 : ∀ (Rn : Int32) (Ra : (Nat → Int32)) (Rb : (Nat → Int32)) (Rd : (Nat → Int32)) (x2 : Int32), fX8_runsOver_J70 N Tn Ta Rn Ra Rb Rd x2 = some (.inr (r0, Rn9, Ra9, Rb9, Rd9)) → ∀ (H : Heap) (locs : List Loc), va_P D vwCl (w_0_1_2_7_8_9_10 q cI cJ cD Tn Ta Rn Ra Rb Rd) H → va_S (gA q [0, 1, 2, 7, 8, 9, 10]) s.heap H locs → ∀ ls : Array Slot, lv_has ls 4 [(2, .int x2)] → W p l e (headSpec wsX8_runsOver rX8_runsOver).room s m ([.ref (q 0), .int p1] : List Value).toArray below meth c H locs 0 0 (MQ below (gQ D (some (.int r0)) (w_0_1_2_7_8_9_10 q cI cJ cD Tn Ta Rn9 Ra9 Rb9 Rd9) (gA q [0, 1, 2, 7, 8, 9, 10])) ([.ref (q 0), .int p1] : List Value).toArray s 0 0 (gA q [0, 1, 2, 7, 8, 9, 10])) (F0 m 70 ls []) := by
    intro Rn Ra Rb Rd x2 hf H locs hP hS ls hl
    unfold fX8_runsOver_J70 at hf
    refine lv_iload_n hx hb dX8_runsOver_70 rfl (lv_at hl 0 rfl) ?_
    cases hf
    exact W.iret hx hb hr (fun t ht hW => ⟨⟨rfl, by rw [ht]; exact hP⟩, hS.F ht⟩) hS.2.2 dX8_runsOver_71
  have K26 : ∀ (n26 : Nat) (Rn : Int32) (Ra : (Nat → Int32)) (Rb : (Nat → Int32)) (Rd : (Nat → Int32)) (x1 : Int32) (x2 : Int32) (x3 : Int32), fX8_runsOver_H26 N Tn Ta n26 Rn Ra Rb Rd x1 x2 x3 = some (.inr (r0, Rn9, Ra9, Rb9, Rd9)) → ∀ (H : Heap) (locs : List Loc), va_P D vwCl (w_0_1_2_7_8_9_10 q cI cJ cD Tn Ta Rn Ra Rb Rd) H → va_S (gA q [0, 1, 2, 7, 8, 9, 10]) s.heap H locs → ∀ ls : Array Slot, lv_has ls 4 [(0, .ref (q 0)), (1, .int x1), (2, .int x2), (3, .int x3)] → W p l e (headSpec wsX8_runsOver rX8_runsOver).room s m ([.ref (q 0), .int p1] : List Value).toArray below meth c H locs 0 0 (MQ below (gQ D (some (.int r0)) (w_0_1_2_7_8_9_10 q cI cJ cD Tn Ta Rn9 Ra9 Rb9 Rd9) (gA q [0, 1, 2, 7, 8, 9, 10])) ([.ref (q 0), .int p1] : List Value).toArray s 0 0 (gA q [0, 1, 2, 7, 8, 9, 10])) (F0 m 26 ls []) := by
    intro n26
    induction n26 with
    | zero =>
      intro Rn Ra Rb Rd x1 x2 x3 hf
      exact nomatch (show (none : Option ((Nat × Int32 × (Nat → Int32) × (Nat → Int32) × (Nat → Int32)) ⊕ (Int32 × Int32 × (Nat → Int32) × (Nat → Int32) × (Nat → Int32)))) = some (.inr (r0, Rn9, Ra9, Rb9, Rd9)) from hf)
    | succ n26 ih26 =>
      have J64 : ∀ (Rn : Int32) (Ra : (Nat → Int32)) (Rb : (Nat → Int32)) (Rd : (Nat → Int32)) (x1 : Int32) (x2 : Int32) (x3 : Int32), fX8_runsOver_J64 N Tn Ta (fX8_runsOver_H26 N Tn Ta n26) Rn Ra Rb Rd x1 x2 x3 = some (.inr (r0, Rn9, Ra9, Rb9, Rd9)) → ∀ (H : Heap) (locs : List Loc), va_P D vwCl (w_0_1_2_7_8_9_10 q cI cJ cD Tn Ta Rn Ra Rb Rd) H → va_S (gA q [0, 1, 2, 7, 8, 9, 10]) s.heap H locs → ∀ ls : Array Slot, lv_has ls 4 [(0, .ref (q 0)), (1, .int x1), (2, .int x2), (3, .int x3)] → W p l e (headSpec wsX8_runsOver rX8_runsOver).room s m ([.ref (q 0), .int p1] : List Value).toArray below meth c H locs 0 0 (MQ below (gQ D (some (.int r0)) (w_0_1_2_7_8_9_10 q cI cJ cD Tn Ta Rn9 Ra9 Rb9 Rd9) (gA q [0, 1, 2, 7, 8, 9, 10])) ([.ref (q 0), .int p1] : List Value).toArray s 0 0 (gA q [0, 1, 2, 7, 8, 9, 10])) (F0 m 64 ls []) := by
        intro Rn Ra Rb Rd x1 x2 x3 hf H locs hP hS ls hl
        unfold fX8_runsOver_J64 at hf
        refine lv_iinc (v := (x3 + 1)) (lv' := [(3, .int (x3 + 1)), (0, .ref (q 0)), (1, .int x1), (2, .int x2)]) hx hb dX8_runsOver_64 hl (k := 3) rfl rfl (by decide) rfl (fun ls hl => ?_)
        refine lv_goto (tgt := 26) hx hb dX8_runsOver_67 (by decide) ?_
        exact ih26 Rn Ra Rb Rd x1 x2 (x3 + 1) hf _ _ hP hS _ (lv_sub hl [1, 2, 3, 0] rfl)
      intro Rn Ra Rb Rd x1 x2 x3 hf H locs hP hS ls hl
      have hf : fX8_runsOver_B26 N Tn Ta (fX8_runsOver_H26 N Tn Ta n26) Rn Ra Rb Rd x1 x2 x3 = some (.inr (r0, Rn9, Ra9, Rb9, Rd9)) := hf
      unfold fX8_runsOver_B26 at hf
      refine lv_iload_n hx hb dX8_runsOver_26 rfl (lv_at hl 3 rfl) ?_
      refine lv_aload_n hx hb dX8_runsOver_27 rfl (lv_at hl 0 rfl) ?_
      refine va_get (D := D) (ci := 6) (v := .ref (q 7)) (C := RX8) (T := TX8) (N := 6) hx hb hts huX8 hown hE.1 hP 0 rfl rfl 3 (by decide) hk33 (fun _ h9 => h9) rfl dX8_runsOver_28 ?_
      obtain ⟨r31, hc, hf⟩ := bn_some hf
      try dsimp only at hf
      refine g_call0 (ws' := (w_0_1_2_7_8_9_10 q cI cJ cD Tn Ta Rn Ra Rb Rd)) (st1 := [.int r31, .int x3]) hq [0, 1, 2, 7, 8, 9, 10] [7] [.inr 0, .inr 1, .inr 2, .inl 0, .inr 4, .inr 5, .inr 6] (va_runV (As := []) (rest := [.int x3]) ⟨hx, hb, hml, hown, hts⟩ (kX6_count l D cI cJ cD q hq N Rn r31 hc) (cwV 0 hts gX8_runsOver_X6_count rfl rfl rfl (by decide +kernel) ⟨(Nat.le_of_ble_eq_true rfl), (Nat.le_of_ble_eq_true rfl)⟩) ⟨gP_blind, va_recv hE.1 hP (ci := 4) (q0 := 3) rfl rfl, fun U hU hW => ⟨rfl, by rw [hU]; exact hP.sub (ws' := (w_7 q cI cJ cD Rn)) [3] rfl, gEv.warm hW hE⟩⟩ rfl rfl hl.1 rfl (lv_room (Nat.le_of_ble_eq_true rfl)) dX8_runsOver_31 ⟨Nat.zero_le _, Nat.zero_le _⟩) hP hS (gSub rfl) rfl rfl rfl rfl rfl (fun H locs hP hS => ?_)
      refine lv_icmp_ge (tgt := 70) hx hb dX8_runsOver_34 (by decide) (fun c_1 => ?_) (fun c_1 => ?_)
      · have hf := (if_pos c_1).symm.trans hf
        exact J70 Rn Ra Rb Rd x2 hf _ _ hP hS _ (lv_sub hl [2] rfl)
      · have hf := (if_neg c_1).symm.trans hf
        refine lv_aload_n hx hb dX8_runsOver_37 rfl (lv_at hl 0 rfl) ?_
        refine va_get (D := D) (ci := 6) (v := .ref (q 7)) (C := RX8) (T := TX8) (N := 6) hx hb hts huX8 hown hE.1 hP 0 rfl rfl 3 (by decide) hk33 (fun _ h9 => h9) rfl dX8_runsOver_38 ?_
        refine lv_iload_n hx hb dX8_runsOver_41 rfl (lv_at hl 3 rfl) ?_
        obtain ⟨r42, hc, hf⟩ := bn_some hf
        try dsimp only at hf
        refine g_call0 (ws' := (w_0_1_2_7_8_9_10 q cI cJ cD Tn Ta Rn Ra Rb Rd)) (st1 := [.int r42]) hq [0, 1, 2, 7, 8, 9, 10] [7, 8] [.inr 0, .inr 1, .inr 2, .inl 0, .inl 1, .inr 5, .inr 6] (va_runV (As := [.int x3]) (rest := []) ⟨hx, hb, hml, hown, hts⟩ (kX6_start l D cI cJ cD q hq N Rn Ra x3 r42 hc) (cwV 1 hts gX8_runsOver_X6_start rfl rfl rfl (by decide +kernel) ⟨(Nat.le_of_ble_eq_true rfl), (Nat.le_of_ble_eq_true rfl)⟩) ⟨gP_blind, va_recv hE.1 hP (ci := 4) (q0 := 3) rfl rfl, fun U hU hW => ⟨rfl, by rw [hU]; exact hP.sub (ws' := (w_7_8 q cI cJ cD Rn Ra)) [3, 4] rfl, gEv.warm hW hE⟩⟩ rfl rfl hl.1 rfl (lv_room (Nat.le_of_ble_eq_true rfl)) dX8_runsOver_42 ⟨Nat.zero_le _, Nat.zero_le _⟩) hP hS (gSub rfl) rfl rfl rfl rfl rfl (fun H locs hP hS => ?_)
        refine lv_iload_n hx hb dX8_runsOver_45 rfl (lv_at hl 1 rfl) ?_
        refine lv_icmp_gt (tgt := 64) hx hb dX8_runsOver_46 (by decide) (fun c_2 => ?_) (fun c_2 => ?_)
        · have hf := (if_pos c_2).symm.trans hf
          exact J64 Rn Ra Rb Rd x1 x2 x3 hf _ _ hP hS _ (lv_sub hl [0, 1, 2, 3] rfl)
        · have hf := (if_neg c_2).symm.trans hf
          refine lv_iload_n hx hb dX8_runsOver_49 rfl (lv_at hl 1 rfl) ?_
          refine lv_aload_n hx hb dX8_runsOver_50 rfl (lv_at hl 0 rfl) ?_
          refine va_get (D := D) (ci := 6) (v := .ref (q 7)) (C := RX8) (T := TX8) (N := 6) hx hb hts huX8 hown hE.1 hP 0 rfl rfl 3 (by decide) hk33 (fun _ h9 => h9) rfl dX8_runsOver_51 ?_
          refine lv_iload_n hx hb dX8_runsOver_54 rfl (lv_at hl 3 rfl) ?_
          obtain ⟨r55, hc, hf⟩ := bn_some hf
          try dsimp only at hf
          refine g_call0 (ws' := (w_0_1_2_7_8_9_10 q cI cJ cD Tn Ta Rn Ra Rb Rd)) (st1 := [.int r55, .int x1]) hq [0, 1, 2, 7, 8, 9, 10] [7, 9] [.inr 0, .inr 1, .inr 2, .inl 0, .inr 4, .inl 1, .inr 6] (va_runV (As := [.int x3]) (rest := [.int x1]) ⟨hx, hb, hml, hown, hts⟩ (kX6_end l D cI cJ cD q hq N Rn Rb x3 r55 hc) (cwV 1 hts gX8_runsOver_X6_end rfl rfl rfl (by decide +kernel) ⟨(Nat.le_of_ble_eq_true rfl), (Nat.le_of_ble_eq_true rfl)⟩) ⟨gP_blind, va_recv hE.1 hP (ci := 4) (q0 := 3) rfl rfl, fun U hU hW => ⟨rfl, by rw [hU]; exact hP.sub (ws' := (w_7_9 q cI cJ cD Rn Rb)) [3, 5] rfl, gEv.warm hW hE⟩⟩ rfl rfl hl.1 rfl (lv_room (Nat.le_of_ble_eq_true rfl)) dX8_runsOver_55 ⟨Nat.zero_le _, Nat.zero_le _⟩) hP hS (gSub rfl) rfl rfl rfl rfl rfl (fun H locs hP hS => ?_)
          refine lv_icmp_ge (tgt := 64) hx hb dX8_runsOver_58 (by decide) (fun c_3 => ?_) (fun c_3 => ?_)
          · have hf := (if_pos c_3).symm.trans hf
            exact J64 Rn Ra Rb Rd x1 x2 x3 hf _ _ hP hS _ (lv_sub hl [0, 1, 2, 3] rfl)
          · have hf := (if_neg c_3).symm.trans hf
            refine lv_iinc (v := (x2 + 1)) (lv' := [(2, .int (x2 + 1)), (0, .ref (q 0)), (1, .int x1), (3, .int x3)]) hx hb dX8_runsOver_61 hl (k := 2) rfl rfl (by decide) rfl (fun ls hl => ?_)
            exact J64 Rn Ra Rb Rd x1 (x2 + 1) x3 hf _ _ hP hS _ (lv_sub hl [1, 2, 0, 3] rfl)
  unfold fX8_runsOver at hf
  refine lv_iload_n hx hb dX8_runsOver_0 rfl (lv_at hl 1 rfl) ?_
  refine lv_aload_n hx hb dX8_runsOver_1 rfl (lv_at hl 0 rfl) ?_
  refine va_get (D := D) (ci := 6) (v := .ref (q 1)) (C := RX8) (T := TX8) (N := 6) hx hb hts huX8 hown hE.1 hP 0 rfl rfl 0 (by decide) hk10 (fun _ h9 => h9) rfl dX8_runsOver_2 ?_
  obtain ⟨r5, hc, hf⟩ := bn_some hf
  try dsimp only at hf
  refine g_call0 (ws' := (w_0_1_2_7_8_9_10 q cI cJ cD Tn Ta Rn Ra Rb Rd)) (st1 := [.int r5, .int p1]) hq [0, 1, 2, 7, 8, 9, 10] [1] [.inr 0, .inl 0, .inr 2, .inr 3, .inr 4, .inr 5, .inr 6] (va_runV (As := []) (rest := [.int p1]) ⟨hx, hb, hml, hown, hts⟩ (kX2_count l D cI cJ cD q hq N Tn r5 hc) (cwV 0 hts gX8_runsOver_X2_count rfl rfl rfl (by decide +kernel) ⟨(Nat.le_of_ble_eq_true rfl), (Nat.le_of_ble_eq_true rfl)⟩) ⟨gP_blind, va_recv hE.1 hP (ci := 2) (q0 := 1) rfl rfl, fun U hU hW => ⟨rfl, by rw [hU]; exact hP.sub (ws' := (w_1 q cI cJ cD Tn)) [1] rfl, gEv.warm hW hE⟩⟩ rfl rfl hl.1 rfl (lv_room (Nat.le_of_ble_eq_true rfl)) dX8_runsOver_5 ⟨Nat.zero_le _, Nat.zero_le _⟩) hP hS (gSub rfl) rfl rfl rfl rfl rfl (fun H locs hP hS => ?_)
  rcases bx_some hf with ⟨e8, hc, hf⟩ | ⟨⟨⟩, hc, hf⟩
  · exact nomatch hf
  try dsimp only at hf
  refine g_call0 (ws' := (w_0_1_2_7_8_9_10 q cI cJ cD Tn Ta Rn Ra Rb Rd)) (st1 := []) hq [0, 1, 2, 7, 8, 9, 10] [] [.inr 0, .inr 1, .inr 2, .inr 3, .inr 4, .inr 5, .inr 6] (va_runS (As := [.int p1, .int r5]) (rest := []) ⟨hx, hb, hml, hown, hts⟩ (kX8_checkIndex l D cI cJ cD q hq N p1 r5 hc) (va_cwS 2 hts gX8_runsOver_X8_checkIndex rfl rfl rfl (by decide +kernel) ⟨(Nat.le_of_ble_eq_true rfl), (Nat.le_of_ble_eq_true rfl)⟩) ⟨gP_blind, fun U hU hW => ⟨rfl, by rw [hU]; exact hP.sub (ws' := (w_0none q cI cJ cD)) [] rfl, gEv.warm hW hE⟩⟩ rfl rfl hl.1 rfl (lv_room (Nat.le_of_ble_eq_true rfl)) dX8_runsOver_8 ⟨Nat.zero_le _, Nat.zero_le _⟩) hP hS (gSub rfl) rfl rfl rfl rfl rfl (fun H locs hP hS => ?_)
  refine lv_aload_n hx hb dX8_runsOver_11 rfl (lv_at hl 0 rfl) ?_
  refine va_get (D := D) (ci := 6) (v := .ref (q 7)) (C := RX8) (T := TX8) (N := 6) hx hb hts huX8 hown hE.1 hP 0 rfl rfl 3 (by decide) hk33 (fun _ h9 => h9) rfl dX8_runsOver_12 ?_
  refine lv_aload_n hx hb dX8_runsOver_15 rfl (lv_at hl 0 rfl) ?_
  refine va_get (D := D) (ci := 6) (v := .ref (q 1)) (C := RX8) (T := TX8) (N := 6) hx hb hts huX8 hown hE.1 hP 0 rfl rfl 0 (by decide) hk10 (fun _ h9 => h9) rfl dX8_runsOver_16 ?_
  obtain ⟨⟨Rn19, Ra19, Rb19, Rd19⟩, hc, hf⟩ := bn_some hf
  try dsimp only at hf
  refine g_call0 (ws' := (w_0_1_2_7_8_9_10 q cI cJ cD Tn Ta Rn19 Ra19 Rb19 Rd19)) (st1 := []) hq [0, 1, 2, 7, 8, 9, 10] [1, 2, 7, 8, 9, 10] [.inr 0, .inl 0, .inl 1, .inl 2, .inl 3, .inl 4, .inl 5] (va_runV (As := [.ref (q 1)]) (rest := []) ⟨hx, hb, hml, hown, hts⟩ (kX6_find l D cI cJ cD q hq N Tn Ta Rn Ra Rb Rd Rn19 Ra19 Rb19 Rd19 hc) (cwV 1 hts gX8_runsOver_X6_find rfl rfl rfl (by decide +kernel) ⟨(Nat.le_of_ble_eq_true rfl), (Nat.le_of_ble_eq_true rfl)⟩) ⟨gP_blind, va_recv hE.1 hP (ci := 4) (q0 := 3) rfl rfl, fun U hU hW => ⟨rfl, by rw [hU]; exact hP.sub (ws' := (w_1_2_7_8_9_10 q cI cJ cD Tn Ta Rn Ra Rb Rd)) [1, 2, 3, 4, 5, 6] rfl, gEv.warm hW hE⟩⟩ rfl rfl hl.1 rfl (lv_room (Nat.le_of_ble_eq_true rfl)) dX8_runsOver_19 ⟨Nat.zero_le _, Nat.zero_le _⟩) hP hS (gSub rfl) rfl rfl rfl rfl rfl (fun H locs hP hS => ?_)
  refine lv_iconst (v := (0 : Int32)) hx hb dX8_runsOver_22 (by decide) ?_
  refine lv_istore_n (lv' := [(2, .int (0 : Int32)), (0, .ref (q 0)), (1, .int p1)]) hx hb dX8_runsOver_23 rfl hl (by decide) rfl (fun ls hl => ?_)
  refine lv_iconst (v := (0 : Int32)) hx hb dX8_runsOver_24 (by decide) ?_
  refine lv_istore_n (lv' := [(3, .int (0 : Int32)), (2, .int (0 : Int32)), (0, .ref (q 0)), (1, .int p1)]) hx hb dX8_runsOver_25 rfl hl (by decide) rfl (fun ls hl => ?_)
  exact K26 N Rn19 Ra19 Rb19 Rd19 p1 (0 : Int32) (0 : Int32) hf _ _ hP hS _ (lv_sub hl [2, 3, 1, 0] rfl)
set_option maxHeartbeats 4000000 in
set_option maxRecDepth 100000 in
theorem kX8_runsOverx (l : Launch) (hlt : l.stackTraces = false) (D : va_G) (cI cJ cD : ClassId) (sa : Nat → Nat) (q : Nat → Nat) (hq : gInj 14 q) (N : Nat) (Tn : Int32) (Ta : (Nat → Int32)) (Rn : Int32) (Ra : (Nat → Int32)) (Rb : (Nat → Int32)) (Rd : (Nat → Int32)) (p1 : Int32) (e0 : Nat) (Rn9 : Int32) (Ra9 : (Nat → Int32)) (Rb9 : (Nat → Int32)) (Rd9 : (Nat → Int32)) (hf : fX8_runsOver N Tn Ta Rn Ra Rb Rd p1 = some (.inl (e0, Rn9, Ra9, Rb9, Rd9))) : vx_Met l yX8_runsOver wsX8_runsOver rX8_runsOverx (gPx D cI cJ cD sa (gA q [0, 1, 2, 7, 8, 9, 10]) [.ref (q 0), .int p1] (w_0_1_2_7_8_9_10 q cI cJ cD Tn Ta Rn Ra Rb Rd)) (fun _ _ _ _ => False) (gX D (gEn e0) (w_0_1_2_7_8_9_10 q cI cJ cD Tn Ta Rn9 Ra9 Rb9 Rd9) (gA q [0, 1, 2, 7, 8, 9, 10])) 1 6 (gA q [0, 1, 2, 7, 8, 9, 10]) := by
  refine vx_ofW (cc := cX8_runsOver) (maxL := 4) (ret := (some .int)) (by decide +kernel) rfl ?_
  intro p e s m args below meth c s₁ B hml htab hv
  obtain ⟨rfl, hP, hE, hXe⟩ := hv
  have hx := B.exec
  have hb := B.bytes
  have hr := B.returns
  have hts := atoms_spec (ws := wsX8_runsOver) B.pre
  have hown : s.vm.findClass RX8 = some m.cls := findClass_of_methodNamed B.named
  have hlocks := B.notSynchronized
  have hS : va_S (gA q [0, 1, 2, 7, 8, 9, 10]) s.heap s.heap [] := va_S.rf
  have hl := lv_entry ([.ref (q 0), .int p1]) (n := 4) (Nat.le_of_ble_eq_true rfl)
  rw [lg_entry_eq]
  generalize (lg_sl ([.ref (q 0), .int p1]) ++ List.replicate (4 - (lg_sl ([.ref (q 0), .int p1])).length) Slot.unset).toArray = ls at hl ⊢
  have hl : lv_has ls 4 [(0, .ref (q 0)), (1, .int p1)] := hl
  have hk10 := hts (.fieldLink RX8 10 "LyndonText" "text" "LLyndonText$Letters;") (by decide +kernel)
  have hk33 := hts (.fieldLink RX8 33 "LyndonText" "runRow" "LLyndonText$Runs;") (by decide +kernel)
  have huX8 : ∀ w ∈ u_ws RX8 TX8 6, w ∈ wsX8_runsOver := by decide +kernel
  have J70 : ∀ (Rn : Int32) (Ra : (Nat → Int32)) (Rb : (Nat → Int32)) (Rd : (Nat → Int32)) (x2 : Int32), fX8_runsOver_J70 N Tn Ta Rn Ra Rb Rd x2 = some (.inl (e0, Rn9, Ra9, Rb9, Rd9)) → ∀ (H : Heap) (locs : List Loc), va_P D vwCl (w_0_1_2_7_8_9_10 q cI cJ cD Tn Ta Rn Ra Rb Rd) H → va_S (gA q [0, 1, 2, 7, 8, 9, 10]) s.heap H locs → ∀ ls : Array Slot, lv_has ls 4 [(2, .int x2)] → W p l e (headSpec wsX8_runsOver rX8_runsOverx).room s m ([.ref (q 0), .int p1] : List Value).toArray below meth c H locs 0 0 (vx_MQ below (fun _ _ _ _ => False) (gX D (gEn e0) (w_0_1_2_7_8_9_10 q cI cJ cD Tn Ta Rn9 Ra9 Rb9 Rd9) (gA q [0, 1, 2, 7, 8, 9, 10])) ([.ref (q 0), .int p1] : List Value).toArray s 1 6 (gA q [0, 1, 2, 7, 8, 9, 10])) (F0 m 70 ls []) := by
    intro Rn Ra Rb Rd x2 hf H locs hP hS ls hl
    unfold fX8_runsOver_J70 at hf
    refine lv_iload_n hx hb dX8_runsOver_70 rfl (lv_at hl 0 rfl) ?_
    exact nomatch hf
  have K26 : ∀ (n26 : Nat) (Rn : Int32) (Ra : (Nat → Int32)) (Rb : (Nat → Int32)) (Rd : (Nat → Int32)) (x1 : Int32) (x2 : Int32) (x3 : Int32), fX8_runsOver_H26 N Tn Ta n26 Rn Ra Rb Rd x1 x2 x3 = some (.inl (e0, Rn9, Ra9, Rb9, Rd9)) → ∀ (H : Heap) (locs : List Loc), va_P D vwCl (w_0_1_2_7_8_9_10 q cI cJ cD Tn Ta Rn Ra Rb Rd) H → va_S (gA q [0, 1, 2, 7, 8, 9, 10]) s.heap H locs → ∀ ls : Array Slot, lv_has ls 4 [(0, .ref (q 0)), (1, .int x1), (2, .int x2), (3, .int x3)] → W p l e (headSpec wsX8_runsOver rX8_runsOverx).room s m ([.ref (q 0), .int p1] : List Value).toArray below meth c H locs 0 0 (vx_MQ below (fun _ _ _ _ => False) (gX D (gEn e0) (w_0_1_2_7_8_9_10 q cI cJ cD Tn Ta Rn9 Ra9 Rb9 Rd9) (gA q [0, 1, 2, 7, 8, 9, 10])) ([.ref (q 0), .int p1] : List Value).toArray s 1 6 (gA q [0, 1, 2, 7, 8, 9, 10])) (F0 m 26 ls []) := by
    intro n26
    induction n26 with
    | zero =>
      intro Rn Ra Rb Rd x1 x2 x3 hf
      exact nomatch (show (none : Option ((Nat × Int32 × (Nat → Int32) × (Nat → Int32) × (Nat → Int32)) ⊕ (Int32 × Int32 × (Nat → Int32) × (Nat → Int32) × (Nat → Int32)))) = some (.inl (e0, Rn9, Ra9, Rb9, Rd9)) from hf)
    | succ n26 ih26 =>
      have J64 : ∀ (Rn : Int32) (Ra : (Nat → Int32)) (Rb : (Nat → Int32)) (Rd : (Nat → Int32)) (x1 : Int32) (x2 : Int32) (x3 : Int32), fX8_runsOver_J64 N Tn Ta (fX8_runsOver_H26 N Tn Ta n26) Rn Ra Rb Rd x1 x2 x3 = some (.inl (e0, Rn9, Ra9, Rb9, Rd9)) → ∀ (H : Heap) (locs : List Loc), va_P D vwCl (w_0_1_2_7_8_9_10 q cI cJ cD Tn Ta Rn Ra Rb Rd) H → va_S (gA q [0, 1, 2, 7, 8, 9, 10]) s.heap H locs → ∀ ls : Array Slot, lv_has ls 4 [(0, .ref (q 0)), (1, .int x1), (2, .int x2), (3, .int x3)] → W p l e (headSpec wsX8_runsOver rX8_runsOverx).room s m ([.ref (q 0), .int p1] : List Value).toArray below meth c H locs 0 0 (vx_MQ below (fun _ _ _ _ => False) (gX D (gEn e0) (w_0_1_2_7_8_9_10 q cI cJ cD Tn Ta Rn9 Ra9 Rb9 Rd9) (gA q [0, 1, 2, 7, 8, 9, 10])) ([.ref (q 0), .int p1] : List Value).toArray s 1 6 (gA q [0, 1, 2, 7, 8, 9, 10])) (F0 m 64 ls []) := by
        intro Rn Ra Rb Rd x1 x2 x3 hf H locs hP hS ls hl
        unfold fX8_runsOver_J64 at hf
        refine lv_iinc (v := (x3 + 1)) (lv' := [(3, .int (x3 + 1)), (0, .ref (q 0)), (1, .int x1), (2, .int x2)]) hx hb dX8_runsOver_64 hl (k := 3) rfl rfl (by decide) rfl (fun ls hl => ?_)
        refine lv_goto (tgt := 26) hx hb dX8_runsOver_67 (by decide) ?_
        exact ih26 Rn Ra Rb Rd x1 x2 (x3 + 1) hf _ _ hP hS _ (lv_sub hl [1, 2, 3, 0] rfl)
      intro Rn Ra Rb Rd x1 x2 x3 hf H locs hP hS ls hl
      have hf : fX8_runsOver_B26 N Tn Ta (fX8_runsOver_H26 N Tn Ta n26) Rn Ra Rb Rd x1 x2 x3 = some (.inl (e0, Rn9, Ra9, Rb9, Rd9)) := hf
      unfold fX8_runsOver_B26 at hf
      refine lv_iload_n hx hb dX8_runsOver_26 rfl (lv_at hl 3 rfl) ?_
      refine lv_aload_n hx hb dX8_runsOver_27 rfl (lv_at hl 0 rfl) ?_
      refine va_get (D := D) (ci := 6) (v := .ref (q 7)) (C := RX8) (T := TX8) (N := 6) hx hb hts huX8 hown hE.1 hP 0 rfl rfl 3 (by decide) hk33 (fun _ h9 => h9) rfl dX8_runsOver_28 ?_
      obtain ⟨r31, hc, hf⟩ := bn_some hf
      try dsimp only at hf
      refine g_call0 (ws' := (w_0_1_2_7_8_9_10 q cI cJ cD Tn Ta Rn Ra Rb Rd)) (st1 := [.int r31, .int x3]) hq [0, 1, 2, 7, 8, 9, 10] [7] [.inr 0, .inr 1, .inr 2, .inl 0, .inr 4, .inr 5, .inr 6] (va_runV (As := []) (rest := [.int x3]) ⟨hx, hb, hml, hown, hts⟩ (kX6_count l D cI cJ cD q hq N Rn r31 hc) (cwV 0 hts gX8_runsOver_X6_count rfl rfl rfl (by decide +kernel) ⟨(Nat.le_of_ble_eq_true rfl), (Nat.le_of_ble_eq_true rfl)⟩) ⟨gP_blind, va_recv hE.1 hP (ci := 4) (q0 := 3) rfl rfl, fun U hU hW => ⟨rfl, by rw [hU]; exact hP.sub (ws' := (w_7 q cI cJ cD Rn)) [3] rfl, gEv.warm hW hE⟩⟩ rfl rfl hl.1 rfl (lv_room (Nat.le_of_ble_eq_true rfl)) dX8_runsOver_31 ⟨Nat.zero_le _, Nat.zero_le _⟩) hP hS (gSub rfl) rfl rfl rfl rfl rfl (fun H locs hP hS => ?_)
      refine lv_icmp_ge (tgt := 70) hx hb dX8_runsOver_34 (by decide) (fun c_1 => ?_) (fun c_1 => ?_)
      · have hf := (if_pos c_1).symm.trans hf
        exact J70 Rn Ra Rb Rd x2 hf _ _ hP hS _ (lv_sub hl [2] rfl)
      · have hf := (if_neg c_1).symm.trans hf
        refine lv_aload_n hx hb dX8_runsOver_37 rfl (lv_at hl 0 rfl) ?_
        refine va_get (D := D) (ci := 6) (v := .ref (q 7)) (C := RX8) (T := TX8) (N := 6) hx hb hts huX8 hown hE.1 hP 0 rfl rfl 3 (by decide) hk33 (fun _ h9 => h9) rfl dX8_runsOver_38 ?_
        refine lv_iload_n hx hb dX8_runsOver_41 rfl (lv_at hl 3 rfl) ?_
        obtain ⟨r42, hc, hf⟩ := bn_some hf
        try dsimp only at hf
        refine g_call0 (ws' := (w_0_1_2_7_8_9_10 q cI cJ cD Tn Ta Rn Ra Rb Rd)) (st1 := [.int r42]) hq [0, 1, 2, 7, 8, 9, 10] [7, 8] [.inr 0, .inr 1, .inr 2, .inl 0, .inl 1, .inr 5, .inr 6] (va_runV (As := [.int x3]) (rest := []) ⟨hx, hb, hml, hown, hts⟩ (kX6_start l D cI cJ cD q hq N Rn Ra x3 r42 hc) (cwV 1 hts gX8_runsOver_X6_start rfl rfl rfl (by decide +kernel) ⟨(Nat.le_of_ble_eq_true rfl), (Nat.le_of_ble_eq_true rfl)⟩) ⟨gP_blind, va_recv hE.1 hP (ci := 4) (q0 := 3) rfl rfl, fun U hU hW => ⟨rfl, by rw [hU]; exact hP.sub (ws' := (w_7_8 q cI cJ cD Rn Ra)) [3, 4] rfl, gEv.warm hW hE⟩⟩ rfl rfl hl.1 rfl (lv_room (Nat.le_of_ble_eq_true rfl)) dX8_runsOver_42 ⟨Nat.zero_le _, Nat.zero_le _⟩) hP hS (gSub rfl) rfl rfl rfl rfl rfl (fun H locs hP hS => ?_)
        refine lv_iload_n hx hb dX8_runsOver_45 rfl (lv_at hl 1 rfl) ?_
        refine lv_icmp_gt (tgt := 64) hx hb dX8_runsOver_46 (by decide) (fun c_2 => ?_) (fun c_2 => ?_)
        · have hf := (if_pos c_2).symm.trans hf
          exact J64 Rn Ra Rb Rd x1 x2 x3 hf _ _ hP hS _ (lv_sub hl [0, 1, 2, 3] rfl)
        · have hf := (if_neg c_2).symm.trans hf
          refine lv_iload_n hx hb dX8_runsOver_49 rfl (lv_at hl 1 rfl) ?_
          refine lv_aload_n hx hb dX8_runsOver_50 rfl (lv_at hl 0 rfl) ?_
          refine va_get (D := D) (ci := 6) (v := .ref (q 7)) (C := RX8) (T := TX8) (N := 6) hx hb hts huX8 hown hE.1 hP 0 rfl rfl 3 (by decide) hk33 (fun _ h9 => h9) rfl dX8_runsOver_51 ?_
          refine lv_iload_n hx hb dX8_runsOver_54 rfl (lv_at hl 3 rfl) ?_
          obtain ⟨r55, hc, hf⟩ := bn_some hf
          try dsimp only at hf
          refine g_call0 (ws' := (w_0_1_2_7_8_9_10 q cI cJ cD Tn Ta Rn Ra Rb Rd)) (st1 := [.int r55, .int x1]) hq [0, 1, 2, 7, 8, 9, 10] [7, 9] [.inr 0, .inr 1, .inr 2, .inl 0, .inr 4, .inl 1, .inr 6] (va_runV (As := [.int x3]) (rest := [.int x1]) ⟨hx, hb, hml, hown, hts⟩ (kX6_end l D cI cJ cD q hq N Rn Rb x3 r55 hc) (cwV 1 hts gX8_runsOver_X6_end rfl rfl rfl (by decide +kernel) ⟨(Nat.le_of_ble_eq_true rfl), (Nat.le_of_ble_eq_true rfl)⟩) ⟨gP_blind, va_recv hE.1 hP (ci := 4) (q0 := 3) rfl rfl, fun U hU hW => ⟨rfl, by rw [hU]; exact hP.sub (ws' := (w_7_9 q cI cJ cD Rn Rb)) [3, 5] rfl, gEv.warm hW hE⟩⟩ rfl rfl hl.1 rfl (lv_room (Nat.le_of_ble_eq_true rfl)) dX8_runsOver_55 ⟨Nat.zero_le _, Nat.zero_le _⟩) hP hS (gSub rfl) rfl rfl rfl rfl rfl (fun H locs hP hS => ?_)
          refine lv_icmp_ge (tgt := 64) hx hb dX8_runsOver_58 (by decide) (fun c_3 => ?_) (fun c_3 => ?_)
          · have hf := (if_pos c_3).symm.trans hf
            exact J64 Rn Ra Rb Rd x1 x2 x3 hf _ _ hP hS _ (lv_sub hl [0, 1, 2, 3] rfl)
          · have hf := (if_neg c_3).symm.trans hf
            refine lv_iinc (v := (x2 + 1)) (lv' := [(2, .int (x2 + 1)), (0, .ref (q 0)), (1, .int x1), (3, .int x3)]) hx hb dX8_runsOver_61 hl (k := 2) rfl rfl (by decide) rfl (fun ls hl => ?_)
            exact J64 Rn Ra Rb Rd x1 (x2 + 1) x3 hf _ _ hP hS _ (lv_sub hl [1, 2, 0, 3] rfl)
  unfold fX8_runsOver at hf
  refine lv_iload_n hx hb dX8_runsOver_0 rfl (lv_at hl 1 rfl) ?_
  refine lv_aload_n hx hb dX8_runsOver_1 rfl (lv_at hl 0 rfl) ?_
  refine va_get (D := D) (ci := 6) (v := .ref (q 1)) (C := RX8) (T := TX8) (N := 6) hx hb hts huX8 hown hE.1 hP 0 rfl rfl 0 (by decide) hk10 (fun _ h9 => h9) rfl dX8_runsOver_2 ?_
  obtain ⟨r5, hc, hf⟩ := bn_some hf
  try dsimp only at hf
  refine g_call0 (ws' := (w_0_1_2_7_8_9_10 q cI cJ cD Tn Ta Rn Ra Rb Rd)) (st1 := [.int r5, .int p1]) hq [0, 1, 2, 7, 8, 9, 10] [1] [.inr 0, .inl 0, .inr 2, .inr 3, .inr 4, .inr 5, .inr 6] (va_runV (As := []) (rest := [.int p1]) ⟨hx, hb, hml, hown, hts⟩ (kX2_count l D cI cJ cD q hq N Tn r5 hc) (cwV 0 hts gX8_runsOver_X2_count rfl rfl rfl (by decide +kernel) ⟨(Nat.le_of_ble_eq_true rfl), (Nat.le_of_ble_eq_true rfl)⟩) ⟨gP_blind, va_recv hE.1 hP (ci := 2) (q0 := 1) rfl rfl, fun U hU hW => ⟨rfl, by rw [hU]; exact hP.sub (ws' := (w_1 q cI cJ cD Tn)) [1] rfl, gEv.warm hW hE⟩⟩ rfl rfl hl.1 rfl (lv_room (Nat.le_of_ble_eq_true rfl)) dX8_runsOver_5 ⟨Nat.zero_le _, Nat.zero_le _⟩) hP hS (gSub rfl) rfl rfl rfl rfl rfl (fun H locs hP hS => ?_)
  rcases bx_some hf with ⟨e8, hc, hf⟩ | ⟨⟨⟩, hc, hf⟩
  · try dsimp only at hf
    refine g_callX (ws' := (w_0_1_2_7_8_9_10 q cI cJ cD Tn Ta Rn Ra Rb Rd)) hq [0, 1, 2, 7, 8, 9, 10] [] [.inr 0, .inr 1, .inr 2, .inr 3, .inr 4, .inr 5, .inr 6] (vx_runS (As := [.int p1, .int r5]) (rest := []) ⟨hx, hb, hml, hown, hts⟩ (kX8_checkIndexx l hlt D cI cJ cD sa q hq N p1 r5 e8 hc) (va_cwS 2 hts gX8_runsOver_X8_checkIndex rfl rfl rfl (by decide +kernel) ⟨(Nat.le_of_ble_eq_true rfl), (Nat.le_of_ble_eq_true rfl)⟩) ⟨gPx_blind, fun U hU hW => ⟨rfl, by rw [hU]; exact hP.sub (ws' := (w_0none q cI cJ cD)) [] rfl, gEv.warm hW hE, gXe.go hW hS (gMono rfl) hXe hU⟩⟩ rfl rfl hl.1 rfl (lv_room (Nat.le_of_ble_eq_true rfl)) dX8_runsOver_8 ⟨(Nat.le_of_ble_eq_true rfl), (Nat.le_of_ble_eq_true rfl)⟩) hP hS (gSub rfl) rfl rfl rfl rfl (fun ce q9 H locs hP hS hce hcv hcl => ?_)
    cases hf
    exact vx_out (fun x9 hx9 => (htab x9 hx9).elim) hlocks hce hcv hcl (fun t ht hv => ⟨rfl, by rw [ht]; exact hP, hS.F ht⟩) hS.2.2 (Nat.le_of_ble_eq_true rfl) (Nat.le_of_ble_eq_true rfl)
  try dsimp only at hf
  refine g_call0 (ws' := (w_0_1_2_7_8_9_10 q cI cJ cD Tn Ta Rn Ra Rb Rd)) (st1 := []) hq [0, 1, 2, 7, 8, 9, 10] [] [.inr 0, .inr 1, .inr 2, .inr 3, .inr 4, .inr 5, .inr 6] (va_runS (As := [.int p1, .int r5]) (rest := []) ⟨hx, hb, hml, hown, hts⟩ (kX8_checkIndex l D cI cJ cD q hq N p1 r5 hc) (va_cwS 2 hts gX8_runsOver_X8_checkIndex rfl rfl rfl (by decide +kernel) ⟨(Nat.le_of_ble_eq_true rfl), (Nat.le_of_ble_eq_true rfl)⟩) ⟨gP_blind, fun U hU hW => ⟨rfl, by rw [hU]; exact hP.sub (ws' := (w_0none q cI cJ cD)) [] rfl, gEv.warm hW hE⟩⟩ rfl rfl hl.1 rfl (lv_room (Nat.le_of_ble_eq_true rfl)) dX8_runsOver_8 ⟨Nat.zero_le _, Nat.zero_le _⟩) hP hS (gSub rfl) rfl rfl rfl rfl rfl (fun H locs hP hS => ?_)
  refine lv_aload_n hx hb dX8_runsOver_11 rfl (lv_at hl 0 rfl) ?_
  refine va_get (D := D) (ci := 6) (v := .ref (q 7)) (C := RX8) (T := TX8) (N := 6) hx hb hts huX8 hown hE.1 hP 0 rfl rfl 3 (by decide) hk33 (fun _ h9 => h9) rfl dX8_runsOver_12 ?_
  refine lv_aload_n hx hb dX8_runsOver_15 rfl (lv_at hl 0 rfl) ?_
  refine va_get (D := D) (ci := 6) (v := .ref (q 1)) (C := RX8) (T := TX8) (N := 6) hx hb hts huX8 hown hE.1 hP 0 rfl rfl 0 (by decide) hk10 (fun _ h9 => h9) rfl dX8_runsOver_16 ?_
  obtain ⟨⟨Rn19, Ra19, Rb19, Rd19⟩, hc, hf⟩ := bn_some hf
  try dsimp only at hf
  refine g_call0 (ws' := (w_0_1_2_7_8_9_10 q cI cJ cD Tn Ta Rn19 Ra19 Rb19 Rd19)) (st1 := []) hq [0, 1, 2, 7, 8, 9, 10] [1, 2, 7, 8, 9, 10] [.inr 0, .inl 0, .inl 1, .inl 2, .inl 3, .inl 4, .inl 5] (va_runV (As := [.ref (q 1)]) (rest := []) ⟨hx, hb, hml, hown, hts⟩ (kX6_find l D cI cJ cD q hq N Tn Ta Rn Ra Rb Rd Rn19 Ra19 Rb19 Rd19 hc) (cwV 1 hts gX8_runsOver_X6_find rfl rfl rfl (by decide +kernel) ⟨(Nat.le_of_ble_eq_true rfl), (Nat.le_of_ble_eq_true rfl)⟩) ⟨gP_blind, va_recv hE.1 hP (ci := 4) (q0 := 3) rfl rfl, fun U hU hW => ⟨rfl, by rw [hU]; exact hP.sub (ws' := (w_1_2_7_8_9_10 q cI cJ cD Tn Ta Rn Ra Rb Rd)) [1, 2, 3, 4, 5, 6] rfl, gEv.warm hW hE⟩⟩ rfl rfl hl.1 rfl (lv_room (Nat.le_of_ble_eq_true rfl)) dX8_runsOver_19 ⟨Nat.zero_le _, Nat.zero_le _⟩) hP hS (gSub rfl) rfl rfl rfl rfl rfl (fun H locs hP hS => ?_)
  refine lv_iconst (v := (0 : Int32)) hx hb dX8_runsOver_22 (by decide) ?_
  refine lv_istore_n (lv' := [(2, .int (0 : Int32)), (0, .ref (q 0)), (1, .int p1)]) hx hb dX8_runsOver_23 rfl hl (by decide) rfl (fun ls hl => ?_)
  refine lv_iconst (v := (0 : Int32)) hx hb dX8_runsOver_24 (by decide) ?_
  refine lv_istore_n (lv' := [(3, .int (0 : Int32)), (2, .int (0 : Int32)), (0, .ref (q 0)), (1, .int p1)]) hx hb dX8_runsOver_25 rfl hl (by decide) rfl (fun ls hl => ?_)
  exact K26 N Rn19 Ra19 Rb19 Rd19 p1 (0 : Int32) (0 : Int32) hf _ _ hP hS _ (lv_sub hl [2, 3, 1, 0] rfl)
set_option maxHeartbeats 4000000 in
set_option maxRecDepth 100000 in
theorem kX8_squares (l : Launch) (D : va_G) (cI cJ cD : ClassId) (q : Nat → Nat) (hq : gInj 14 q) (N : Nat) (Tn : Int32) (Ta : (Nat → Int32)) (Rn : Int32) (Ra : (Nat → Int32)) (Rb : (Nat → Int32)) (Rd : (Nat → Int32)) (r0 : Int32) (Rn9 : Int32) (Ra9 : (Nat → Int32)) (Rb9 : (Nat → Int32)) (Rd9 : (Nat → Int32)) (hf : fX8_squares N Tn Ta Rn Ra Rb Rd = some (r0, Rn9, Ra9, Rb9, Rd9)) : Met l yX8_squares wsX8_squares rX8_squares (gP D cI cJ cD [.ref (q 0)] (w_0_1_2_7_8_9_10 q cI cJ cD Tn Ta Rn Ra Rb Rd)) (gQ D (some (.int r0)) (w_0_1_2_7_8_9_10 q cI cJ cD Tn Ta Rn9 Ra9 Rb9 Rd9) (gA q [0, 1, 2, 7, 8, 9, 10])) 0 0 (gA q [0, 1, 2, 7, 8, 9, 10]) := by
  refine Met.ofW (cc := cX8_squares) (maxL := 3) (ret := (some .int)) (by decide +kernel) rfl ?_
  intro p e s m args below meth c s₁ B hml hv
  obtain ⟨rfl, hP, hE⟩ := hv
  have hx := B.exec
  have hb := B.bytes
  have hr := B.returns
  have hts := atoms_spec (ws := wsX8_squares) B.pre
  have hown : s.vm.findClass RX8 = some m.cls := findClass_of_methodNamed B.named
  have hlocks := B.notSynchronized
  have hS : va_S (gA q [0, 1, 2, 7, 8, 9, 10]) s.heap s.heap [] := va_S.rf
  have hl := lv_entry ([.ref (q 0)]) (n := 3) (Nat.le_of_ble_eq_true rfl)
  rw [lg_entry_eq]
  generalize (lg_sl ([.ref (q 0)]) ++ List.replicate (3 - (lg_sl ([.ref (q 0)])).length) Slot.unset).toArray = ls at hl ⊢
  have hl : lv_has ls 3 [(0, .ref (q 0))] := hl
  have hk33 := hts (.fieldLink RX8 33 "LyndonText" "runRow" "LLyndonText$Runs;") (by decide +kernel)
  have hk10 := hts (.fieldLink RX8 10 "LyndonText" "text" "LLyndonText$Letters;") (by decide +kernel)
  have huX8 : ∀ w ∈ u_ws RX8 TX8 6, w ∈ wsX8_squares := by decide +kernel
  have J56 : ∀ (Rn : Int32) (Ra : (Nat → Int32)) (Rb : (Nat → Int32)) (Rd : (Nat → Int32)) (x1 : Int32), fX8_squares_J56 N Tn Ta Rn Ra Rb Rd x1 = some (r0, Rn9, Ra9, Rb9, Rd9) → ∀ (H : Heap) (locs : List Loc), va_P D vwCl (w_0_1_2_7_8_9_10 q cI cJ cD Tn Ta Rn Ra Rb Rd) H → va_S (gA q [0, 1, 2, 7, 8, 9, 10]) s.heap H locs → ∀ ls : Array Slot, lv_has ls 3 [(1, .int x1)] → W p l e (headSpec wsX8_squares rX8_squares).room s m ([.ref (q 0)] : List Value).toArray below meth c H locs 0 0 (MQ below (gQ D (some (.int r0)) (w_0_1_2_7_8_9_10 q cI cJ cD Tn Ta Rn9 Ra9 Rb9 Rd9) (gA q [0, 1, 2, 7, 8, 9, 10])) ([.ref (q 0)] : List Value).toArray s 0 0 (gA q [0, 1, 2, 7, 8, 9, 10])) (F0 m 56 ls []) := by
    intro Rn Ra Rb Rd x1 hf H locs hP hS ls hl
    unfold fX8_squares_J56 at hf
    refine lv_iload_n hx hb dX8_squares_56 rfl (lv_at hl 0 rfl) ?_
    cases hf
    exact W.iret hx hb hr (fun t ht hW => ⟨⟨rfl, by rw [ht]; exact hP⟩, hS.F ht⟩) hS.2.2 dX8_squares_57
  have K15 : ∀ (n15 : Nat) (Rn : Int32) (Ra : (Nat → Int32)) (Rb : (Nat → Int32)) (Rd : (Nat → Int32)) (x1 : Int32) (x2 : Int32), fX8_squares_H15 N Tn Ta n15 Rn Ra Rb Rd x1 x2 = some (r0, Rn9, Ra9, Rb9, Rd9) → ∀ (H : Heap) (locs : List Loc), va_P D vwCl (w_0_1_2_7_8_9_10 q cI cJ cD Tn Ta Rn Ra Rb Rd) H → va_S (gA q [0, 1, 2, 7, 8, 9, 10]) s.heap H locs → ∀ ls : Array Slot, lv_has ls 3 [(0, .ref (q 0)), (1, .int x1), (2, .int x2)] → W p l e (headSpec wsX8_squares rX8_squares).room s m ([.ref (q 0)] : List Value).toArray below meth c H locs 0 0 (MQ below (gQ D (some (.int r0)) (w_0_1_2_7_8_9_10 q cI cJ cD Tn Ta Rn9 Ra9 Rb9 Rd9) (gA q [0, 1, 2, 7, 8, 9, 10])) ([.ref (q 0)] : List Value).toArray s 0 0 (gA q [0, 1, 2, 7, 8, 9, 10])) (F0 m 15 ls []) := by
    intro n15
    induction n15 with
    | zero =>
      intro Rn Ra Rb Rd x1 x2 hf
      exact nomatch (show (none : Option (Int32 × Int32 × (Nat → Int32) × (Nat → Int32) × (Nat → Int32))) = some (r0, Rn9, Ra9, Rb9, Rd9) from hf)
    | succ n15 ih15 =>
      intro Rn Ra Rb Rd x1 x2 hf H locs hP hS ls hl
      have hf : fX8_squares_B15 N Tn Ta (fX8_squares_H15 N Tn Ta n15) Rn Ra Rb Rd x1 x2 = some (r0, Rn9, Ra9, Rb9, Rd9) := hf
      unfold fX8_squares_B15 at hf
      refine lv_iload_n hx hb dX8_squares_15 rfl (lv_at hl 2 rfl) ?_
      refine lv_aload_n hx hb dX8_squares_16 rfl (lv_at hl 0 rfl) ?_
      refine va_get (D := D) (ci := 6) (v := .ref (q 7)) (C := RX8) (T := TX8) (N := 6) hx hb hts huX8 hown hE.1 hP 0 rfl rfl 3 (by decide) hk33 (fun _ h9 => h9) rfl dX8_squares_17 ?_
      obtain ⟨r20, hc, hf⟩ := bn_some hf
      try dsimp only at hf
      refine g_call0 (ws' := (w_0_1_2_7_8_9_10 q cI cJ cD Tn Ta Rn Ra Rb Rd)) (st1 := [.int r20, .int x2]) hq [0, 1, 2, 7, 8, 9, 10] [7] [.inr 0, .inr 1, .inr 2, .inl 0, .inr 4, .inr 5, .inr 6] (va_runV (As := []) (rest := [.int x2]) ⟨hx, hb, hml, hown, hts⟩ (kX6_count l D cI cJ cD q hq N Rn r20 hc) (cwV 0 hts gX8_squares_X6_count rfl rfl rfl (by decide +kernel) ⟨(Nat.le_of_ble_eq_true rfl), (Nat.le_of_ble_eq_true rfl)⟩) ⟨gP_blind, va_recv hE.1 hP (ci := 4) (q0 := 3) rfl rfl, fun U hU hW => ⟨rfl, by rw [hU]; exact hP.sub (ws' := (w_7 q cI cJ cD Rn)) [3] rfl, gEv.warm hW hE⟩⟩ rfl rfl hl.1 rfl (lv_room (Nat.le_of_ble_eq_true rfl)) dX8_squares_20 ⟨Nat.zero_le _, Nat.zero_le _⟩) hP hS (gSub rfl) rfl rfl rfl rfl rfl (fun H locs hP hS => ?_)
      refine lv_icmp_ge (tgt := 56) hx hb dX8_squares_23 (by decide) (fun c_1 => ?_) (fun c_1 => ?_)
      · have hf := (if_pos c_1).symm.trans hf
        exact J56 Rn Ra Rb Rd x1 hf _ _ hP hS _ (lv_sub hl [1] rfl)
      · have hf := (if_neg c_1).symm.trans hf
        refine lv_iload_n hx hb dX8_squares_26 rfl (lv_at hl 1 rfl) ?_
        refine lv_aload_n hx hb dX8_squares_27 rfl (lv_at hl 0 rfl) ?_
        refine va_get (D := D) (ci := 6) (v := .ref (q 7)) (C := RX8) (T := TX8) (N := 6) hx hb hts huX8 hown hE.1 hP 0 rfl rfl 3 (by decide) hk33 (fun _ h9 => h9) rfl dX8_squares_28 ?_
        refine lv_iload_n hx hb dX8_squares_31 rfl (lv_at hl 2 rfl) ?_
        obtain ⟨r32, hc, hf⟩ := bn_some hf
        try dsimp only at hf
        refine g_call0 (ws' := (w_0_1_2_7_8_9_10 q cI cJ cD Tn Ta Rn Ra Rb Rd)) (st1 := [.int r32, .int x1]) hq [0, 1, 2, 7, 8, 9, 10] [7, 8, 9] [.inr 0, .inr 1, .inr 2, .inl 0, .inl 1, .inl 2, .inr 6] (va_runV (As := [.int x2]) (rest := [.int x1]) ⟨hx, hb, hml, hown, hts⟩ (kX6_size l D cI cJ cD q hq N Rn Ra Rb x2 r32 hc) (cwV 1 hts gX8_squares_X6_size rfl rfl rfl (by decide +kernel) ⟨(Nat.le_of_ble_eq_true rfl), (Nat.le_of_ble_eq_true rfl)⟩) ⟨gP_blind, va_recv hE.1 hP (ci := 4) (q0 := 3) rfl rfl, fun U hU hW => ⟨rfl, by rw [hU]; exact hP.sub (ws' := (w_7_8_9 q cI cJ cD Rn Ra Rb)) [3, 4, 5] rfl, gEv.warm hW hE⟩⟩ rfl rfl hl.1 rfl (lv_room (Nat.le_of_ble_eq_true rfl)) dX8_squares_32 ⟨Nat.zero_le _, Nat.zero_le _⟩) hP hS (gSub rfl) rfl rfl rfl rfl rfl (fun H locs hP hS => ?_)
        refine lv_iconst (v := (2 : Int32)) hx hb dX8_squares_35 (by decide) ?_
        refine lv_aload_n hx hb dX8_squares_36 rfl (lv_at hl 0 rfl) ?_
        refine va_get (D := D) (ci := 6) (v := .ref (q 7)) (C := RX8) (T := TX8) (N := 6) hx hb hts huX8 hown hE.1 hP 0 rfl rfl 3 (by decide) hk33 (fun _ h9 => h9) rfl dX8_squares_37 ?_
        refine lv_iload_n hx hb dX8_squares_40 rfl (lv_at hl 2 rfl) ?_
        obtain ⟨r41, hc, hf⟩ := bn_some hf
        try dsimp only at hf
        refine g_call0 (ws' := (w_0_1_2_7_8_9_10 q cI cJ cD Tn Ta Rn Ra Rb Rd)) (st1 := [.int r41, .int (2 : Int32), .int r32, .int x1]) hq [0, 1, 2, 7, 8, 9, 10] [7, 10] [.inr 0, .inr 1, .inr 2, .inl 0, .inr 4, .inr 5, .inl 1] (va_runV (As := [.int x2]) (rest := [.int (2 : Int32), .int r32, .int x1]) ⟨hx, hb, hml, hown, hts⟩ (kX6_leastPeriod l D cI cJ cD q hq N Rn Rd x2 r41 hc) (cwV 1 hts gX8_squares_X6_leastPeriod rfl rfl rfl (by decide +kernel) ⟨(Nat.le_of_ble_eq_true rfl), (Nat.le_of_ble_eq_true rfl)⟩) ⟨gP_blind, va_recv hE.1 hP (ci := 4) (q0 := 3) rfl rfl, fun U hU hW => ⟨rfl, by rw [hU]; exact hP.sub (ws' := (w_7_10 q cI cJ cD Rn Rd)) [3, 6] rfl, gEv.warm hW hE⟩⟩ rfl rfl hl.1 rfl (lv_room (Nat.le_of_ble_eq_true rfl)) dX8_squares_41 ⟨Nat.zero_le _, Nat.zero_le _⟩) hP hS (gSub rfl) rfl rfl rfl rfl rfl (fun H locs hP hS => ?_)
        refine lv_imul hx hb dX8_squares_44 ?_
        refine lv_isub hx hb dX8_squares_45 ?_
        refine lv_iconst (v := (1 : Int32)) hx hb dX8_squares_46 (by decide) ?_
        refine lv_iadd hx hb dX8_squares_47 ?_
        refine lv_iadd hx hb dX8_squares_48 ?_
        refine lv_istore_n (lv' := [(1, .int (x1 + ((r32 - ((2 : Int32) * r41)) + (1 : Int32)))), (0, .ref (q 0)), (2, .int x2)]) hx hb dX8_squares_49 rfl hl (by decide) rfl (fun ls hl => ?_)
        refine lv_iinc (v := (x2 + 1)) (lv' := [(2, .int (x2 + 1)), (1, .int (x1 + ((r32 - ((2 : Int32) * r41)) + (1 : Int32)))), (0, .ref (q 0))]) hx hb dX8_squares_50 hl (k := 2) rfl rfl (by decide) rfl (fun ls hl => ?_)
        refine lv_goto (tgt := 15) hx hb dX8_squares_53 (by decide) ?_
        exact ih15 Rn Ra Rb Rd (x1 + ((r32 - ((2 : Int32) * r41)) + (1 : Int32))) (x2 + 1) hf _ _ hP hS _ (lv_sub hl [2, 1, 0] rfl)
  unfold fX8_squares at hf
  refine lv_aload_n hx hb dX8_squares_0 rfl (lv_at hl 0 rfl) ?_
  refine va_get (D := D) (ci := 6) (v := .ref (q 7)) (C := RX8) (T := TX8) (N := 6) hx hb hts huX8 hown hE.1 hP 0 rfl rfl 3 (by decide) hk33 (fun _ h9 => h9) rfl dX8_squares_1 ?_
  refine lv_aload_n hx hb dX8_squares_4 rfl (lv_at hl 0 rfl) ?_
  refine va_get (D := D) (ci := 6) (v := .ref (q 1)) (C := RX8) (T := TX8) (N := 6) hx hb hts huX8 hown hE.1 hP 0 rfl rfl 0 (by decide) hk10 (fun _ h9 => h9) rfl dX8_squares_5 ?_
  obtain ⟨⟨Rn8, Ra8, Rb8, Rd8⟩, hc, hf⟩ := bn_some hf
  try dsimp only at hf
  refine g_call0 (ws' := (w_0_1_2_7_8_9_10 q cI cJ cD Tn Ta Rn8 Ra8 Rb8 Rd8)) (st1 := []) hq [0, 1, 2, 7, 8, 9, 10] [1, 2, 7, 8, 9, 10] [.inr 0, .inl 0, .inl 1, .inl 2, .inl 3, .inl 4, .inl 5] (va_runV (As := [.ref (q 1)]) (rest := []) ⟨hx, hb, hml, hown, hts⟩ (kX6_find l D cI cJ cD q hq N Tn Ta Rn Ra Rb Rd Rn8 Ra8 Rb8 Rd8 hc) (cwV 1 hts gX8_squares_X6_find rfl rfl rfl (by decide +kernel) ⟨(Nat.le_of_ble_eq_true rfl), (Nat.le_of_ble_eq_true rfl)⟩) ⟨gP_blind, va_recv hE.1 hP (ci := 4) (q0 := 3) rfl rfl, fun U hU hW => ⟨rfl, by rw [hU]; exact hP.sub (ws' := (w_1_2_7_8_9_10 q cI cJ cD Tn Ta Rn Ra Rb Rd)) [1, 2, 3, 4, 5, 6] rfl, gEv.warm hW hE⟩⟩ rfl rfl hl.1 rfl (lv_room (Nat.le_of_ble_eq_true rfl)) dX8_squares_8 ⟨Nat.zero_le _, Nat.zero_le _⟩) hP hS (gSub rfl) rfl rfl rfl rfl rfl (fun H locs hP hS => ?_)
  refine lv_iconst (v := (0 : Int32)) hx hb dX8_squares_11 (by decide) ?_
  refine lv_istore_n (lv' := [(1, .int (0 : Int32)), (0, .ref (q 0))]) hx hb dX8_squares_12 rfl hl (by decide) rfl (fun ls hl => ?_)
  refine lv_iconst (v := (0 : Int32)) hx hb dX8_squares_13 (by decide) ?_
  refine lv_istore_n (lv' := [(2, .int (0 : Int32)), (1, .int (0 : Int32)), (0, .ref (q 0))]) hx hb dX8_squares_14 rfl hl (by decide) rfl (fun ls hl => ?_)
  exact K15 N Rn8 Ra8 Rb8 Rd8 (0 : Int32) (0 : Int32) hf _ _ hP hS _ (lv_sub hl [2, 1, 0] rfl)
set_option maxHeartbeats 4000000 in
set_option maxRecDepth 100000 in
theorem kX8_suffixAt (l : Launch) (D : va_G) (cI cJ cD : ClassId) (q : Nat → Nat) (hq : gInj 14 q) (N : Nat) (Tn : Int32) (Ta : (Nat → Int32)) (Ua : (Nat → Int32)) (p1 : Int32) (r0 : Int32) (Ua9 : (Nat → Int32)) (hf : fX8_suffixAt N Tn Ta Ua p1 = some (.inr (r0, Ua9))) : Met l yX8_suffixAt wsX8_suffixAt rX8_suffixAt (gP D cI cJ cD [.ref (q 0), .int p1] (w_0_1_2_11_12 q cI cJ cD Tn Ta Ua)) (gQ D (some (.int r0)) (w_0_1_2_11_12 q cI cJ cD Tn Ta Ua9) (gA q [0, 1, 2, 11, 12])) 0 0 (gA q [0, 1, 2, 11, 12]) := by
  refine Met.ofW (cc := cX8_suffixAt) (maxL := 3) (ret := (some .int)) (by decide +kernel) rfl ?_
  intro p e s m args below meth c s₁ B hml hv
  obtain ⟨rfl, hP, hE⟩ := hv
  have hx := B.exec
  have hb := B.bytes
  have hr := B.returns
  have hts := atoms_spec (ws := wsX8_suffixAt) B.pre
  have hown : s.vm.findClass RX8 = some m.cls := findClass_of_methodNamed B.named
  have hlocks := B.notSynchronized
  have hS : va_S (gA q [0, 1, 2, 11, 12]) s.heap s.heap [] := va_S.rf
  have hl := lv_entry ([.ref (q 0), .int p1]) (n := 3) (Nat.le_of_ble_eq_true rfl)
  rw [lg_entry_eq]
  generalize (lg_sl ([.ref (q 0), .int p1]) ++ List.replicate (3 - (lg_sl ([.ref (q 0), .int p1])).length) Slot.unset).toArray = ls at hl ⊢
  have hl : lv_has ls 3 [(0, .ref (q 0)), (1, .int p1)] := hl
  have hk10 := hts (.fieldLink RX8 10 "LyndonText" "text" "LLyndonText$Letters;") (by decide +kernel)
  have hk40 := hts (.fieldLink RX8 40 "LyndonText" "suffixRow" "LLyndonText$Suffixes;") (by decide +kernel)
  have huX8 : ∀ w ∈ u_ws RX8 TX8 6, w ∈ wsX8_suffixAt := by decide +kernel
  have J55 : ∀ (Ua : (Nat → Int32)) (x2 : Int32), fX8_suffixAt_J55 N Tn Ta Ua x2 = some (.inr (r0, Ua9)) → ∀ (H : Heap) (locs : List Loc), va_P D vwCl (w_0_1_2_11_12 q cI cJ cD Tn Ta Ua) H → va_S (gA q [0, 1, 2, 11, 12]) s.heap H locs → ∀ ls : Array Slot, lv_has ls 3 [(2, .int x2)] → W p l e (headSpec wsX8_suffixAt rX8_suffixAt).room s m ([.ref (q 0), .int p1] : List Value).toArray below meth c H locs 0 0 (MQ below (gQ D (some (.int r0)) (w_0_1_2_11_12 q cI cJ cD Tn Ta Ua9) (gA q [0, 1, 2, 11, 12])) ([.ref (q 0), .int p1] : List Value).toArray s 0 0 (gA q [0, 1, 2, 11, 12])) (F0 m 55 ls []) := by
    intro Ua x2 hf H locs hP hS ls hl
    unfold fX8_suffixAt_J55 at hf
    refine lv_iload_n hx hb dX8_suffixAt_55 rfl (lv_at hl 0 rfl) ?_
    cases hf
    exact W.iret hx hb hr (fun t ht hW => ⟨⟨rfl, by rw [ht]; exact hP⟩, hS.F ht⟩) hS.2.2 dX8_suffixAt_56
  have K24 : ∀ (n24 : Nat) (Ua : (Nat → Int32)) (x1 : Int32) (x2 : Int32), fX8_suffixAt_H24 N Tn Ta n24 Ua x1 x2 = some (.inr (r0, Ua9)) → ∀ (H : Heap) (locs : List Loc), va_P D vwCl (w_0_1_2_11_12 q cI cJ cD Tn Ta Ua) H → va_S (gA q [0, 1, 2, 11, 12]) s.heap H locs → ∀ ls : Array Slot, lv_has ls 3 [(0, .ref (q 0)), (1, .int x1), (2, .int x2)] → W p l e (headSpec wsX8_suffixAt rX8_suffixAt).room s m ([.ref (q 0), .int p1] : List Value).toArray below meth c H locs 0 0 (MQ below (gQ D (some (.int r0)) (w_0_1_2_11_12 q cI cJ cD Tn Ta Ua9) (gA q [0, 1, 2, 11, 12])) ([.ref (q 0), .int p1] : List Value).toArray s 0 0 (gA q [0, 1, 2, 11, 12])) (F0 m 24 ls []) := by
    intro n24
    induction n24 with
    | zero =>
      intro Ua x1 x2 hf
      exact nomatch (show (none : Option ((Nat × (Nat → Int32)) ⊕ (Int32 × (Nat → Int32)))) = some (.inr (r0, Ua9)) from hf)
    | succ n24 ih24 =>
      intro Ua x1 x2 hf H locs hP hS ls hl
      have hf : fX8_suffixAt_B24 N Tn Ta (fX8_suffixAt_H24 N Tn Ta n24) Ua x1 x2 = some (.inr (r0, Ua9)) := hf
      unfold fX8_suffixAt_B24 at hf
      refine lv_iload_n hx hb dX8_suffixAt_24 rfl (lv_at hl 2 rfl) ?_
      refine lv_aload_n hx hb dX8_suffixAt_25 rfl (lv_at hl 0 rfl) ?_
      refine va_get (D := D) (ci := 6) (v := .ref (q 1)) (C := RX8) (T := TX8) (N := 6) hx hb hts huX8 hown hE.1 hP 0 rfl rfl 0 (by decide) hk10 (fun _ h9 => h9) rfl dX8_suffixAt_26 ?_
      obtain ⟨r29, hc, hf⟩ := bn_some hf
      try dsimp only at hf
      refine g_call0 (ws' := (w_0_1_2_11_12 q cI cJ cD Tn Ta Ua)) (st1 := [.int r29, .int x2]) hq [0, 1, 2, 11, 12] [1] [.inr 0, .inl 0, .inr 2, .inr 3, .inr 4] (va_runV (As := []) (rest := [.int x2]) ⟨hx, hb, hml, hown, hts⟩ (kX2_count l D cI cJ cD q hq N Tn r29 hc) (cwV 0 hts gX8_suffixAt_X2_count rfl rfl rfl (by decide +kernel) ⟨(Nat.le_of_ble_eq_true rfl), (Nat.le_of_ble_eq_true rfl)⟩) ⟨gP_blind, va_recv hE.1 hP (ci := 2) (q0 := 1) rfl rfl, fun U hU hW => ⟨rfl, by rw [hU]; exact hP.sub (ws' := (w_1 q cI cJ cD Tn)) [1] rfl, gEv.warm hW hE⟩⟩ rfl rfl hl.1 rfl (lv_room (Nat.le_of_ble_eq_true rfl)) dX8_suffixAt_29 ⟨Nat.zero_le _, Nat.zero_le _⟩) hP hS (gSub rfl) rfl rfl rfl rfl rfl (fun H locs hP hS => ?_)
      refine lv_iconst (v := (1 : Int32)) hx hb dX8_suffixAt_32 (by decide) ?_
      refine lv_isub hx hb dX8_suffixAt_33 ?_
      refine lv_icmp_ge (tgt := 55) hx hb dX8_suffixAt_34 (by decide) (fun c_1 => ?_) (fun c_1 => ?_)
      · have hf := (if_pos c_1).symm.trans hf
        exact J55 Ua x2 hf _ _ hP hS _ (lv_sub hl [2] rfl)
      · have hf := (if_neg c_1).symm.trans hf
        refine lv_aload_n hx hb dX8_suffixAt_37 rfl (lv_at hl 0 rfl) ?_
        refine va_get (D := D) (ci := 6) (v := .ref (q 11)) (C := RX8) (T := TX8) (N := 6) hx hb hts huX8 hown hE.1 hP 0 rfl rfl 4 (by decide) hk40 (fun _ h9 => h9) rfl dX8_suffixAt_38 ?_
        refine lv_iload_n hx hb dX8_suffixAt_41 rfl (lv_at hl 2 rfl) ?_
        obtain ⟨r42, hc, hf⟩ := bn_some hf
        try dsimp only at hf
        refine g_call0 (ws' := (w_0_1_2_11_12 q cI cJ cD Tn Ta Ua)) (st1 := [.int r42]) hq [0, 1, 2, 11, 12] [11, 12] [.inr 0, .inr 1, .inr 2, .inl 0, .inl 1] (va_runV (As := [.int x2]) (rest := []) ⟨hx, hb, hml, hown, hts⟩ (kX7_rank l D cI cJ cD q hq N Ua x2 r42 hc) (cwV 1 hts gX8_suffixAt_X7_rank rfl rfl rfl (by decide +kernel) ⟨(Nat.le_of_ble_eq_true rfl), (Nat.le_of_ble_eq_true rfl)⟩) ⟨gP_blind, va_recv hE.1 hP (ci := 5) (q0 := 3) rfl rfl, fun U hU hW => ⟨rfl, by rw [hU]; exact hP.sub (ws' := (w_11_12 q cI cJ cD Ua)) [3, 4] rfl, gEv.warm hW hE⟩⟩ rfl rfl hl.1 rfl (lv_room (Nat.le_of_ble_eq_true rfl)) dX8_suffixAt_42 ⟨Nat.zero_le _, Nat.zero_le _⟩) hP hS (gSub rfl) rfl rfl rfl rfl rfl (fun H locs hP hS => ?_)
        refine lv_iload_n hx hb dX8_suffixAt_45 rfl (lv_at hl 1 rfl) ?_
        refine lv_icmp_eq (tgt := 55) hx hb dX8_suffixAt_46 (by decide) (fun c_2 => ?_) (fun c_2 => ?_)
        · have hf := (if_pos c_2).symm.trans hf
          exact J55 Ua x2 hf _ _ hP hS _ (lv_sub hl [2] rfl)
        · have hf := (if_neg c_2).symm.trans hf
          refine lv_iinc (v := (x2 + 1)) (lv' := [(2, .int (x2 + 1)), (0, .ref (q 0)), (1, .int x1)]) hx hb dX8_suffixAt_49 hl (k := 2) rfl rfl (by decide) rfl (fun ls hl => ?_)
          refine lv_goto (tgt := 24) hx hb dX8_suffixAt_52 (by decide) ?_
          exact ih24 Ua x1 (x2 + 1) hf _ _ hP hS _ (lv_sub hl [1, 2, 0] rfl)
  unfold fX8_suffixAt at hf
  refine lv_iload_n hx hb dX8_suffixAt_0 rfl (lv_at hl 1 rfl) ?_
  refine lv_aload_n hx hb dX8_suffixAt_1 rfl (lv_at hl 0 rfl) ?_
  refine va_get (D := D) (ci := 6) (v := .ref (q 1)) (C := RX8) (T := TX8) (N := 6) hx hb hts huX8 hown hE.1 hP 0 rfl rfl 0 (by decide) hk10 (fun _ h9 => h9) rfl dX8_suffixAt_2 ?_
  obtain ⟨r5, hc, hf⟩ := bn_some hf
  try dsimp only at hf
  refine g_call0 (ws' := (w_0_1_2_11_12 q cI cJ cD Tn Ta Ua)) (st1 := [.int r5, .int p1]) hq [0, 1, 2, 11, 12] [1] [.inr 0, .inl 0, .inr 2, .inr 3, .inr 4] (va_runV (As := []) (rest := [.int p1]) ⟨hx, hb, hml, hown, hts⟩ (kX2_count l D cI cJ cD q hq N Tn r5 hc) (cwV 0 hts gX8_suffixAt_X2_count rfl rfl rfl (by decide +kernel) ⟨(Nat.le_of_ble_eq_true rfl), (Nat.le_of_ble_eq_true rfl)⟩) ⟨gP_blind, va_recv hE.1 hP (ci := 2) (q0 := 1) rfl rfl, fun U hU hW => ⟨rfl, by rw [hU]; exact hP.sub (ws' := (w_1 q cI cJ cD Tn)) [1] rfl, gEv.warm hW hE⟩⟩ rfl rfl hl.1 rfl (lv_room (Nat.le_of_ble_eq_true rfl)) dX8_suffixAt_5 ⟨Nat.zero_le _, Nat.zero_le _⟩) hP hS (gSub rfl) rfl rfl rfl rfl rfl (fun H locs hP hS => ?_)
  rcases bx_some hf with ⟨e8, hc, hf⟩ | ⟨⟨⟩, hc, hf⟩
  · exact nomatch hf
  try dsimp only at hf
  refine g_call0 (ws' := (w_0_1_2_11_12 q cI cJ cD Tn Ta Ua)) (st1 := []) hq [0, 1, 2, 11, 12] [] [.inr 0, .inr 1, .inr 2, .inr 3, .inr 4] (va_runS (As := [.int p1, .int r5]) (rest := []) ⟨hx, hb, hml, hown, hts⟩ (kX8_checkIndex l D cI cJ cD q hq N p1 r5 hc) (va_cwS 2 hts gX8_suffixAt_X8_checkIndex rfl rfl rfl (by decide +kernel) ⟨(Nat.le_of_ble_eq_true rfl), (Nat.le_of_ble_eq_true rfl)⟩) ⟨gP_blind, fun U hU hW => ⟨rfl, by rw [hU]; exact hP.sub (ws' := (w_0none q cI cJ cD)) [] rfl, gEv.warm hW hE⟩⟩ rfl rfl hl.1 rfl (lv_room (Nat.le_of_ble_eq_true rfl)) dX8_suffixAt_8 ⟨Nat.zero_le _, Nat.zero_le _⟩) hP hS (gSub rfl) rfl rfl rfl rfl rfl (fun H locs hP hS => ?_)
  refine lv_aload_n hx hb dX8_suffixAt_11 rfl (lv_at hl 0 rfl) ?_
  refine va_get (D := D) (ci := 6) (v := .ref (q 11)) (C := RX8) (T := TX8) (N := 6) hx hb hts huX8 hown hE.1 hP 0 rfl rfl 4 (by decide) hk40 (fun _ h9 => h9) rfl dX8_suffixAt_12 ?_
  refine lv_aload_n hx hb dX8_suffixAt_15 rfl (lv_at hl 0 rfl) ?_
  refine va_get (D := D) (ci := 6) (v := .ref (q 1)) (C := RX8) (T := TX8) (N := 6) hx hb hts huX8 hown hE.1 hP 0 rfl rfl 0 (by decide) hk10 (fun _ h9 => h9) rfl dX8_suffixAt_16 ?_
  obtain ⟨Ua19, hc, hf⟩ := bn_some hf
  try dsimp only at hf
  refine g_call0 (ws' := (w_0_1_2_11_12 q cI cJ cD Tn Ta Ua19)) (st1 := []) hq [0, 1, 2, 11, 12] [1, 2, 11, 12] [.inr 0, .inl 0, .inl 1, .inl 2, .inl 3] (va_runV (As := [.ref (q 1)]) (rest := []) ⟨hx, hb, hml, hown, hts⟩ (kX7_find l D cI cJ cD q hq N Tn Ta Ua Ua19 hc) (cwV 1 hts gX8_suffixAt_X7_find rfl rfl rfl (by decide +kernel) ⟨(Nat.le_of_ble_eq_true rfl), (Nat.le_of_ble_eq_true rfl)⟩) ⟨gP_blind, va_recv hE.1 hP (ci := 5) (q0 := 3) rfl rfl, fun U hU hW => ⟨rfl, by rw [hU]; exact hP.sub (ws' := (w_1_2_11_12 q cI cJ cD Tn Ta Ua)) [1, 2, 3, 4] rfl, gEv.warm hW hE⟩⟩ rfl rfl hl.1 rfl (lv_room (Nat.le_of_ble_eq_true rfl)) dX8_suffixAt_19 ⟨Nat.zero_le _, Nat.zero_le _⟩) hP hS (gSub rfl) rfl rfl rfl rfl rfl (fun H locs hP hS => ?_)
  refine lv_iconst (v := (0 : Int32)) hx hb dX8_suffixAt_22 (by decide) ?_
  refine lv_istore_n (lv' := [(2, .int (0 : Int32)), (0, .ref (q 0)), (1, .int p1)]) hx hb dX8_suffixAt_23 rfl hl (by decide) rfl (fun ls hl => ?_)
  exact K24 N Ua19 p1 (0 : Int32) hf _ _ hP hS _ (lv_sub hl [1, 2, 0] rfl)
set_option maxHeartbeats 4000000 in
set_option maxRecDepth 100000 in
theorem kX8_suffixAtx (l : Launch) (hlt : l.stackTraces = false) (D : va_G) (cI cJ cD : ClassId) (sa : Nat → Nat) (q : Nat → Nat) (hq : gInj 14 q) (N : Nat) (Tn : Int32) (Ta : (Nat → Int32)) (Ua : (Nat → Int32)) (p1 : Int32) (e0 : Nat) (Ua9 : (Nat → Int32)) (hf : fX8_suffixAt N Tn Ta Ua p1 = some (.inl (e0, Ua9))) : vx_Met l yX8_suffixAt wsX8_suffixAt rX8_suffixAtx (gPx D cI cJ cD sa (gA q [0, 1, 2, 11, 12]) [.ref (q 0), .int p1] (w_0_1_2_11_12 q cI cJ cD Tn Ta Ua)) (fun _ _ _ _ => False) (gX D (gEn e0) (w_0_1_2_11_12 q cI cJ cD Tn Ta Ua9) (gA q [0, 1, 2, 11, 12])) 1 6 (gA q [0, 1, 2, 11, 12]) := by
  refine vx_ofW (cc := cX8_suffixAt) (maxL := 3) (ret := (some .int)) (by decide +kernel) rfl ?_
  intro p e s m args below meth c s₁ B hml htab hv
  obtain ⟨rfl, hP, hE, hXe⟩ := hv
  have hx := B.exec
  have hb := B.bytes
  have hr := B.returns
  have hts := atoms_spec (ws := wsX8_suffixAt) B.pre
  have hown : s.vm.findClass RX8 = some m.cls := findClass_of_methodNamed B.named
  have hlocks := B.notSynchronized
  have hS : va_S (gA q [0, 1, 2, 11, 12]) s.heap s.heap [] := va_S.rf
  have hl := lv_entry ([.ref (q 0), .int p1]) (n := 3) (Nat.le_of_ble_eq_true rfl)
  rw [lg_entry_eq]
  generalize (lg_sl ([.ref (q 0), .int p1]) ++ List.replicate (3 - (lg_sl ([.ref (q 0), .int p1])).length) Slot.unset).toArray = ls at hl ⊢
  have hl : lv_has ls 3 [(0, .ref (q 0)), (1, .int p1)] := hl
  have hk10 := hts (.fieldLink RX8 10 "LyndonText" "text" "LLyndonText$Letters;") (by decide +kernel)
  have hk40 := hts (.fieldLink RX8 40 "LyndonText" "suffixRow" "LLyndonText$Suffixes;") (by decide +kernel)
  have huX8 : ∀ w ∈ u_ws RX8 TX8 6, w ∈ wsX8_suffixAt := by decide +kernel
  have J55 : ∀ (Ua : (Nat → Int32)) (x2 : Int32), fX8_suffixAt_J55 N Tn Ta Ua x2 = some (.inl (e0, Ua9)) → ∀ (H : Heap) (locs : List Loc), va_P D vwCl (w_0_1_2_11_12 q cI cJ cD Tn Ta Ua) H → va_S (gA q [0, 1, 2, 11, 12]) s.heap H locs → ∀ ls : Array Slot, lv_has ls 3 [(2, .int x2)] → W p l e (headSpec wsX8_suffixAt rX8_suffixAtx).room s m ([.ref (q 0), .int p1] : List Value).toArray below meth c H locs 0 0 (vx_MQ below (fun _ _ _ _ => False) (gX D (gEn e0) (w_0_1_2_11_12 q cI cJ cD Tn Ta Ua9) (gA q [0, 1, 2, 11, 12])) ([.ref (q 0), .int p1] : List Value).toArray s 1 6 (gA q [0, 1, 2, 11, 12])) (F0 m 55 ls []) := by
    intro Ua x2 hf H locs hP hS ls hl
    unfold fX8_suffixAt_J55 at hf
    refine lv_iload_n hx hb dX8_suffixAt_55 rfl (lv_at hl 0 rfl) ?_
    exact nomatch hf
  have K24 : ∀ (n24 : Nat) (Ua : (Nat → Int32)) (x1 : Int32) (x2 : Int32), fX8_suffixAt_H24 N Tn Ta n24 Ua x1 x2 = some (.inl (e0, Ua9)) → ∀ (H : Heap) (locs : List Loc), va_P D vwCl (w_0_1_2_11_12 q cI cJ cD Tn Ta Ua) H → va_S (gA q [0, 1, 2, 11, 12]) s.heap H locs → ∀ ls : Array Slot, lv_has ls 3 [(0, .ref (q 0)), (1, .int x1), (2, .int x2)] → W p l e (headSpec wsX8_suffixAt rX8_suffixAtx).room s m ([.ref (q 0), .int p1] : List Value).toArray below meth c H locs 0 0 (vx_MQ below (fun _ _ _ _ => False) (gX D (gEn e0) (w_0_1_2_11_12 q cI cJ cD Tn Ta Ua9) (gA q [0, 1, 2, 11, 12])) ([.ref (q 0), .int p1] : List Value).toArray s 1 6 (gA q [0, 1, 2, 11, 12])) (F0 m 24 ls []) := by
    intro n24
    induction n24 with
    | zero =>
      intro Ua x1 x2 hf
      exact nomatch (show (none : Option ((Nat × (Nat → Int32)) ⊕ (Int32 × (Nat → Int32)))) = some (.inl (e0, Ua9)) from hf)
    | succ n24 ih24 =>
      intro Ua x1 x2 hf H locs hP hS ls hl
      have hf : fX8_suffixAt_B24 N Tn Ta (fX8_suffixAt_H24 N Tn Ta n24) Ua x1 x2 = some (.inl (e0, Ua9)) := hf
      unfold fX8_suffixAt_B24 at hf
      refine lv_iload_n hx hb dX8_suffixAt_24 rfl (lv_at hl 2 rfl) ?_
      refine lv_aload_n hx hb dX8_suffixAt_25 rfl (lv_at hl 0 rfl) ?_
      refine va_get (D := D) (ci := 6) (v := .ref (q 1)) (C := RX8) (T := TX8) (N := 6) hx hb hts huX8 hown hE.1 hP 0 rfl rfl 0 (by decide) hk10 (fun _ h9 => h9) rfl dX8_suffixAt_26 ?_
      obtain ⟨r29, hc, hf⟩ := bn_some hf
      try dsimp only at hf
      refine g_call0 (ws' := (w_0_1_2_11_12 q cI cJ cD Tn Ta Ua)) (st1 := [.int r29, .int x2]) hq [0, 1, 2, 11, 12] [1] [.inr 0, .inl 0, .inr 2, .inr 3, .inr 4] (va_runV (As := []) (rest := [.int x2]) ⟨hx, hb, hml, hown, hts⟩ (kX2_count l D cI cJ cD q hq N Tn r29 hc) (cwV 0 hts gX8_suffixAt_X2_count rfl rfl rfl (by decide +kernel) ⟨(Nat.le_of_ble_eq_true rfl), (Nat.le_of_ble_eq_true rfl)⟩) ⟨gP_blind, va_recv hE.1 hP (ci := 2) (q0 := 1) rfl rfl, fun U hU hW => ⟨rfl, by rw [hU]; exact hP.sub (ws' := (w_1 q cI cJ cD Tn)) [1] rfl, gEv.warm hW hE⟩⟩ rfl rfl hl.1 rfl (lv_room (Nat.le_of_ble_eq_true rfl)) dX8_suffixAt_29 ⟨Nat.zero_le _, Nat.zero_le _⟩) hP hS (gSub rfl) rfl rfl rfl rfl rfl (fun H locs hP hS => ?_)
      refine lv_iconst (v := (1 : Int32)) hx hb dX8_suffixAt_32 (by decide) ?_
      refine lv_isub hx hb dX8_suffixAt_33 ?_
      refine lv_icmp_ge (tgt := 55) hx hb dX8_suffixAt_34 (by decide) (fun c_1 => ?_) (fun c_1 => ?_)
      · have hf := (if_pos c_1).symm.trans hf
        exact J55 Ua x2 hf _ _ hP hS _ (lv_sub hl [2] rfl)
      · have hf := (if_neg c_1).symm.trans hf
        refine lv_aload_n hx hb dX8_suffixAt_37 rfl (lv_at hl 0 rfl) ?_
        refine va_get (D := D) (ci := 6) (v := .ref (q 11)) (C := RX8) (T := TX8) (N := 6) hx hb hts huX8 hown hE.1 hP 0 rfl rfl 4 (by decide) hk40 (fun _ h9 => h9) rfl dX8_suffixAt_38 ?_
        refine lv_iload_n hx hb dX8_suffixAt_41 rfl (lv_at hl 2 rfl) ?_
        obtain ⟨r42, hc, hf⟩ := bn_some hf
        try dsimp only at hf
        refine g_call0 (ws' := (w_0_1_2_11_12 q cI cJ cD Tn Ta Ua)) (st1 := [.int r42]) hq [0, 1, 2, 11, 12] [11, 12] [.inr 0, .inr 1, .inr 2, .inl 0, .inl 1] (va_runV (As := [.int x2]) (rest := []) ⟨hx, hb, hml, hown, hts⟩ (kX7_rank l D cI cJ cD q hq N Ua x2 r42 hc) (cwV 1 hts gX8_suffixAt_X7_rank rfl rfl rfl (by decide +kernel) ⟨(Nat.le_of_ble_eq_true rfl), (Nat.le_of_ble_eq_true rfl)⟩) ⟨gP_blind, va_recv hE.1 hP (ci := 5) (q0 := 3) rfl rfl, fun U hU hW => ⟨rfl, by rw [hU]; exact hP.sub (ws' := (w_11_12 q cI cJ cD Ua)) [3, 4] rfl, gEv.warm hW hE⟩⟩ rfl rfl hl.1 rfl (lv_room (Nat.le_of_ble_eq_true rfl)) dX8_suffixAt_42 ⟨Nat.zero_le _, Nat.zero_le _⟩) hP hS (gSub rfl) rfl rfl rfl rfl rfl (fun H locs hP hS => ?_)
        refine lv_iload_n hx hb dX8_suffixAt_45 rfl (lv_at hl 1 rfl) ?_
        refine lv_icmp_eq (tgt := 55) hx hb dX8_suffixAt_46 (by decide) (fun c_2 => ?_) (fun c_2 => ?_)
        · have hf := (if_pos c_2).symm.trans hf
          exact J55 Ua x2 hf _ _ hP hS _ (lv_sub hl [2] rfl)
        · have hf := (if_neg c_2).symm.trans hf
          refine lv_iinc (v := (x2 + 1)) (lv' := [(2, .int (x2 + 1)), (0, .ref (q 0)), (1, .int x1)]) hx hb dX8_suffixAt_49 hl (k := 2) rfl rfl (by decide) rfl (fun ls hl => ?_)
          refine lv_goto (tgt := 24) hx hb dX8_suffixAt_52 (by decide) ?_
          exact ih24 Ua x1 (x2 + 1) hf _ _ hP hS _ (lv_sub hl [1, 2, 0] rfl)
  unfold fX8_suffixAt at hf
  refine lv_iload_n hx hb dX8_suffixAt_0 rfl (lv_at hl 1 rfl) ?_
  refine lv_aload_n hx hb dX8_suffixAt_1 rfl (lv_at hl 0 rfl) ?_
  refine va_get (D := D) (ci := 6) (v := .ref (q 1)) (C := RX8) (T := TX8) (N := 6) hx hb hts huX8 hown hE.1 hP 0 rfl rfl 0 (by decide) hk10 (fun _ h9 => h9) rfl dX8_suffixAt_2 ?_
  obtain ⟨r5, hc, hf⟩ := bn_some hf
  try dsimp only at hf
  refine g_call0 (ws' := (w_0_1_2_11_12 q cI cJ cD Tn Ta Ua)) (st1 := [.int r5, .int p1]) hq [0, 1, 2, 11, 12] [1] [.inr 0, .inl 0, .inr 2, .inr 3, .inr 4] (va_runV (As := []) (rest := [.int p1]) ⟨hx, hb, hml, hown, hts⟩ (kX2_count l D cI cJ cD q hq N Tn r5 hc) (cwV 0 hts gX8_suffixAt_X2_count rfl rfl rfl (by decide +kernel) ⟨(Nat.le_of_ble_eq_true rfl), (Nat.le_of_ble_eq_true rfl)⟩) ⟨gP_blind, va_recv hE.1 hP (ci := 2) (q0 := 1) rfl rfl, fun U hU hW => ⟨rfl, by rw [hU]; exact hP.sub (ws' := (w_1 q cI cJ cD Tn)) [1] rfl, gEv.warm hW hE⟩⟩ rfl rfl hl.1 rfl (lv_room (Nat.le_of_ble_eq_true rfl)) dX8_suffixAt_5 ⟨Nat.zero_le _, Nat.zero_le _⟩) hP hS (gSub rfl) rfl rfl rfl rfl rfl (fun H locs hP hS => ?_)
  rcases bx_some hf with ⟨e8, hc, hf⟩ | ⟨⟨⟩, hc, hf⟩
  · try dsimp only at hf
    refine g_callX (ws' := (w_0_1_2_11_12 q cI cJ cD Tn Ta Ua)) hq [0, 1, 2, 11, 12] [] [.inr 0, .inr 1, .inr 2, .inr 3, .inr 4] (vx_runS (As := [.int p1, .int r5]) (rest := []) ⟨hx, hb, hml, hown, hts⟩ (kX8_checkIndexx l hlt D cI cJ cD sa q hq N p1 r5 e8 hc) (va_cwS 2 hts gX8_suffixAt_X8_checkIndex rfl rfl rfl (by decide +kernel) ⟨(Nat.le_of_ble_eq_true rfl), (Nat.le_of_ble_eq_true rfl)⟩) ⟨gPx_blind, fun U hU hW => ⟨rfl, by rw [hU]; exact hP.sub (ws' := (w_0none q cI cJ cD)) [] rfl, gEv.warm hW hE, gXe.go hW hS (gMono rfl) hXe hU⟩⟩ rfl rfl hl.1 rfl (lv_room (Nat.le_of_ble_eq_true rfl)) dX8_suffixAt_8 ⟨(Nat.le_of_ble_eq_true rfl), (Nat.le_of_ble_eq_true rfl)⟩) hP hS (gSub rfl) rfl rfl rfl rfl (fun ce q9 H locs hP hS hce hcv hcl => ?_)
    cases hf
    exact vx_out (fun x9 hx9 => (htab x9 hx9).elim) hlocks hce hcv hcl (fun t ht hv => ⟨rfl, by rw [ht]; exact hP, hS.F ht⟩) hS.2.2 (Nat.le_of_ble_eq_true rfl) (Nat.le_of_ble_eq_true rfl)
  try dsimp only at hf
  refine g_call0 (ws' := (w_0_1_2_11_12 q cI cJ cD Tn Ta Ua)) (st1 := []) hq [0, 1, 2, 11, 12] [] [.inr 0, .inr 1, .inr 2, .inr 3, .inr 4] (va_runS (As := [.int p1, .int r5]) (rest := []) ⟨hx, hb, hml, hown, hts⟩ (kX8_checkIndex l D cI cJ cD q hq N p1 r5 hc) (va_cwS 2 hts gX8_suffixAt_X8_checkIndex rfl rfl rfl (by decide +kernel) ⟨(Nat.le_of_ble_eq_true rfl), (Nat.le_of_ble_eq_true rfl)⟩) ⟨gP_blind, fun U hU hW => ⟨rfl, by rw [hU]; exact hP.sub (ws' := (w_0none q cI cJ cD)) [] rfl, gEv.warm hW hE⟩⟩ rfl rfl hl.1 rfl (lv_room (Nat.le_of_ble_eq_true rfl)) dX8_suffixAt_8 ⟨Nat.zero_le _, Nat.zero_le _⟩) hP hS (gSub rfl) rfl rfl rfl rfl rfl (fun H locs hP hS => ?_)
  refine lv_aload_n hx hb dX8_suffixAt_11 rfl (lv_at hl 0 rfl) ?_
  refine va_get (D := D) (ci := 6) (v := .ref (q 11)) (C := RX8) (T := TX8) (N := 6) hx hb hts huX8 hown hE.1 hP 0 rfl rfl 4 (by decide) hk40 (fun _ h9 => h9) rfl dX8_suffixAt_12 ?_
  refine lv_aload_n hx hb dX8_suffixAt_15 rfl (lv_at hl 0 rfl) ?_
  refine va_get (D := D) (ci := 6) (v := .ref (q 1)) (C := RX8) (T := TX8) (N := 6) hx hb hts huX8 hown hE.1 hP 0 rfl rfl 0 (by decide) hk10 (fun _ h9 => h9) rfl dX8_suffixAt_16 ?_
  obtain ⟨Ua19, hc, hf⟩ := bn_some hf
  try dsimp only at hf
  refine g_call0 (ws' := (w_0_1_2_11_12 q cI cJ cD Tn Ta Ua19)) (st1 := []) hq [0, 1, 2, 11, 12] [1, 2, 11, 12] [.inr 0, .inl 0, .inl 1, .inl 2, .inl 3] (va_runV (As := [.ref (q 1)]) (rest := []) ⟨hx, hb, hml, hown, hts⟩ (kX7_find l D cI cJ cD q hq N Tn Ta Ua Ua19 hc) (cwV 1 hts gX8_suffixAt_X7_find rfl rfl rfl (by decide +kernel) ⟨(Nat.le_of_ble_eq_true rfl), (Nat.le_of_ble_eq_true rfl)⟩) ⟨gP_blind, va_recv hE.1 hP (ci := 5) (q0 := 3) rfl rfl, fun U hU hW => ⟨rfl, by rw [hU]; exact hP.sub (ws' := (w_1_2_11_12 q cI cJ cD Tn Ta Ua)) [1, 2, 3, 4] rfl, gEv.warm hW hE⟩⟩ rfl rfl hl.1 rfl (lv_room (Nat.le_of_ble_eq_true rfl)) dX8_suffixAt_19 ⟨Nat.zero_le _, Nat.zero_le _⟩) hP hS (gSub rfl) rfl rfl rfl rfl rfl (fun H locs hP hS => ?_)
  refine lv_iconst (v := (0 : Int32)) hx hb dX8_suffixAt_22 (by decide) ?_
  refine lv_istore_n (lv' := [(2, .int (0 : Int32)), (0, .ref (q 0)), (1, .int p1)]) hx hb dX8_suffixAt_23 rfl hl (by decide) rfl (fun ls hl => ?_)
  exact K24 N Ua19 p1 (0 : Int32) hf _ _ hP hS _ (lv_sub hl [1, 2, 0] rfl)
set_option maxHeartbeats 4000000 in
set_option maxRecDepth 100000 in
theorem kX8_rankOf (l : Launch) (D : va_G) (cI cJ cD : ClassId) (q : Nat → Nat) (hq : gInj 14 q) (N : Nat) (Tn : Int32) (Ta : (Nat → Int32)) (Ua : (Nat → Int32)) (p1 : Int32) (r0 : Int32) (Ua9 : (Nat → Int32)) (hf : fX8_rankOf N Tn Ta Ua p1 = some (.inr (r0, Ua9))) : Met l yX8_rankOf wsX8_rankOf rX8_rankOf (gP D cI cJ cD [.ref (q 0), .int p1] (w_0_1_2_11_12 q cI cJ cD Tn Ta Ua)) (gQ D (some (.int r0)) (w_0_1_2_11_12 q cI cJ cD Tn Ta Ua9) (gA q [0, 1, 2, 11, 12])) 0 0 (gA q [0, 1, 2, 11, 12]) := by
  refine Met.ofW (cc := cX8_rankOf) (maxL := 2) (ret := (some .int)) (by decide +kernel) rfl ?_
  intro p e s m args below meth c s₁ B hml hv
  obtain ⟨rfl, hP, hE⟩ := hv
  have hx := B.exec
  have hb := B.bytes
  have hr := B.returns
  have hts := atoms_spec (ws := wsX8_rankOf) B.pre
  have hown : s.vm.findClass RX8 = some m.cls := findClass_of_methodNamed B.named
  have hlocks := B.notSynchronized
  have hS : va_S (gA q [0, 1, 2, 11, 12]) s.heap s.heap [] := va_S.rf
  have hl := lv_entry ([.ref (q 0), .int p1]) (n := 2) (Nat.le_of_ble_eq_true rfl)
  rw [lg_entry_eq]
  generalize (lg_sl ([.ref (q 0), .int p1]) ++ List.replicate (2 - (lg_sl ([.ref (q 0), .int p1])).length) Slot.unset).toArray = ls at hl ⊢
  have hl : lv_has ls 2 [(0, .ref (q 0)), (1, .int p1)] := hl
  have hk10 := hts (.fieldLink RX8 10 "LyndonText" "text" "LLyndonText$Letters;") (by decide +kernel)
  have hk40 := hts (.fieldLink RX8 40 "LyndonText" "suffixRow" "LLyndonText$Suffixes;") (by decide +kernel)
  have huX8 : ∀ w ∈ u_ws RX8 TX8 6, w ∈ wsX8_rankOf := by decide +kernel
  unfold fX8_rankOf at hf
  refine lv_iload_n hx hb dX8_rankOf_0 rfl (lv_at hl 1 rfl) ?_
  refine lv_aload_n hx hb dX8_rankOf_1 rfl (lv_at hl 0 rfl) ?_
  refine va_get (D := D) (ci := 6) (v := .ref (q 1)) (C := RX8) (T := TX8) (N := 6) hx hb hts huX8 hown hE.1 hP 0 rfl rfl 0 (by decide) hk10 (fun _ h9 => h9) rfl dX8_rankOf_2 ?_
  obtain ⟨r5, hc, hf⟩ := bn_some hf
  try dsimp only at hf
  refine g_call0 (ws' := (w_0_1_2_11_12 q cI cJ cD Tn Ta Ua)) (st1 := [.int r5, .int p1]) hq [0, 1, 2, 11, 12] [1] [.inr 0, .inl 0, .inr 2, .inr 3, .inr 4] (va_runV (As := []) (rest := [.int p1]) ⟨hx, hb, hml, hown, hts⟩ (kX2_count l D cI cJ cD q hq N Tn r5 hc) (cwV 0 hts gX8_rankOf_X2_count rfl rfl rfl (by decide +kernel) ⟨(Nat.le_of_ble_eq_true rfl), (Nat.le_of_ble_eq_true rfl)⟩) ⟨gP_blind, va_recv hE.1 hP (ci := 2) (q0 := 1) rfl rfl, fun U hU hW => ⟨rfl, by rw [hU]; exact hP.sub (ws' := (w_1 q cI cJ cD Tn)) [1] rfl, gEv.warm hW hE⟩⟩ rfl rfl hl.1 rfl (lv_room (Nat.le_of_ble_eq_true rfl)) dX8_rankOf_5 ⟨Nat.zero_le _, Nat.zero_le _⟩) hP hS (gSub rfl) rfl rfl rfl rfl rfl (fun H locs hP hS => ?_)
  rcases bx_some hf with ⟨e8, hc, hf⟩ | ⟨⟨⟩, hc, hf⟩
  · exact nomatch hf
  try dsimp only at hf
  refine g_call0 (ws' := (w_0_1_2_11_12 q cI cJ cD Tn Ta Ua)) (st1 := []) hq [0, 1, 2, 11, 12] [] [.inr 0, .inr 1, .inr 2, .inr 3, .inr 4] (va_runS (As := [.int p1, .int r5]) (rest := []) ⟨hx, hb, hml, hown, hts⟩ (kX8_checkIndex l D cI cJ cD q hq N p1 r5 hc) (va_cwS 2 hts gX8_rankOf_X8_checkIndex rfl rfl rfl (by decide +kernel) ⟨(Nat.le_of_ble_eq_true rfl), (Nat.le_of_ble_eq_true rfl)⟩) ⟨gP_blind, fun U hU hW => ⟨rfl, by rw [hU]; exact hP.sub (ws' := (w_0none q cI cJ cD)) [] rfl, gEv.warm hW hE⟩⟩ rfl rfl hl.1 rfl (lv_room (Nat.le_of_ble_eq_true rfl)) dX8_rankOf_8 ⟨Nat.zero_le _, Nat.zero_le _⟩) hP hS (gSub rfl) rfl rfl rfl rfl rfl (fun H locs hP hS => ?_)
  refine lv_aload_n hx hb dX8_rankOf_11 rfl (lv_at hl 0 rfl) ?_
  refine va_get (D := D) (ci := 6) (v := .ref (q 11)) (C := RX8) (T := TX8) (N := 6) hx hb hts huX8 hown hE.1 hP 0 rfl rfl 4 (by decide) hk40 (fun _ h9 => h9) rfl dX8_rankOf_12 ?_
  refine lv_aload_n hx hb dX8_rankOf_15 rfl (lv_at hl 0 rfl) ?_
  refine va_get (D := D) (ci := 6) (v := .ref (q 1)) (C := RX8) (T := TX8) (N := 6) hx hb hts huX8 hown hE.1 hP 0 rfl rfl 0 (by decide) hk10 (fun _ h9 => h9) rfl dX8_rankOf_16 ?_
  obtain ⟨Ua19, hc, hf⟩ := bn_some hf
  try dsimp only at hf
  refine g_call0 (ws' := (w_0_1_2_11_12 q cI cJ cD Tn Ta Ua19)) (st1 := []) hq [0, 1, 2, 11, 12] [1, 2, 11, 12] [.inr 0, .inl 0, .inl 1, .inl 2, .inl 3] (va_runV (As := [.ref (q 1)]) (rest := []) ⟨hx, hb, hml, hown, hts⟩ (kX7_find l D cI cJ cD q hq N Tn Ta Ua Ua19 hc) (cwV 1 hts gX8_rankOf_X7_find rfl rfl rfl (by decide +kernel) ⟨(Nat.le_of_ble_eq_true rfl), (Nat.le_of_ble_eq_true rfl)⟩) ⟨gP_blind, va_recv hE.1 hP (ci := 5) (q0 := 3) rfl rfl, fun U hU hW => ⟨rfl, by rw [hU]; exact hP.sub (ws' := (w_1_2_11_12 q cI cJ cD Tn Ta Ua)) [1, 2, 3, 4] rfl, gEv.warm hW hE⟩⟩ rfl rfl hl.1 rfl (lv_room (Nat.le_of_ble_eq_true rfl)) dX8_rankOf_19 ⟨Nat.zero_le _, Nat.zero_le _⟩) hP hS (gSub rfl) rfl rfl rfl rfl rfl (fun H locs hP hS => ?_)
  refine lv_aload_n hx hb dX8_rankOf_22 rfl (lv_at hl 0 rfl) ?_
  refine va_get (D := D) (ci := 6) (v := .ref (q 11)) (C := RX8) (T := TX8) (N := 6) hx hb hts huX8 hown hE.1 hP 0 rfl rfl 4 (by decide) hk40 (fun _ h9 => h9) rfl dX8_rankOf_23 ?_
  refine lv_iload_n hx hb dX8_rankOf_26 rfl (lv_at hl 1 rfl) ?_
  obtain ⟨r27, hc, hf⟩ := bn_some hf
  try dsimp only at hf
  refine g_call0 (ws' := (w_0_1_2_11_12 q cI cJ cD Tn Ta Ua19)) (st1 := [.int r27]) hq [0, 1, 2, 11, 12] [11, 12] [.inr 0, .inr 1, .inr 2, .inl 0, .inl 1] (va_runV (As := [.int p1]) (rest := []) ⟨hx, hb, hml, hown, hts⟩ (kX7_rank l D cI cJ cD q hq N Ua19 p1 r27 hc) (cwV 1 hts gX8_rankOf_X7_rank rfl rfl rfl (by decide +kernel) ⟨(Nat.le_of_ble_eq_true rfl), (Nat.le_of_ble_eq_true rfl)⟩) ⟨gP_blind, va_recv hE.1 hP (ci := 5) (q0 := 3) rfl rfl, fun U hU hW => ⟨rfl, by rw [hU]; exact hP.sub (ws' := (w_11_12 q cI cJ cD Ua19)) [3, 4] rfl, gEv.warm hW hE⟩⟩ rfl rfl hl.1 rfl (lv_room (Nat.le_of_ble_eq_true rfl)) dX8_rankOf_27 ⟨Nat.zero_le _, Nat.zero_le _⟩) hP hS (gSub rfl) rfl rfl rfl rfl rfl (fun H locs hP hS => ?_)
  cases hf
  exact W.iret hx hb hr (fun t ht hW => ⟨⟨rfl, by rw [ht]; exact hP⟩, hS.F ht⟩) hS.2.2 dX8_rankOf_30
set_option maxHeartbeats 4000000 in
set_option maxRecDepth 100000 in
theorem kX8_rankOfx (l : Launch) (hlt : l.stackTraces = false) (D : va_G) (cI cJ cD : ClassId) (sa : Nat → Nat) (q : Nat → Nat) (hq : gInj 14 q) (N : Nat) (Tn : Int32) (Ta : (Nat → Int32)) (Ua : (Nat → Int32)) (p1 : Int32) (e0 : Nat) (Ua9 : (Nat → Int32)) (hf : fX8_rankOf N Tn Ta Ua p1 = some (.inl (e0, Ua9))) : vx_Met l yX8_rankOf wsX8_rankOf rX8_rankOfx (gPx D cI cJ cD sa (gA q [0, 1, 2, 11, 12]) [.ref (q 0), .int p1] (w_0_1_2_11_12 q cI cJ cD Tn Ta Ua)) (fun _ _ _ _ => False) (gX D (gEn e0) (w_0_1_2_11_12 q cI cJ cD Tn Ta Ua9) (gA q [0, 1, 2, 11, 12])) 1 6 (gA q [0, 1, 2, 11, 12]) := by
  refine vx_ofW (cc := cX8_rankOf) (maxL := 2) (ret := (some .int)) (by decide +kernel) rfl ?_
  intro p e s m args below meth c s₁ B hml htab hv
  obtain ⟨rfl, hP, hE, hXe⟩ := hv
  have hx := B.exec
  have hb := B.bytes
  have hr := B.returns
  have hts := atoms_spec (ws := wsX8_rankOf) B.pre
  have hown : s.vm.findClass RX8 = some m.cls := findClass_of_methodNamed B.named
  have hlocks := B.notSynchronized
  have hS : va_S (gA q [0, 1, 2, 11, 12]) s.heap s.heap [] := va_S.rf
  have hl := lv_entry ([.ref (q 0), .int p1]) (n := 2) (Nat.le_of_ble_eq_true rfl)
  rw [lg_entry_eq]
  generalize (lg_sl ([.ref (q 0), .int p1]) ++ List.replicate (2 - (lg_sl ([.ref (q 0), .int p1])).length) Slot.unset).toArray = ls at hl ⊢
  have hl : lv_has ls 2 [(0, .ref (q 0)), (1, .int p1)] := hl
  have hk10 := hts (.fieldLink RX8 10 "LyndonText" "text" "LLyndonText$Letters;") (by decide +kernel)
  have hk40 := hts (.fieldLink RX8 40 "LyndonText" "suffixRow" "LLyndonText$Suffixes;") (by decide +kernel)
  have huX8 : ∀ w ∈ u_ws RX8 TX8 6, w ∈ wsX8_rankOf := by decide +kernel
  unfold fX8_rankOf at hf
  refine lv_iload_n hx hb dX8_rankOf_0 rfl (lv_at hl 1 rfl) ?_
  refine lv_aload_n hx hb dX8_rankOf_1 rfl (lv_at hl 0 rfl) ?_
  refine va_get (D := D) (ci := 6) (v := .ref (q 1)) (C := RX8) (T := TX8) (N := 6) hx hb hts huX8 hown hE.1 hP 0 rfl rfl 0 (by decide) hk10 (fun _ h9 => h9) rfl dX8_rankOf_2 ?_
  obtain ⟨r5, hc, hf⟩ := bn_some hf
  try dsimp only at hf
  refine g_call0 (ws' := (w_0_1_2_11_12 q cI cJ cD Tn Ta Ua)) (st1 := [.int r5, .int p1]) hq [0, 1, 2, 11, 12] [1] [.inr 0, .inl 0, .inr 2, .inr 3, .inr 4] (va_runV (As := []) (rest := [.int p1]) ⟨hx, hb, hml, hown, hts⟩ (kX2_count l D cI cJ cD q hq N Tn r5 hc) (cwV 0 hts gX8_rankOf_X2_count rfl rfl rfl (by decide +kernel) ⟨(Nat.le_of_ble_eq_true rfl), (Nat.le_of_ble_eq_true rfl)⟩) ⟨gP_blind, va_recv hE.1 hP (ci := 2) (q0 := 1) rfl rfl, fun U hU hW => ⟨rfl, by rw [hU]; exact hP.sub (ws' := (w_1 q cI cJ cD Tn)) [1] rfl, gEv.warm hW hE⟩⟩ rfl rfl hl.1 rfl (lv_room (Nat.le_of_ble_eq_true rfl)) dX8_rankOf_5 ⟨Nat.zero_le _, Nat.zero_le _⟩) hP hS (gSub rfl) rfl rfl rfl rfl rfl (fun H locs hP hS => ?_)
  rcases bx_some hf with ⟨e8, hc, hf⟩ | ⟨⟨⟩, hc, hf⟩
  · try dsimp only at hf
    refine g_callX (ws' := (w_0_1_2_11_12 q cI cJ cD Tn Ta Ua)) hq [0, 1, 2, 11, 12] [] [.inr 0, .inr 1, .inr 2, .inr 3, .inr 4] (vx_runS (As := [.int p1, .int r5]) (rest := []) ⟨hx, hb, hml, hown, hts⟩ (kX8_checkIndexx l hlt D cI cJ cD sa q hq N p1 r5 e8 hc) (va_cwS 2 hts gX8_rankOf_X8_checkIndex rfl rfl rfl (by decide +kernel) ⟨(Nat.le_of_ble_eq_true rfl), (Nat.le_of_ble_eq_true rfl)⟩) ⟨gPx_blind, fun U hU hW => ⟨rfl, by rw [hU]; exact hP.sub (ws' := (w_0none q cI cJ cD)) [] rfl, gEv.warm hW hE, gXe.go hW hS (gMono rfl) hXe hU⟩⟩ rfl rfl hl.1 rfl (lv_room (Nat.le_of_ble_eq_true rfl)) dX8_rankOf_8 ⟨(Nat.le_of_ble_eq_true rfl), (Nat.le_of_ble_eq_true rfl)⟩) hP hS (gSub rfl) rfl rfl rfl rfl (fun ce q9 H locs hP hS hce hcv hcl => ?_)
    cases hf
    exact vx_out (fun x9 hx9 => (htab x9 hx9).elim) hlocks hce hcv hcl (fun t ht hv => ⟨rfl, by rw [ht]; exact hP, hS.F ht⟩) hS.2.2 (Nat.le_of_ble_eq_true rfl) (Nat.le_of_ble_eq_true rfl)
  try dsimp only at hf
  refine g_call0 (ws' := (w_0_1_2_11_12 q cI cJ cD Tn Ta Ua)) (st1 := []) hq [0, 1, 2, 11, 12] [] [.inr 0, .inr 1, .inr 2, .inr 3, .inr 4] (va_runS (As := [.int p1, .int r5]) (rest := []) ⟨hx, hb, hml, hown, hts⟩ (kX8_checkIndex l D cI cJ cD q hq N p1 r5 hc) (va_cwS 2 hts gX8_rankOf_X8_checkIndex rfl rfl rfl (by decide +kernel) ⟨(Nat.le_of_ble_eq_true rfl), (Nat.le_of_ble_eq_true rfl)⟩) ⟨gP_blind, fun U hU hW => ⟨rfl, by rw [hU]; exact hP.sub (ws' := (w_0none q cI cJ cD)) [] rfl, gEv.warm hW hE⟩⟩ rfl rfl hl.1 rfl (lv_room (Nat.le_of_ble_eq_true rfl)) dX8_rankOf_8 ⟨Nat.zero_le _, Nat.zero_le _⟩) hP hS (gSub rfl) rfl rfl rfl rfl rfl (fun H locs hP hS => ?_)
  refine lv_aload_n hx hb dX8_rankOf_11 rfl (lv_at hl 0 rfl) ?_
  refine va_get (D := D) (ci := 6) (v := .ref (q 11)) (C := RX8) (T := TX8) (N := 6) hx hb hts huX8 hown hE.1 hP 0 rfl rfl 4 (by decide) hk40 (fun _ h9 => h9) rfl dX8_rankOf_12 ?_
  refine lv_aload_n hx hb dX8_rankOf_15 rfl (lv_at hl 0 rfl) ?_
  refine va_get (D := D) (ci := 6) (v := .ref (q 1)) (C := RX8) (T := TX8) (N := 6) hx hb hts huX8 hown hE.1 hP 0 rfl rfl 0 (by decide) hk10 (fun _ h9 => h9) rfl dX8_rankOf_16 ?_
  obtain ⟨Ua19, hc, hf⟩ := bn_some hf
  try dsimp only at hf
  refine g_call0 (ws' := (w_0_1_2_11_12 q cI cJ cD Tn Ta Ua19)) (st1 := []) hq [0, 1, 2, 11, 12] [1, 2, 11, 12] [.inr 0, .inl 0, .inl 1, .inl 2, .inl 3] (va_runV (As := [.ref (q 1)]) (rest := []) ⟨hx, hb, hml, hown, hts⟩ (kX7_find l D cI cJ cD q hq N Tn Ta Ua Ua19 hc) (cwV 1 hts gX8_rankOf_X7_find rfl rfl rfl (by decide +kernel) ⟨(Nat.le_of_ble_eq_true rfl), (Nat.le_of_ble_eq_true rfl)⟩) ⟨gP_blind, va_recv hE.1 hP (ci := 5) (q0 := 3) rfl rfl, fun U hU hW => ⟨rfl, by rw [hU]; exact hP.sub (ws' := (w_1_2_11_12 q cI cJ cD Tn Ta Ua)) [1, 2, 3, 4] rfl, gEv.warm hW hE⟩⟩ rfl rfl hl.1 rfl (lv_room (Nat.le_of_ble_eq_true rfl)) dX8_rankOf_19 ⟨Nat.zero_le _, Nat.zero_le _⟩) hP hS (gSub rfl) rfl rfl rfl rfl rfl (fun H locs hP hS => ?_)
  refine lv_aload_n hx hb dX8_rankOf_22 rfl (lv_at hl 0 rfl) ?_
  refine va_get (D := D) (ci := 6) (v := .ref (q 11)) (C := RX8) (T := TX8) (N := 6) hx hb hts huX8 hown hE.1 hP 0 rfl rfl 4 (by decide) hk40 (fun _ h9 => h9) rfl dX8_rankOf_23 ?_
  refine lv_iload_n hx hb dX8_rankOf_26 rfl (lv_at hl 1 rfl) ?_
  obtain ⟨r27, hc, hf⟩ := bn_some hf
  try dsimp only at hf
  refine g_call0 (ws' := (w_0_1_2_11_12 q cI cJ cD Tn Ta Ua19)) (st1 := [.int r27]) hq [0, 1, 2, 11, 12] [11, 12] [.inr 0, .inr 1, .inr 2, .inl 0, .inl 1] (va_runV (As := [.int p1]) (rest := []) ⟨hx, hb, hml, hown, hts⟩ (kX7_rank l D cI cJ cD q hq N Ua19 p1 r27 hc) (cwV 1 hts gX8_rankOf_X7_rank rfl rfl rfl (by decide +kernel) ⟨(Nat.le_of_ble_eq_true rfl), (Nat.le_of_ble_eq_true rfl)⟩) ⟨gP_blind, va_recv hE.1 hP (ci := 5) (q0 := 3) rfl rfl, fun U hU hW => ⟨rfl, by rw [hU]; exact hP.sub (ws' := (w_11_12 q cI cJ cD Ua19)) [3, 4] rfl, gEv.warm hW hE⟩⟩ rfl rfl hl.1 rfl (lv_room (Nat.le_of_ble_eq_true rfl)) dX8_rankOf_27 ⟨Nat.zero_le _, Nat.zero_le _⟩) hP hS (gSub rfl) rfl rfl rfl rfl rfl (fun H locs hP hS => ?_)
  exact nomatch hf
