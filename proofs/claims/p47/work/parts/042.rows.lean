set_option maxHeartbeats 4000000 in
set_option maxRecDepth 100000 in
theorem kX8_checkRoom (l : Launch) (D : va_G) (cI cJ cD : ClassId) (q : Nat → Nat) (hq : gInj 14 q) (N : Nat) (Tn : Int32) (p1 : Int32) (hf : fX8_checkRoom N Tn p1 = some (.inr ())) : Met l yX8_checkRoom wsX8_checkRoom rX8_checkRoom (gP D cI cJ cD [.ref (q 0), .int p1] (w_0_1 q cI cJ cD Tn)) (gQ D none (w_0_1 q cI cJ cD Tn) (gA q [0, 1])) 0 0 (gA q [0, 1]) := by
  refine Met.ofW (cc := cX8_checkRoom) (maxL := 2) (ret := none) (by decide +kernel) rfl ?_
  intro p e s m args below meth c s₁ B hml hv
  obtain ⟨rfl, hP, hE⟩ := hv
  have hx := B.exec
  have hb := B.bytes
  have hr := B.returns
  have hts := atoms_spec (ws := wsX8_checkRoom) B.pre
  have hown : s.vm.findClass RX8 = some m.cls := findClass_of_methodNamed B.named
  have hlocks := B.notSynchronized
  have hS : va_S (gA q [0, 1]) s.heap s.heap [] := va_S.rf
  have hl := lv_entry ([.ref (q 0), .int p1]) (n := 2) (Nat.le_of_ble_eq_true rfl)
  rw [lg_entry_eq]
  generalize (lg_sl ([.ref (q 0), .int p1]) ++ List.replicate (2 - (lg_sl ([.ref (q 0), .int p1])).length) Slot.unset).toArray = ls at hl ⊢
  have hl : lv_has ls 2 [(0, .ref (q 0)), (1, .int p1)] := hl
  have hk10 := hts (.fieldLink RX8 10 "LyndonText" "text" "LLyndonText$Letters;") (by decide +kernel)
  have huX8 : ∀ w ∈ u_ws RX8 TX8 6, w ∈ wsX8_checkRoom := by decide +kernel
  unfold fX8_checkRoom at hf
  refine lv_aload_n hx hb dX8_checkRoom_0 rfl (lv_at hl 0 rfl) ?_
  refine va_get (D := D) (ci := 6) (v := .ref (q 1)) (C := RX8) (T := TX8) (N := 6) hx hb hts huX8 hown hE.1 hP 0 rfl rfl 0 (by decide) hk10 (fun _ h9 => h9) rfl dX8_checkRoom_1 ?_
  obtain ⟨r4, hc, hf⟩ := bn_some hf
  try dsimp only at hf
  refine g_call0 (ws' := (w_0_1 q cI cJ cD Tn)) (st1 := [.int r4]) hq [0, 1] [1] [.inr 0, .inl 0] (va_runV (As := []) (rest := []) ⟨hx, hb, hml, hown, hts⟩ (kX2_count l D cI cJ cD q hq N Tn r4 hc) (cwV 0 hts gX8_checkRoom_X2_count rfl rfl rfl (by decide +kernel) ⟨(Nat.le_of_ble_eq_true rfl), (Nat.le_of_ble_eq_true rfl)⟩) ⟨gP_blind, va_recv hE.1 hP (ci := 2) (q0 := 1) rfl rfl, fun U hU hW => ⟨rfl, by rw [hU]; exact hP.sub (ws' := (w_1 q cI cJ cD Tn)) [1] rfl, gEv.warm hW hE⟩⟩ rfl rfl hl.1 rfl (lv_room (Nat.le_of_ble_eq_true rfl)) dX8_checkRoom_4 ⟨Nat.zero_le _, Nat.zero_le _⟩) hP hS (gSub rfl) rfl rfl rfl rfl rfl (fun H locs hP hS => ?_)
  refine lv_iload_n hx hb dX8_checkRoom_7 rfl (lv_at hl 1 rfl) ?_
  refine lv_iadd hx hb dX8_checkRoom_8 ?_
  refine lv_bipush (v := (64 : Int32)) hx hb dX8_checkRoom_9 (by decide) ?_
  refine lv_icmp_le (tgt := 24) hx hb dX8_checkRoom_11 (by decide) (fun c_1 => ?_) (fun c_1 => ?_)
  · have hf := (if_pos c_1).symm.trans hf
    cases hf
    exact W.vret hx hb hr (fun t ht hW => ⟨⟨rfl, by rw [ht]; exact hP⟩, hS.F ht⟩) hS.2.2 dX8_checkRoom_24
  · have hf := (if_neg c_1).symm.trans hf
    exact nomatch hf
set_option maxHeartbeats 4000000 in
set_option maxRecDepth 100000 in
theorem kX8_checkRoomx (l : Launch) (hlt : l.stackTraces = false) (D : va_G) (cI cJ cD : ClassId) (sa : Nat → Nat) (q : Nat → Nat) (hq : gInj 14 q) (N : Nat) (Tn : Int32) (p1 : Int32) (e0 : Nat) (hf : fX8_checkRoom N Tn p1 = some (.inl e0)) : vx_Met l yX8_checkRoom wsX8_checkRoom rX8_checkRoomx (gPx D cI cJ cD sa (gA q [0, 1]) [.ref (q 0), .int p1] (w_0_1 q cI cJ cD Tn)) (fun _ _ _ _ => False) (gX D (gEn e0) (w_0_1 q cI cJ cD Tn) (gA q [0, 1])) 1 6 (gA q [0, 1]) := by
  refine vx_ofW (cc := cX8_checkRoom) (maxL := 2) (ret := none) (by decide +kernel) rfl ?_
  intro p e s m args below meth c s₁ B hml htab hv
  obtain ⟨rfl, hP, hE, hXe⟩ := hv
  have hx := B.exec
  have hb := B.bytes
  have hr := B.returns
  have hts := atoms_spec (ws := wsX8_checkRoom) B.pre
  have hown : s.vm.findClass RX8 = some m.cls := findClass_of_methodNamed B.named
  have hlocks := B.notSynchronized
  have hS : va_S (gA q [0, 1]) s.heap s.heap [] := va_S.rf
  have hl := lv_entry ([.ref (q 0), .int p1]) (n := 2) (Nat.le_of_ble_eq_true rfl)
  rw [lg_entry_eq]
  generalize (lg_sl ([.ref (q 0), .int p1]) ++ List.replicate (2 - (lg_sl ([.ref (q 0), .int p1])).length) Slot.unset).toArray = ls at hl ⊢
  have hl : lv_has ls 2 [(0, .ref (q 0)), (1, .int p1)] := hl
  have hk10 := hts (.fieldLink RX8 10 "LyndonText" "text" "LLyndonText$Letters;") (by decide +kernel)
  have huX8 : ∀ w ∈ u_ws RX8 TX8 6, w ∈ wsX8_checkRoom := by decide +kernel
  unfold fX8_checkRoom at hf
  refine lv_aload_n hx hb dX8_checkRoom_0 rfl (lv_at hl 0 rfl) ?_
  refine va_get (D := D) (ci := 6) (v := .ref (q 1)) (C := RX8) (T := TX8) (N := 6) hx hb hts huX8 hown hE.1 hP 0 rfl rfl 0 (by decide) hk10 (fun _ h9 => h9) rfl dX8_checkRoom_1 ?_
  obtain ⟨r4, hc, hf⟩ := bn_some hf
  try dsimp only at hf
  refine g_call0 (ws' := (w_0_1 q cI cJ cD Tn)) (st1 := [.int r4]) hq [0, 1] [1] [.inr 0, .inl 0] (va_runV (As := []) (rest := []) ⟨hx, hb, hml, hown, hts⟩ (kX2_count l D cI cJ cD q hq N Tn r4 hc) (cwV 0 hts gX8_checkRoom_X2_count rfl rfl rfl (by decide +kernel) ⟨(Nat.le_of_ble_eq_true rfl), (Nat.le_of_ble_eq_true rfl)⟩) ⟨gP_blind, va_recv hE.1 hP (ci := 2) (q0 := 1) rfl rfl, fun U hU hW => ⟨rfl, by rw [hU]; exact hP.sub (ws' := (w_1 q cI cJ cD Tn)) [1] rfl, gEv.warm hW hE⟩⟩ rfl rfl hl.1 rfl (lv_room (Nat.le_of_ble_eq_true rfl)) dX8_checkRoom_4 ⟨Nat.zero_le _, Nat.zero_le _⟩) hP hS (gSub rfl) rfl rfl rfl rfl rfl (fun H locs hP hS => ?_)
  refine lv_iload_n hx hb dX8_checkRoom_7 rfl (lv_at hl 1 rfl) ?_
  refine lv_iadd hx hb dX8_checkRoom_8 ?_
  refine lv_bipush (v := (64 : Int32)) hx hb dX8_checkRoom_9 (by decide) ?_
  refine lv_icmp_le (tgt := 24) hx hb dX8_checkRoom_11 (by decide) (fun c_1 => ?_) (fun c_1 => ?_)
  · have hf := (if_pos c_1).symm.trans hf
    exact nomatch hf
  · have hf := (if_neg c_1).symm.trans hf
    cases hf
    exact vx_throwS (own := RX8) (cls := "java/lang/IllegalStateException") (text := "the text would have more than 64 letters") (names := ["java/lang/RuntimeException", "java/lang/Exception"]) (ik := 89) (is := 109) (ic := 93) (sa := sa 109) (A := (gA q [0, 1])) hx hb hlt hown (by decide +kernel) (by decide +kernel) (hts (.classLink RX8 89 "java/lang/IllegalStateException") (by decide +kernel)) (hts (.initialized "java/lang/IllegalStateException") (by decide +kernel)) (hXe.1.1 (109, "the text would have more than 64 letters") (by decide +kernel)) (vx_hat (B := gB "java/lang/IllegalStateException") (fun w h => hts w (gw_X8_checkRoom_14 w h)) (gwB_X8_checkRoom_14) (gB_ok hXe.1 (cls := "java/lang/IllegalStateException") (by decide +kernel))) (gwg_X8_checkRoom_14) hXe.2.1 hXe.2.2 hS (hl.1.trans hml.symm) dX8_checkRoom_14 dX8_checkRoom_17 dX8_checkRoom_18 dX8_checkRoom_20 dX8_checkRoom_23 (fun x9 hx9 => (htab x9 hx9).elim) (Nat.le_of_ble_eq_true rfl) (Nat.le_of_ble_eq_true rfl) (Nat.le_of_ble_eq_true rfl) (Nat.le_of_ble_eq_true rfl) hlocks (fun t hv hz hk => ⟨rfl, hP.kept (fun k9 x9 hx9 => hk x9.1 ((hP k9 x9 hx9).lt)), ⟨Nat.le_trans hS.1 hz, fun a9 h1 hn => (hk a9 (Nat.lt_of_lt_of_le h1 hS.1)).trans (hS.2.1 a9 h1 hn)⟩⟩) hS.2.2 (Nat.le_of_ble_eq_true rfl) (Nat.le_of_ble_eq_true rfl)
set_option maxHeartbeats 4000000 in
set_option maxRecDepth 100000 in
theorem kX8_append (l : Launch) (D : va_G) (cI cJ cD : ClassId) (q : Nat → Nat) (hq : gInj 14 q) (N : Nat) (Tn : Int32) (Ta : (Nat → Int32)) (p1 : Int32) (r0 : Int32) (Tn9 : Int32) (Ta9 : (Nat → Int32)) (hf : fX8_append N Tn Ta p1 = some (.inr (r0, Tn9, Ta9))) : Met l yX8_append wsX8_append rX8_append (gP D cI cJ cD [.ref (q 0), .int p1] (w_0_1_2 q cI cJ cD Tn Ta)) (gQ D (some (.int r0)) (w_0_1_2 q cI cJ cD Tn9 Ta9) (gA q [0, 1, 2])) 0 0 (gA q [0, 1, 2]) := by
  refine Met.ofW (cc := cX8_append) (maxL := 2) (ret := (some .int)) (by decide +kernel) rfl ?_
  intro p e s m args below meth c s₁ B hml hv
  obtain ⟨rfl, hP, hE⟩ := hv
  have hx := B.exec
  have hb := B.bytes
  have hr := B.returns
  have hts := atoms_spec (ws := wsX8_append) B.pre
  have hown : s.vm.findClass RX8 = some m.cls := findClass_of_methodNamed B.named
  have hlocks := B.notSynchronized
  have hS : va_S (gA q [0, 1, 2]) s.heap s.heap [] := va_S.rf
  have hl := lv_entry ([.ref (q 0), .int p1]) (n := 2) (Nat.le_of_ble_eq_true rfl)
  rw [lg_entry_eq]
  generalize (lg_sl ([.ref (q 0), .int p1]) ++ List.replicate (2 - (lg_sl ([.ref (q 0), .int p1])).length) Slot.unset).toArray = ls at hl ⊢
  have hl : lv_has ls 2 [(0, .ref (q 0)), (1, .int p1)] := hl
  have hk10 := hts (.fieldLink RX8 10 "LyndonText" "text" "LLyndonText$Letters;") (by decide +kernel)
  have huX8 : ∀ w ∈ u_ws RX8 TX8 6, w ∈ wsX8_append := by decide +kernel
  unfold fX8_append at hf
  refine lv_iload_n hx hb dX8_append_0 rfl (lv_at hl 1 rfl) ?_
  refine lv_iconst (v := (0 : Int32)) hx hb dX8_append_1 (by decide) ?_
  refine lv_bipush (v := (25 : Int32)) hx hb dX8_append_2 (by decide) ?_
  rcases bx_some hf with ⟨e4, hc, hf⟩ | ⟨⟨⟩, hc, hf⟩
  · exact nomatch hf
  try dsimp only at hf
  refine g_call0 (ws' := (w_0_1_2 q cI cJ cD Tn Ta)) (st1 := []) hq [0, 1, 2] [] [.inr 0, .inr 1, .inr 2] (va_runS (As := [.int p1, .int (0 : Int32), .int (25 : Int32)]) (rest := []) ⟨hx, hb, hml, hown, hts⟩ (kX8_checkArgument l D cI cJ cD q hq N p1 (0 : Int32) (25 : Int32) hc) (va_cwS 3 hts gX8_append_X8_checkArgument rfl rfl rfl (by decide +kernel) ⟨(Nat.le_of_ble_eq_true rfl), (Nat.le_of_ble_eq_true rfl)⟩) ⟨gP_blind, fun U hU hW => ⟨rfl, by rw [hU]; exact hP.sub (ws' := (w_0none q cI cJ cD)) [] rfl, gEv.warm hW hE⟩⟩ rfl rfl hl.1 rfl (lv_room (Nat.le_of_ble_eq_true rfl)) dX8_append_4 ⟨Nat.zero_le _, Nat.zero_le _⟩) hP hS (gSub rfl) rfl rfl rfl rfl rfl (fun H locs hP hS => ?_)
  refine lv_aload_n hx hb dX8_append_7 rfl (lv_at hl 0 rfl) ?_
  refine lv_iconst (v := (1 : Int32)) hx hb dX8_append_8 (by decide) ?_
  rcases bx_some hf with ⟨e9, hc, hf⟩ | ⟨⟨⟩, hc, hf⟩
  · exact nomatch hf
  try dsimp only at hf
  refine g_call0 (ws' := (w_0_1_2 q cI cJ cD Tn Ta)) (st1 := []) hq [0, 1, 2] [0, 1] [.inl 0, .inl 1, .inr 2] (va_runV (As := [.int (1 : Int32)]) (rest := []) ⟨hx, hb, hml, hown, hts⟩ (kX8_checkRoom l D cI cJ cD q hq N Tn (1 : Int32) hc) (cwV 1 hts gX8_append_X8_checkRoom rfl rfl rfl (by decide +kernel) ⟨(Nat.le_of_ble_eq_true rfl), (Nat.le_of_ble_eq_true rfl)⟩) ⟨gP_blind, va_recv hE.1 hP (ci := 6) (q0 := 0) rfl rfl, fun U hU hW => ⟨rfl, by rw [hU]; exact hP.sub (ws' := (w_0_1 q cI cJ cD Tn)) [0, 1] rfl, gEv.warm hW hE⟩⟩ rfl rfl hl.1 rfl (lv_room (Nat.le_of_ble_eq_true rfl)) dX8_append_9 ⟨Nat.zero_le _, Nat.zero_le _⟩) hP hS (gSub rfl) rfl rfl rfl rfl rfl (fun H locs hP hS => ?_)
  refine lv_aload_n hx hb dX8_append_12 rfl (lv_at hl 0 rfl) ?_
  refine va_get (D := D) (ci := 6) (v := .ref (q 1)) (C := RX8) (T := TX8) (N := 6) hx hb hts huX8 hown hE.1 hP 0 rfl rfl 0 (by decide) hk10 (fun _ h9 => h9) rfl dX8_append_13 ?_
  refine lv_iload_n hx hb dX8_append_16 rfl (lv_at hl 1 rfl) ?_
  obtain ⟨⟨Tn17, Ta17⟩, hc, hf⟩ := bn_some hf
  try dsimp only at hf
  refine g_call0 (ws' := (w_0_1_2 q cI cJ cD Tn17 Ta17)) (st1 := []) hq [0, 1, 2] [1, 2] [.inr 0, .inl 0, .inl 1] (va_runV (As := [.int p1]) (rest := []) ⟨hx, hb, hml, hown, hts⟩ (kX2_push l D cI cJ cD q hq N Tn Ta p1 Tn17 Ta17 hc) (cwV 1 hts gX8_append_X2_push rfl rfl rfl (by decide +kernel) ⟨(Nat.le_of_ble_eq_true rfl), (Nat.le_of_ble_eq_true rfl)⟩) ⟨gP_blind, va_recv hE.1 hP (ci := 2) (q0 := 1) rfl rfl, fun U hU hW => ⟨rfl, by rw [hU]; exact hP.sub (ws' := (w_1_2 q cI cJ cD Tn Ta)) [1, 2] rfl, gEv.warm hW hE⟩⟩ rfl rfl hl.1 rfl (lv_room (Nat.le_of_ble_eq_true rfl)) dX8_append_17 ⟨Nat.zero_le _, Nat.zero_le _⟩) hP hS (gSub rfl) rfl rfl rfl rfl rfl (fun H locs hP hS => ?_)
  refine lv_aload_n hx hb dX8_append_20 rfl (lv_at hl 0 rfl) ?_
  refine va_get (D := D) (ci := 6) (v := .ref (q 1)) (C := RX8) (T := TX8) (N := 6) hx hb hts huX8 hown hE.1 hP 0 rfl rfl 0 (by decide) hk10 (fun _ h9 => h9) rfl dX8_append_21 ?_
  obtain ⟨r24, hc, hf⟩ := bn_some hf
  try dsimp only at hf
  refine g_call0 (ws' := (w_0_1_2 q cI cJ cD Tn17 Ta17)) (st1 := [.int r24]) hq [0, 1, 2] [1] [.inr 0, .inl 0, .inr 2] (va_runV (As := []) (rest := []) ⟨hx, hb, hml, hown, hts⟩ (kX2_count l D cI cJ cD q hq N Tn17 r24 hc) (cwV 0 hts gX8_append_X2_count rfl rfl rfl (by decide +kernel) ⟨(Nat.le_of_ble_eq_true rfl), (Nat.le_of_ble_eq_true rfl)⟩) ⟨gP_blind, va_recv hE.1 hP (ci := 2) (q0 := 1) rfl rfl, fun U hU hW => ⟨rfl, by rw [hU]; exact hP.sub (ws' := (w_1 q cI cJ cD Tn17)) [1] rfl, gEv.warm hW hE⟩⟩ rfl rfl hl.1 rfl (lv_room (Nat.le_of_ble_eq_true rfl)) dX8_append_24 ⟨Nat.zero_le _, Nat.zero_le _⟩) hP hS (gSub rfl) rfl rfl rfl rfl rfl (fun H locs hP hS => ?_)
  cases hf
  exact W.iret hx hb hr (fun t ht hW => ⟨⟨rfl, by rw [ht]; exact hP⟩, hS.F ht⟩) hS.2.2 dX8_append_27
set_option maxHeartbeats 4000000 in
set_option maxRecDepth 100000 in
theorem kX8_appendx (l : Launch) (hlt : l.stackTraces = false) (D : va_G) (cI cJ cD : ClassId) (sa : Nat → Nat) (q : Nat → Nat) (hq : gInj 14 q) (N : Nat) (Tn : Int32) (Ta : (Nat → Int32)) (p1 : Int32) (e0 : Nat) (Tn9 : Int32) (Ta9 : (Nat → Int32)) (hf : fX8_append N Tn Ta p1 = some (.inl (e0, Tn9, Ta9))) : vx_Met l yX8_append wsX8_append rX8_appendx (gPx D cI cJ cD sa (gA q [0, 1, 2]) [.ref (q 0), .int p1] (w_0_1_2 q cI cJ cD Tn Ta)) (fun _ _ _ _ => False) (gX D (gEn e0) (w_0_1_2 q cI cJ cD Tn9 Ta9) (gA q [0, 1, 2])) 1 6 (gA q [0, 1, 2]) := by
  refine vx_ofW (cc := cX8_append) (maxL := 2) (ret := (some .int)) (by decide +kernel) rfl ?_
  intro p e s m args below meth c s₁ B hml htab hv
  obtain ⟨rfl, hP, hE, hXe⟩ := hv
  have hx := B.exec
  have hb := B.bytes
  have hr := B.returns
  have hts := atoms_spec (ws := wsX8_append) B.pre
  have hown : s.vm.findClass RX8 = some m.cls := findClass_of_methodNamed B.named
  have hlocks := B.notSynchronized
  have hS : va_S (gA q [0, 1, 2]) s.heap s.heap [] := va_S.rf
  have hl := lv_entry ([.ref (q 0), .int p1]) (n := 2) (Nat.le_of_ble_eq_true rfl)
  rw [lg_entry_eq]
  generalize (lg_sl ([.ref (q 0), .int p1]) ++ List.replicate (2 - (lg_sl ([.ref (q 0), .int p1])).length) Slot.unset).toArray = ls at hl ⊢
  have hl : lv_has ls 2 [(0, .ref (q 0)), (1, .int p1)] := hl
  have hk10 := hts (.fieldLink RX8 10 "LyndonText" "text" "LLyndonText$Letters;") (by decide +kernel)
  have huX8 : ∀ w ∈ u_ws RX8 TX8 6, w ∈ wsX8_append := by decide +kernel
  unfold fX8_append at hf
  refine lv_iload_n hx hb dX8_append_0 rfl (lv_at hl 1 rfl) ?_
  refine lv_iconst (v := (0 : Int32)) hx hb dX8_append_1 (by decide) ?_
  refine lv_bipush (v := (25 : Int32)) hx hb dX8_append_2 (by decide) ?_
  rcases bx_some hf with ⟨e4, hc, hf⟩ | ⟨⟨⟩, hc, hf⟩
  · try dsimp only at hf
    refine g_callX (ws' := (w_0_1_2 q cI cJ cD Tn Ta)) hq [0, 1, 2] [] [.inr 0, .inr 1, .inr 2] (vx_runS (As := [.int p1, .int (0 : Int32), .int (25 : Int32)]) (rest := []) ⟨hx, hb, hml, hown, hts⟩ (kX8_checkArgumentx l hlt D cI cJ cD sa q hq N p1 (0 : Int32) (25 : Int32) e4 hc) (va_cwS 3 hts gX8_append_X8_checkArgument rfl rfl rfl (by decide +kernel) ⟨(Nat.le_of_ble_eq_true rfl), (Nat.le_of_ble_eq_true rfl)⟩) ⟨gPx_blind, fun U hU hW => ⟨rfl, by rw [hU]; exact hP.sub (ws' := (w_0none q cI cJ cD)) [] rfl, gEv.warm hW hE, gXe.go hW hS (gMono rfl) hXe hU⟩⟩ rfl rfl hl.1 rfl (lv_room (Nat.le_of_ble_eq_true rfl)) dX8_append_4 ⟨(Nat.le_of_ble_eq_true rfl), (Nat.le_of_ble_eq_true rfl)⟩) hP hS (gSub rfl) rfl rfl rfl rfl (fun ce q9 H locs hP hS hce hcv hcl => ?_)
    cases hf
    exact vx_out (fun x9 hx9 => (htab x9 hx9).elim) hlocks hce hcv hcl (fun t ht hv => ⟨rfl, by rw [ht]; exact hP, hS.F ht⟩) hS.2.2 (Nat.le_of_ble_eq_true rfl) (Nat.le_of_ble_eq_true rfl)
  try dsimp only at hf
  refine g_call0 (ws' := (w_0_1_2 q cI cJ cD Tn Ta)) (st1 := []) hq [0, 1, 2] [] [.inr 0, .inr 1, .inr 2] (va_runS (As := [.int p1, .int (0 : Int32), .int (25 : Int32)]) (rest := []) ⟨hx, hb, hml, hown, hts⟩ (kX8_checkArgument l D cI cJ cD q hq N p1 (0 : Int32) (25 : Int32) hc) (va_cwS 3 hts gX8_append_X8_checkArgument rfl rfl rfl (by decide +kernel) ⟨(Nat.le_of_ble_eq_true rfl), (Nat.le_of_ble_eq_true rfl)⟩) ⟨gP_blind, fun U hU hW => ⟨rfl, by rw [hU]; exact hP.sub (ws' := (w_0none q cI cJ cD)) [] rfl, gEv.warm hW hE⟩⟩ rfl rfl hl.1 rfl (lv_room (Nat.le_of_ble_eq_true rfl)) dX8_append_4 ⟨Nat.zero_le _, Nat.zero_le _⟩) hP hS (gSub rfl) rfl rfl rfl rfl rfl (fun H locs hP hS => ?_)
  refine lv_aload_n hx hb dX8_append_7 rfl (lv_at hl 0 rfl) ?_
  refine lv_iconst (v := (1 : Int32)) hx hb dX8_append_8 (by decide) ?_
  rcases bx_some hf with ⟨e9, hc, hf⟩ | ⟨⟨⟩, hc, hf⟩
  · try dsimp only at hf
    refine g_callX (ws' := (w_0_1_2 q cI cJ cD Tn Ta)) hq [0, 1, 2] [0, 1] [.inl 0, .inl 1, .inr 2] (vx_runV (As := [.int (1 : Int32)]) (rest := []) ⟨hx, hb, hml, hown, hts⟩ (kX8_checkRoomx l hlt D cI cJ cD sa q hq N Tn (1 : Int32) e9 hc) (cwV 1 hts gX8_append_X8_checkRoom rfl rfl rfl (by decide +kernel) ⟨(Nat.le_of_ble_eq_true rfl), (Nat.le_of_ble_eq_true rfl)⟩) ⟨gPx_blind, va_recv hE.1 hP (ci := 6) (q0 := 0) rfl rfl, fun U hU hW => ⟨rfl, by rw [hU]; exact hP.sub (ws' := (w_0_1 q cI cJ cD Tn)) [0, 1] rfl, gEv.warm hW hE, gXe.go hW hS (gMono rfl) hXe hU⟩⟩ rfl rfl hl.1 rfl (lv_room (Nat.le_of_ble_eq_true rfl)) dX8_append_9 ⟨(Nat.le_of_ble_eq_true rfl), (Nat.le_of_ble_eq_true rfl)⟩) hP hS (gSub rfl) rfl rfl rfl rfl (fun ce q9 H locs hP hS hce hcv hcl => ?_)
    cases hf
    exact vx_out (fun x9 hx9 => (htab x9 hx9).elim) hlocks hce hcv hcl (fun t ht hv => ⟨rfl, by rw [ht]; exact hP, hS.F ht⟩) hS.2.2 (Nat.le_of_ble_eq_true rfl) (Nat.le_of_ble_eq_true rfl)
  try dsimp only at hf
  refine g_call0 (ws' := (w_0_1_2 q cI cJ cD Tn Ta)) (st1 := []) hq [0, 1, 2] [0, 1] [.inl 0, .inl 1, .inr 2] (va_runV (As := [.int (1 : Int32)]) (rest := []) ⟨hx, hb, hml, hown, hts⟩ (kX8_checkRoom l D cI cJ cD q hq N Tn (1 : Int32) hc) (cwV 1 hts gX8_append_X8_checkRoom rfl rfl rfl (by decide +kernel) ⟨(Nat.le_of_ble_eq_true rfl), (Nat.le_of_ble_eq_true rfl)⟩) ⟨gP_blind, va_recv hE.1 hP (ci := 6) (q0 := 0) rfl rfl, fun U hU hW => ⟨rfl, by rw [hU]; exact hP.sub (ws' := (w_0_1 q cI cJ cD Tn)) [0, 1] rfl, gEv.warm hW hE⟩⟩ rfl rfl hl.1 rfl (lv_room (Nat.le_of_ble_eq_true rfl)) dX8_append_9 ⟨Nat.zero_le _, Nat.zero_le _⟩) hP hS (gSub rfl) rfl rfl rfl rfl rfl (fun H locs hP hS => ?_)
  refine lv_aload_n hx hb dX8_append_12 rfl (lv_at hl 0 rfl) ?_
  refine va_get (D := D) (ci := 6) (v := .ref (q 1)) (C := RX8) (T := TX8) (N := 6) hx hb hts huX8 hown hE.1 hP 0 rfl rfl 0 (by decide) hk10 (fun _ h9 => h9) rfl dX8_append_13 ?_
  refine lv_iload_n hx hb dX8_append_16 rfl (lv_at hl 1 rfl) ?_
  obtain ⟨⟨Tn17, Ta17⟩, hc, hf⟩ := bn_some hf
  try dsimp only at hf
  refine g_call0 (ws' := (w_0_1_2 q cI cJ cD Tn17 Ta17)) (st1 := []) hq [0, 1, 2] [1, 2] [.inr 0, .inl 0, .inl 1] (va_runV (As := [.int p1]) (rest := []) ⟨hx, hb, hml, hown, hts⟩ (kX2_push l D cI cJ cD q hq N Tn Ta p1 Tn17 Ta17 hc) (cwV 1 hts gX8_append_X2_push rfl rfl rfl (by decide +kernel) ⟨(Nat.le_of_ble_eq_true rfl), (Nat.le_of_ble_eq_true rfl)⟩) ⟨gP_blind, va_recv hE.1 hP (ci := 2) (q0 := 1) rfl rfl, fun U hU hW => ⟨rfl, by rw [hU]; exact hP.sub (ws' := (w_1_2 q cI cJ cD Tn Ta)) [1, 2] rfl, gEv.warm hW hE⟩⟩ rfl rfl hl.1 rfl (lv_room (Nat.le_of_ble_eq_true rfl)) dX8_append_17 ⟨Nat.zero_le _, Nat.zero_le _⟩) hP hS (gSub rfl) rfl rfl rfl rfl rfl (fun H locs hP hS => ?_)
  refine lv_aload_n hx hb dX8_append_20 rfl (lv_at hl 0 rfl) ?_
  refine va_get (D := D) (ci := 6) (v := .ref (q 1)) (C := RX8) (T := TX8) (N := 6) hx hb hts huX8 hown hE.1 hP 0 rfl rfl 0 (by decide) hk10 (fun _ h9 => h9) rfl dX8_append_21 ?_
  obtain ⟨r24, hc, hf⟩ := bn_some hf
  try dsimp only at hf
  refine g_call0 (ws' := (w_0_1_2 q cI cJ cD Tn17 Ta17)) (st1 := [.int r24]) hq [0, 1, 2] [1] [.inr 0, .inl 0, .inr 2] (va_runV (As := []) (rest := []) ⟨hx, hb, hml, hown, hts⟩ (kX2_count l D cI cJ cD q hq N Tn17 r24 hc) (cwV 0 hts gX8_append_X2_count rfl rfl rfl (by decide +kernel) ⟨(Nat.le_of_ble_eq_true rfl), (Nat.le_of_ble_eq_true rfl)⟩) ⟨gP_blind, va_recv hE.1 hP (ci := 2) (q0 := 1) rfl rfl, fun U hU hW => ⟨rfl, by rw [hU]; exact hP.sub (ws' := (w_1 q cI cJ cD Tn17)) [1] rfl, gEv.warm hW hE⟩⟩ rfl rfl hl.1 rfl (lv_room (Nat.le_of_ble_eq_true rfl)) dX8_append_24 ⟨Nat.zero_le _, Nat.zero_le _⟩) hP hS (gSub rfl) rfl rfl rfl rfl rfl (fun H locs hP hS => ?_)
  exact nomatch hf
set_option maxHeartbeats 4000000 in
set_option maxRecDepth 100000 in
theorem kX8_insert (l : Launch) (D : va_G) (cI cJ cD : ClassId) (q : Nat → Nat) (hq : gInj 14 q) (N : Nat) (Tn : Int32) (Ta : (Nat → Int32)) (p1 : Int32) (p2 : Int32) (r0 : Int32) (Tn9 : Int32) (Ta9 : (Nat → Int32)) (hf : fX8_insert N Tn Ta p1 p2 = some (.inr (r0, Tn9, Ta9))) : Met l yX8_insert wsX8_insert rX8_insert (gP D cI cJ cD [.ref (q 0), .int p1, .int p2] (w_0_1_2 q cI cJ cD Tn Ta)) (gQ D (some (.int r0)) (w_0_1_2 q cI cJ cD Tn9 Ta9) (gA q [0, 1, 2])) 0 0 (gA q [0, 1, 2]) := by
  refine Met.ofW (cc := cX8_insert) (maxL := 3) (ret := (some .int)) (by decide +kernel) rfl ?_
  intro p e s m args below meth c s₁ B hml hv
  obtain ⟨rfl, hP, hE⟩ := hv
  have hx := B.exec
  have hb := B.bytes
  have hr := B.returns
  have hts := atoms_spec (ws := wsX8_insert) B.pre
  have hown : s.vm.findClass RX8 = some m.cls := findClass_of_methodNamed B.named
  have hlocks := B.notSynchronized
  have hS : va_S (gA q [0, 1, 2]) s.heap s.heap [] := va_S.rf
  have hl := lv_entry ([.ref (q 0), .int p1, .int p2]) (n := 3) (Nat.le_of_ble_eq_true rfl)
  rw [lg_entry_eq]
  generalize (lg_sl ([.ref (q 0), .int p1, .int p2]) ++ List.replicate (3 - (lg_sl ([.ref (q 0), .int p1, .int p2])).length) Slot.unset).toArray = ls at hl ⊢
  have hl : lv_has ls 3 [(0, .ref (q 0)), (1, .int p1), (2, .int p2)] := hl
  have hk10 := hts (.fieldLink RX8 10 "LyndonText" "text" "LLyndonText$Letters;") (by decide +kernel)
  have huX8 : ∀ w ∈ u_ws RX8 TX8 6, w ∈ wsX8_insert := by decide +kernel
  unfold fX8_insert at hf
  refine lv_iload_n hx hb dX8_insert_0 rfl (lv_at hl 1 rfl) ?_
  refine lv_aload_n hx hb dX8_insert_1 rfl (lv_at hl 0 rfl) ?_
  refine va_get (D := D) (ci := 6) (v := .ref (q 1)) (C := RX8) (T := TX8) (N := 6) hx hb hts huX8 hown hE.1 hP 0 rfl rfl 0 (by decide) hk10 (fun _ h9 => h9) rfl dX8_insert_2 ?_
  obtain ⟨r5, hc, hf⟩ := bn_some hf
  try dsimp only at hf
  refine g_call0 (ws' := (w_0_1_2 q cI cJ cD Tn Ta)) (st1 := [.int r5, .int p1]) hq [0, 1, 2] [1] [.inr 0, .inl 0, .inr 2] (va_runV (As := []) (rest := [.int p1]) ⟨hx, hb, hml, hown, hts⟩ (kX2_count l D cI cJ cD q hq N Tn r5 hc) (cwV 0 hts gX8_insert_X2_count rfl rfl rfl (by decide +kernel) ⟨(Nat.le_of_ble_eq_true rfl), (Nat.le_of_ble_eq_true rfl)⟩) ⟨gP_blind, va_recv hE.1 hP (ci := 2) (q0 := 1) rfl rfl, fun U hU hW => ⟨rfl, by rw [hU]; exact hP.sub (ws' := (w_1 q cI cJ cD Tn)) [1] rfl, gEv.warm hW hE⟩⟩ rfl rfl hl.1 rfl (lv_room (Nat.le_of_ble_eq_true rfl)) dX8_insert_5 ⟨Nat.zero_le _, Nat.zero_le _⟩) hP hS (gSub rfl) rfl rfl rfl rfl rfl (fun H locs hP hS => ?_)
  refine lv_iconst (v := (1 : Int32)) hx hb dX8_insert_8 (by decide) ?_
  refine lv_iadd hx hb dX8_insert_9 ?_
  rcases bx_some hf with ⟨e10, hc, hf⟩ | ⟨⟨⟩, hc, hf⟩
  · exact nomatch hf
  try dsimp only at hf
  refine g_call0 (ws' := (w_0_1_2 q cI cJ cD Tn Ta)) (st1 := []) hq [0, 1, 2] [] [.inr 0, .inr 1, .inr 2] (va_runS (As := [.int p1, .int (r5 + (1 : Int32))]) (rest := []) ⟨hx, hb, hml, hown, hts⟩ (kX8_checkIndex l D cI cJ cD q hq N p1 (r5 + (1 : Int32)) hc) (va_cwS 2 hts gX8_insert_X8_checkIndex rfl rfl rfl (by decide +kernel) ⟨(Nat.le_of_ble_eq_true rfl), (Nat.le_of_ble_eq_true rfl)⟩) ⟨gP_blind, fun U hU hW => ⟨rfl, by rw [hU]; exact hP.sub (ws' := (w_0none q cI cJ cD)) [] rfl, gEv.warm hW hE⟩⟩ rfl rfl hl.1 rfl (lv_room (Nat.le_of_ble_eq_true rfl)) dX8_insert_10 ⟨Nat.zero_le _, Nat.zero_le _⟩) hP hS (gSub rfl) rfl rfl rfl rfl rfl (fun H locs hP hS => ?_)
  refine lv_iload_n hx hb dX8_insert_13 rfl (lv_at hl 2 rfl) ?_
  refine lv_iconst (v := (0 : Int32)) hx hb dX8_insert_14 (by decide) ?_
  refine lv_bipush (v := (25 : Int32)) hx hb dX8_insert_15 (by decide) ?_
  rcases bx_some hf with ⟨e17, hc, hf⟩ | ⟨⟨⟩, hc, hf⟩
  · exact nomatch hf
  try dsimp only at hf
  refine g_call0 (ws' := (w_0_1_2 q cI cJ cD Tn Ta)) (st1 := []) hq [0, 1, 2] [] [.inr 0, .inr 1, .inr 2] (va_runS (As := [.int p2, .int (0 : Int32), .int (25 : Int32)]) (rest := []) ⟨hx, hb, hml, hown, hts⟩ (kX8_checkArgument l D cI cJ cD q hq N p2 (0 : Int32) (25 : Int32) hc) (va_cwS 3 hts gX8_insert_X8_checkArgument rfl rfl rfl (by decide +kernel) ⟨(Nat.le_of_ble_eq_true rfl), (Nat.le_of_ble_eq_true rfl)⟩) ⟨gP_blind, fun U hU hW => ⟨rfl, by rw [hU]; exact hP.sub (ws' := (w_0none q cI cJ cD)) [] rfl, gEv.warm hW hE⟩⟩ rfl rfl hl.1 rfl (lv_room (Nat.le_of_ble_eq_true rfl)) dX8_insert_17 ⟨Nat.zero_le _, Nat.zero_le _⟩) hP hS (gSub rfl) rfl rfl rfl rfl rfl (fun H locs hP hS => ?_)
  refine lv_aload_n hx hb dX8_insert_20 rfl (lv_at hl 0 rfl) ?_
  refine lv_iconst (v := (1 : Int32)) hx hb dX8_insert_21 (by decide) ?_
  rcases bx_some hf with ⟨e22, hc, hf⟩ | ⟨⟨⟩, hc, hf⟩
  · exact nomatch hf
  try dsimp only at hf
  refine g_call0 (ws' := (w_0_1_2 q cI cJ cD Tn Ta)) (st1 := []) hq [0, 1, 2] [0, 1] [.inl 0, .inl 1, .inr 2] (va_runV (As := [.int (1 : Int32)]) (rest := []) ⟨hx, hb, hml, hown, hts⟩ (kX8_checkRoom l D cI cJ cD q hq N Tn (1 : Int32) hc) (cwV 1 hts gX8_insert_X8_checkRoom rfl rfl rfl (by decide +kernel) ⟨(Nat.le_of_ble_eq_true rfl), (Nat.le_of_ble_eq_true rfl)⟩) ⟨gP_blind, va_recv hE.1 hP (ci := 6) (q0 := 0) rfl rfl, fun U hU hW => ⟨rfl, by rw [hU]; exact hP.sub (ws' := (w_0_1 q cI cJ cD Tn)) [0, 1] rfl, gEv.warm hW hE⟩⟩ rfl rfl hl.1 rfl (lv_room (Nat.le_of_ble_eq_true rfl)) dX8_insert_22 ⟨Nat.zero_le _, Nat.zero_le _⟩) hP hS (gSub rfl) rfl rfl rfl rfl rfl (fun H locs hP hS => ?_)
  refine lv_aload_n hx hb dX8_insert_25 rfl (lv_at hl 0 rfl) ?_
  refine va_get (D := D) (ci := 6) (v := .ref (q 1)) (C := RX8) (T := TX8) (N := 6) hx hb hts huX8 hown hE.1 hP 0 rfl rfl 0 (by decide) hk10 (fun _ h9 => h9) rfl dX8_insert_26 ?_
  refine lv_iload_n hx hb dX8_insert_29 rfl (lv_at hl 1 rfl) ?_
  refine lv_iload_n hx hb dX8_insert_30 rfl (lv_at hl 2 rfl) ?_
  obtain ⟨⟨Tn31, Ta31⟩, hc, hf⟩ := bn_some hf
  try dsimp only at hf
  refine g_call0 (ws' := (w_0_1_2 q cI cJ cD Tn31 Ta31)) (st1 := []) hq [0, 1, 2] [1, 2] [.inr 0, .inl 0, .inl 1] (va_runV (As := [.int p1, .int p2]) (rest := []) ⟨hx, hb, hml, hown, hts⟩ (kX2_open l D cI cJ cD q hq N Tn Ta p1 p2 Tn31 Ta31 hc) (cwV 2 hts gX8_insert_X2_open rfl rfl rfl (by decide +kernel) ⟨(Nat.le_of_ble_eq_true rfl), (Nat.le_of_ble_eq_true rfl)⟩) ⟨gP_blind, va_recv hE.1 hP (ci := 2) (q0 := 1) rfl rfl, fun U hU hW => ⟨rfl, by rw [hU]; exact hP.sub (ws' := (w_1_2 q cI cJ cD Tn Ta)) [1, 2] rfl, gEv.warm hW hE⟩⟩ rfl rfl hl.1 rfl (lv_room (Nat.le_of_ble_eq_true rfl)) dX8_insert_31 ⟨Nat.zero_le _, Nat.zero_le _⟩) hP hS (gSub rfl) rfl rfl rfl rfl rfl (fun H locs hP hS => ?_)
  refine lv_aload_n hx hb dX8_insert_34 rfl (lv_at hl 0 rfl) ?_
  refine va_get (D := D) (ci := 6) (v := .ref (q 1)) (C := RX8) (T := TX8) (N := 6) hx hb hts huX8 hown hE.1 hP 0 rfl rfl 0 (by decide) hk10 (fun _ h9 => h9) rfl dX8_insert_35 ?_
  obtain ⟨r38, hc, hf⟩ := bn_some hf
  try dsimp only at hf
  refine g_call0 (ws' := (w_0_1_2 q cI cJ cD Tn31 Ta31)) (st1 := [.int r38]) hq [0, 1, 2] [1] [.inr 0, .inl 0, .inr 2] (va_runV (As := []) (rest := []) ⟨hx, hb, hml, hown, hts⟩ (kX2_count l D cI cJ cD q hq N Tn31 r38 hc) (cwV 0 hts gX8_insert_X2_count rfl rfl rfl (by decide +kernel) ⟨(Nat.le_of_ble_eq_true rfl), (Nat.le_of_ble_eq_true rfl)⟩) ⟨gP_blind, va_recv hE.1 hP (ci := 2) (q0 := 1) rfl rfl, fun U hU hW => ⟨rfl, by rw [hU]; exact hP.sub (ws' := (w_1 q cI cJ cD Tn31)) [1] rfl, gEv.warm hW hE⟩⟩ rfl rfl hl.1 rfl (lv_room (Nat.le_of_ble_eq_true rfl)) dX8_insert_38 ⟨Nat.zero_le _, Nat.zero_le _⟩) hP hS (gSub rfl) rfl rfl rfl rfl rfl (fun H locs hP hS => ?_)
  cases hf
  exact W.iret hx hb hr (fun t ht hW => ⟨⟨rfl, by rw [ht]; exact hP⟩, hS.F ht⟩) hS.2.2 dX8_insert_41
set_option maxHeartbeats 4000000 in
set_option maxRecDepth 100000 in
theorem kX8_insertx (l : Launch) (hlt : l.stackTraces = false) (D : va_G) (cI cJ cD : ClassId) (sa : Nat → Nat) (q : Nat → Nat) (hq : gInj 14 q) (N : Nat) (Tn : Int32) (Ta : (Nat → Int32)) (p1 : Int32) (p2 : Int32) (e0 : Nat) (Tn9 : Int32) (Ta9 : (Nat → Int32)) (hf : fX8_insert N Tn Ta p1 p2 = some (.inl (e0, Tn9, Ta9))) : vx_Met l yX8_insert wsX8_insert rX8_insertx (gPx D cI cJ cD sa (gA q [0, 1, 2]) [.ref (q 0), .int p1, .int p2] (w_0_1_2 q cI cJ cD Tn Ta)) (fun _ _ _ _ => False) (gX D (gEn e0) (w_0_1_2 q cI cJ cD Tn9 Ta9) (gA q [0, 1, 2])) 1 6 (gA q [0, 1, 2]) := by
  refine vx_ofW (cc := cX8_insert) (maxL := 3) (ret := (some .int)) (by decide +kernel) rfl ?_
  intro p e s m args below meth c s₁ B hml htab hv
  obtain ⟨rfl, hP, hE, hXe⟩ := hv
  have hx := B.exec
  have hb := B.bytes
  have hr := B.returns
  have hts := atoms_spec (ws := wsX8_insert) B.pre
  have hown : s.vm.findClass RX8 = some m.cls := findClass_of_methodNamed B.named
  have hlocks := B.notSynchronized
  have hS : va_S (gA q [0, 1, 2]) s.heap s.heap [] := va_S.rf
  have hl := lv_entry ([.ref (q 0), .int p1, .int p2]) (n := 3) (Nat.le_of_ble_eq_true rfl)
  rw [lg_entry_eq]
  generalize (lg_sl ([.ref (q 0), .int p1, .int p2]) ++ List.replicate (3 - (lg_sl ([.ref (q 0), .int p1, .int p2])).length) Slot.unset).toArray = ls at hl ⊢
  have hl : lv_has ls 3 [(0, .ref (q 0)), (1, .int p1), (2, .int p2)] := hl
  have hk10 := hts (.fieldLink RX8 10 "LyndonText" "text" "LLyndonText$Letters;") (by decide +kernel)
  have huX8 : ∀ w ∈ u_ws RX8 TX8 6, w ∈ wsX8_insert := by decide +kernel
  unfold fX8_insert at hf
  refine lv_iload_n hx hb dX8_insert_0 rfl (lv_at hl 1 rfl) ?_
  refine lv_aload_n hx hb dX8_insert_1 rfl (lv_at hl 0 rfl) ?_
  refine va_get (D := D) (ci := 6) (v := .ref (q 1)) (C := RX8) (T := TX8) (N := 6) hx hb hts huX8 hown hE.1 hP 0 rfl rfl 0 (by decide) hk10 (fun _ h9 => h9) rfl dX8_insert_2 ?_
  obtain ⟨r5, hc, hf⟩ := bn_some hf
  try dsimp only at hf
  refine g_call0 (ws' := (w_0_1_2 q cI cJ cD Tn Ta)) (st1 := [.int r5, .int p1]) hq [0, 1, 2] [1] [.inr 0, .inl 0, .inr 2] (va_runV (As := []) (rest := [.int p1]) ⟨hx, hb, hml, hown, hts⟩ (kX2_count l D cI cJ cD q hq N Tn r5 hc) (cwV 0 hts gX8_insert_X2_count rfl rfl rfl (by decide +kernel) ⟨(Nat.le_of_ble_eq_true rfl), (Nat.le_of_ble_eq_true rfl)⟩) ⟨gP_blind, va_recv hE.1 hP (ci := 2) (q0 := 1) rfl rfl, fun U hU hW => ⟨rfl, by rw [hU]; exact hP.sub (ws' := (w_1 q cI cJ cD Tn)) [1] rfl, gEv.warm hW hE⟩⟩ rfl rfl hl.1 rfl (lv_room (Nat.le_of_ble_eq_true rfl)) dX8_insert_5 ⟨Nat.zero_le _, Nat.zero_le _⟩) hP hS (gSub rfl) rfl rfl rfl rfl rfl (fun H locs hP hS => ?_)
  refine lv_iconst (v := (1 : Int32)) hx hb dX8_insert_8 (by decide) ?_
  refine lv_iadd hx hb dX8_insert_9 ?_
  rcases bx_some hf with ⟨e10, hc, hf⟩ | ⟨⟨⟩, hc, hf⟩
  · try dsimp only at hf
    refine g_callX (ws' := (w_0_1_2 q cI cJ cD Tn Ta)) hq [0, 1, 2] [] [.inr 0, .inr 1, .inr 2] (vx_runS (As := [.int p1, .int (r5 + (1 : Int32))]) (rest := []) ⟨hx, hb, hml, hown, hts⟩ (kX8_checkIndexx l hlt D cI cJ cD sa q hq N p1 (r5 + (1 : Int32)) e10 hc) (va_cwS 2 hts gX8_insert_X8_checkIndex rfl rfl rfl (by decide +kernel) ⟨(Nat.le_of_ble_eq_true rfl), (Nat.le_of_ble_eq_true rfl)⟩) ⟨gPx_blind, fun U hU hW => ⟨rfl, by rw [hU]; exact hP.sub (ws' := (w_0none q cI cJ cD)) [] rfl, gEv.warm hW hE, gXe.go hW hS (gMono rfl) hXe hU⟩⟩ rfl rfl hl.1 rfl (lv_room (Nat.le_of_ble_eq_true rfl)) dX8_insert_10 ⟨(Nat.le_of_ble_eq_true rfl), (Nat.le_of_ble_eq_true rfl)⟩) hP hS (gSub rfl) rfl rfl rfl rfl (fun ce q9 H locs hP hS hce hcv hcl => ?_)
    cases hf
    exact vx_out (fun x9 hx9 => (htab x9 hx9).elim) hlocks hce hcv hcl (fun t ht hv => ⟨rfl, by rw [ht]; exact hP, hS.F ht⟩) hS.2.2 (Nat.le_of_ble_eq_true rfl) (Nat.le_of_ble_eq_true rfl)
  try dsimp only at hf
  refine g_call0 (ws' := (w_0_1_2 q cI cJ cD Tn Ta)) (st1 := []) hq [0, 1, 2] [] [.inr 0, .inr 1, .inr 2] (va_runS (As := [.int p1, .int (r5 + (1 : Int32))]) (rest := []) ⟨hx, hb, hml, hown, hts⟩ (kX8_checkIndex l D cI cJ cD q hq N p1 (r5 + (1 : Int32)) hc) (va_cwS 2 hts gX8_insert_X8_checkIndex rfl rfl rfl (by decide +kernel) ⟨(Nat.le_of_ble_eq_true rfl), (Nat.le_of_ble_eq_true rfl)⟩) ⟨gP_blind, fun U hU hW => ⟨rfl, by rw [hU]; exact hP.sub (ws' := (w_0none q cI cJ cD)) [] rfl, gEv.warm hW hE⟩⟩ rfl rfl hl.1 rfl (lv_room (Nat.le_of_ble_eq_true rfl)) dX8_insert_10 ⟨Nat.zero_le _, Nat.zero_le _⟩) hP hS (gSub rfl) rfl rfl rfl rfl rfl (fun H locs hP hS => ?_)
  refine lv_iload_n hx hb dX8_insert_13 rfl (lv_at hl 2 rfl) ?_
  refine lv_iconst (v := (0 : Int32)) hx hb dX8_insert_14 (by decide) ?_
  refine lv_bipush (v := (25 : Int32)) hx hb dX8_insert_15 (by decide) ?_
  rcases bx_some hf with ⟨e17, hc, hf⟩ | ⟨⟨⟩, hc, hf⟩
  · try dsimp only at hf
    refine g_callX (ws' := (w_0_1_2 q cI cJ cD Tn Ta)) hq [0, 1, 2] [] [.inr 0, .inr 1, .inr 2] (vx_runS (As := [.int p2, .int (0 : Int32), .int (25 : Int32)]) (rest := []) ⟨hx, hb, hml, hown, hts⟩ (kX8_checkArgumentx l hlt D cI cJ cD sa q hq N p2 (0 : Int32) (25 : Int32) e17 hc) (va_cwS 3 hts gX8_insert_X8_checkArgument rfl rfl rfl (by decide +kernel) ⟨(Nat.le_of_ble_eq_true rfl), (Nat.le_of_ble_eq_true rfl)⟩) ⟨gPx_blind, fun U hU hW => ⟨rfl, by rw [hU]; exact hP.sub (ws' := (w_0none q cI cJ cD)) [] rfl, gEv.warm hW hE, gXe.go hW hS (gMono rfl) hXe hU⟩⟩ rfl rfl hl.1 rfl (lv_room (Nat.le_of_ble_eq_true rfl)) dX8_insert_17 ⟨(Nat.le_of_ble_eq_true rfl), (Nat.le_of_ble_eq_true rfl)⟩) hP hS (gSub rfl) rfl rfl rfl rfl (fun ce q9 H locs hP hS hce hcv hcl => ?_)
    cases hf
    exact vx_out (fun x9 hx9 => (htab x9 hx9).elim) hlocks hce hcv hcl (fun t ht hv => ⟨rfl, by rw [ht]; exact hP, hS.F ht⟩) hS.2.2 (Nat.le_of_ble_eq_true rfl) (Nat.le_of_ble_eq_true rfl)
  try dsimp only at hf
  refine g_call0 (ws' := (w_0_1_2 q cI cJ cD Tn Ta)) (st1 := []) hq [0, 1, 2] [] [.inr 0, .inr 1, .inr 2] (va_runS (As := [.int p2, .int (0 : Int32), .int (25 : Int32)]) (rest := []) ⟨hx, hb, hml, hown, hts⟩ (kX8_checkArgument l D cI cJ cD q hq N p2 (0 : Int32) (25 : Int32) hc) (va_cwS 3 hts gX8_insert_X8_checkArgument rfl rfl rfl (by decide +kernel) ⟨(Nat.le_of_ble_eq_true rfl), (Nat.le_of_ble_eq_true rfl)⟩) ⟨gP_blind, fun U hU hW => ⟨rfl, by rw [hU]; exact hP.sub (ws' := (w_0none q cI cJ cD)) [] rfl, gEv.warm hW hE⟩⟩ rfl rfl hl.1 rfl (lv_room (Nat.le_of_ble_eq_true rfl)) dX8_insert_17 ⟨Nat.zero_le _, Nat.zero_le _⟩) hP hS (gSub rfl) rfl rfl rfl rfl rfl (fun H locs hP hS => ?_)
  refine lv_aload_n hx hb dX8_insert_20 rfl (lv_at hl 0 rfl) ?_
  refine lv_iconst (v := (1 : Int32)) hx hb dX8_insert_21 (by decide) ?_
  rcases bx_some hf with ⟨e22, hc, hf⟩ | ⟨⟨⟩, hc, hf⟩
  · try dsimp only at hf
    refine g_callX (ws' := (w_0_1_2 q cI cJ cD Tn Ta)) hq [0, 1, 2] [0, 1] [.inl 0, .inl 1, .inr 2] (vx_runV (As := [.int (1 : Int32)]) (rest := []) ⟨hx, hb, hml, hown, hts⟩ (kX8_checkRoomx l hlt D cI cJ cD sa q hq N Tn (1 : Int32) e22 hc) (cwV 1 hts gX8_insert_X8_checkRoom rfl rfl rfl (by decide +kernel) ⟨(Nat.le_of_ble_eq_true rfl), (Nat.le_of_ble_eq_true rfl)⟩) ⟨gPx_blind, va_recv hE.1 hP (ci := 6) (q0 := 0) rfl rfl, fun U hU hW => ⟨rfl, by rw [hU]; exact hP.sub (ws' := (w_0_1 q cI cJ cD Tn)) [0, 1] rfl, gEv.warm hW hE, gXe.go hW hS (gMono rfl) hXe hU⟩⟩ rfl rfl hl.1 rfl (lv_room (Nat.le_of_ble_eq_true rfl)) dX8_insert_22 ⟨(Nat.le_of_ble_eq_true rfl), (Nat.le_of_ble_eq_true rfl)⟩) hP hS (gSub rfl) rfl rfl rfl rfl (fun ce q9 H locs hP hS hce hcv hcl => ?_)
    cases hf
    exact vx_out (fun x9 hx9 => (htab x9 hx9).elim) hlocks hce hcv hcl (fun t ht hv => ⟨rfl, by rw [ht]; exact hP, hS.F ht⟩) hS.2.2 (Nat.le_of_ble_eq_true rfl) (Nat.le_of_ble_eq_true rfl)
  try dsimp only at hf
  refine g_call0 (ws' := (w_0_1_2 q cI cJ cD Tn Ta)) (st1 := []) hq [0, 1, 2] [0, 1] [.inl 0, .inl 1, .inr 2] (va_runV (As := [.int (1 : Int32)]) (rest := []) ⟨hx, hb, hml, hown, hts⟩ (kX8_checkRoom l D cI cJ cD q hq N Tn (1 : Int32) hc) (cwV 1 hts gX8_insert_X8_checkRoom rfl rfl rfl (by decide +kernel) ⟨(Nat.le_of_ble_eq_true rfl), (Nat.le_of_ble_eq_true rfl)⟩) ⟨gP_blind, va_recv hE.1 hP (ci := 6) (q0 := 0) rfl rfl, fun U hU hW => ⟨rfl, by rw [hU]; exact hP.sub (ws' := (w_0_1 q cI cJ cD Tn)) [0, 1] rfl, gEv.warm hW hE⟩⟩ rfl rfl hl.1 rfl (lv_room (Nat.le_of_ble_eq_true rfl)) dX8_insert_22 ⟨Nat.zero_le _, Nat.zero_le _⟩) hP hS (gSub rfl) rfl rfl rfl rfl rfl (fun H locs hP hS => ?_)
  refine lv_aload_n hx hb dX8_insert_25 rfl (lv_at hl 0 rfl) ?_
  refine va_get (D := D) (ci := 6) (v := .ref (q 1)) (C := RX8) (T := TX8) (N := 6) hx hb hts huX8 hown hE.1 hP 0 rfl rfl 0 (by decide) hk10 (fun _ h9 => h9) rfl dX8_insert_26 ?_
  refine lv_iload_n hx hb dX8_insert_29 rfl (lv_at hl 1 rfl) ?_
  refine lv_iload_n hx hb dX8_insert_30 rfl (lv_at hl 2 rfl) ?_
  obtain ⟨⟨Tn31, Ta31⟩, hc, hf⟩ := bn_some hf
  try dsimp only at hf
  refine g_call0 (ws' := (w_0_1_2 q cI cJ cD Tn31 Ta31)) (st1 := []) hq [0, 1, 2] [1, 2] [.inr 0, .inl 0, .inl 1] (va_runV (As := [.int p1, .int p2]) (rest := []) ⟨hx, hb, hml, hown, hts⟩ (kX2_open l D cI cJ cD q hq N Tn Ta p1 p2 Tn31 Ta31 hc) (cwV 2 hts gX8_insert_X2_open rfl rfl rfl (by decide +kernel) ⟨(Nat.le_of_ble_eq_true rfl), (Nat.le_of_ble_eq_true rfl)⟩) ⟨gP_blind, va_recv hE.1 hP (ci := 2) (q0 := 1) rfl rfl, fun U hU hW => ⟨rfl, by rw [hU]; exact hP.sub (ws' := (w_1_2 q cI cJ cD Tn Ta)) [1, 2] rfl, gEv.warm hW hE⟩⟩ rfl rfl hl.1 rfl (lv_room (Nat.le_of_ble_eq_true rfl)) dX8_insert_31 ⟨Nat.zero_le _, Nat.zero_le _⟩) hP hS (gSub rfl) rfl rfl rfl rfl rfl (fun H locs hP hS => ?_)
  refine lv_aload_n hx hb dX8_insert_34 rfl (lv_at hl 0 rfl) ?_
  refine va_get (D := D) (ci := 6) (v := .ref (q 1)) (C := RX8) (T := TX8) (N := 6) hx hb hts huX8 hown hE.1 hP 0 rfl rfl 0 (by decide) hk10 (fun _ h9 => h9) rfl dX8_insert_35 ?_
  obtain ⟨r38, hc, hf⟩ := bn_some hf
  try dsimp only at hf
  refine g_call0 (ws' := (w_0_1_2 q cI cJ cD Tn31 Ta31)) (st1 := [.int r38]) hq [0, 1, 2] [1] [.inr 0, .inl 0, .inr 2] (va_runV (As := []) (rest := []) ⟨hx, hb, hml, hown, hts⟩ (kX2_count l D cI cJ cD q hq N Tn31 r38 hc) (cwV 0 hts gX8_insert_X2_count rfl rfl rfl (by decide +kernel) ⟨(Nat.le_of_ble_eq_true rfl), (Nat.le_of_ble_eq_true rfl)⟩) ⟨gP_blind, va_recv hE.1 hP (ci := 2) (q0 := 1) rfl rfl, fun U hU hW => ⟨rfl, by rw [hU]; exact hP.sub (ws' := (w_1 q cI cJ cD Tn31)) [1] rfl, gEv.warm hW hE⟩⟩ rfl rfl hl.1 rfl (lv_room (Nat.le_of_ble_eq_true rfl)) dX8_insert_38 ⟨Nat.zero_le _, Nat.zero_le _⟩) hP hS (gSub rfl) rfl rfl rfl rfl rfl (fun H locs hP hS => ?_)
  exact nomatch hf
set_option maxHeartbeats 4000000 in
set_option maxRecDepth 100000 in
theorem kX8_set (l : Launch) (D : va_G) (cI cJ cD : ClassId) (q : Nat → Nat) (hq : gInj 14 q) (N : Nat) (Tn : Int32) (Ta : (Nat → Int32)) (p1 : Int32) (p2 : Int32) (r0 : Int32) (Ta9 : (Nat → Int32)) (hf : fX8_set N Tn Ta p1 p2 = some (.inr (r0, Ta9))) : Met l yX8_set wsX8_set rX8_set (gP D cI cJ cD [.ref (q 0), .int p1, .int p2] (w_0_1_2 q cI cJ cD Tn Ta)) (gQ D (some (.int r0)) (w_0_1_2 q cI cJ cD Tn Ta9) (gA q [0, 1, 2])) 0 0 (gA q [0, 1, 2]) := by
  refine Met.ofW (cc := cX8_set) (maxL := 4) (ret := (some .int)) (by decide +kernel) rfl ?_
  intro p e s m args below meth c s₁ B hml hv
  obtain ⟨rfl, hP, hE⟩ := hv
  have hx := B.exec
  have hb := B.bytes
  have hr := B.returns
  have hts := atoms_spec (ws := wsX8_set) B.pre
  have hown : s.vm.findClass RX8 = some m.cls := findClass_of_methodNamed B.named
  have hlocks := B.notSynchronized
  have hS : va_S (gA q [0, 1, 2]) s.heap s.heap [] := va_S.rf
  have hl := lv_entry ([.ref (q 0), .int p1, .int p2]) (n := 4) (Nat.le_of_ble_eq_true rfl)
  rw [lg_entry_eq]
  generalize (lg_sl ([.ref (q 0), .int p1, .int p2]) ++ List.replicate (4 - (lg_sl ([.ref (q 0), .int p1, .int p2])).length) Slot.unset).toArray = ls at hl ⊢
  have hl : lv_has ls 4 [(0, .ref (q 0)), (1, .int p1), (2, .int p2)] := hl
  have hk10 := hts (.fieldLink RX8 10 "LyndonText" "text" "LLyndonText$Letters;") (by decide +kernel)
  have huX8 : ∀ w ∈ u_ws RX8 TX8 6, w ∈ wsX8_set := by decide +kernel
  unfold fX8_set at hf
  refine lv_iload_n hx hb dX8_set_0 rfl (lv_at hl 1 rfl) ?_
  refine lv_aload_n hx hb dX8_set_1 rfl (lv_at hl 0 rfl) ?_
  refine va_get (D := D) (ci := 6) (v := .ref (q 1)) (C := RX8) (T := TX8) (N := 6) hx hb hts huX8 hown hE.1 hP 0 rfl rfl 0 (by decide) hk10 (fun _ h9 => h9) rfl dX8_set_2 ?_
  obtain ⟨r5, hc, hf⟩ := bn_some hf
  try dsimp only at hf
  refine g_call0 (ws' := (w_0_1_2 q cI cJ cD Tn Ta)) (st1 := [.int r5, .int p1]) hq [0, 1, 2] [1] [.inr 0, .inl 0, .inr 2] (va_runV (As := []) (rest := [.int p1]) ⟨hx, hb, hml, hown, hts⟩ (kX2_count l D cI cJ cD q hq N Tn r5 hc) (cwV 0 hts gX8_set_X2_count rfl rfl rfl (by decide +kernel) ⟨(Nat.le_of_ble_eq_true rfl), (Nat.le_of_ble_eq_true rfl)⟩) ⟨gP_blind, va_recv hE.1 hP (ci := 2) (q0 := 1) rfl rfl, fun U hU hW => ⟨rfl, by rw [hU]; exact hP.sub (ws' := (w_1 q cI cJ cD Tn)) [1] rfl, gEv.warm hW hE⟩⟩ rfl rfl hl.1 rfl (lv_room (Nat.le_of_ble_eq_true rfl)) dX8_set_5 ⟨Nat.zero_le _, Nat.zero_le _⟩) hP hS (gSub rfl) rfl rfl rfl rfl rfl (fun H locs hP hS => ?_)
  rcases bx_some hf with ⟨e8, hc, hf⟩ | ⟨⟨⟩, hc, hf⟩
  · exact nomatch hf
  try dsimp only at hf
  refine g_call0 (ws' := (w_0_1_2 q cI cJ cD Tn Ta)) (st1 := []) hq [0, 1, 2] [] [.inr 0, .inr 1, .inr 2] (va_runS (As := [.int p1, .int r5]) (rest := []) ⟨hx, hb, hml, hown, hts⟩ (kX8_checkIndex l D cI cJ cD q hq N p1 r5 hc) (va_cwS 2 hts gX8_set_X8_checkIndex rfl rfl rfl (by decide +kernel) ⟨(Nat.le_of_ble_eq_true rfl), (Nat.le_of_ble_eq_true rfl)⟩) ⟨gP_blind, fun U hU hW => ⟨rfl, by rw [hU]; exact hP.sub (ws' := (w_0none q cI cJ cD)) [] rfl, gEv.warm hW hE⟩⟩ rfl rfl hl.1 rfl (lv_room (Nat.le_of_ble_eq_true rfl)) dX8_set_8 ⟨Nat.zero_le _, Nat.zero_le _⟩) hP hS (gSub rfl) rfl rfl rfl rfl rfl (fun H locs hP hS => ?_)
  refine lv_iload_n hx hb dX8_set_11 rfl (lv_at hl 2 rfl) ?_
  refine lv_iconst (v := (0 : Int32)) hx hb dX8_set_12 (by decide) ?_
  refine lv_bipush (v := (25 : Int32)) hx hb dX8_set_13 (by decide) ?_
  rcases bx_some hf with ⟨e15, hc, hf⟩ | ⟨⟨⟩, hc, hf⟩
  · exact nomatch hf
  try dsimp only at hf
  refine g_call0 (ws' := (w_0_1_2 q cI cJ cD Tn Ta)) (st1 := []) hq [0, 1, 2] [] [.inr 0, .inr 1, .inr 2] (va_runS (As := [.int p2, .int (0 : Int32), .int (25 : Int32)]) (rest := []) ⟨hx, hb, hml, hown, hts⟩ (kX8_checkArgument l D cI cJ cD q hq N p2 (0 : Int32) (25 : Int32) hc) (va_cwS 3 hts gX8_set_X8_checkArgument rfl rfl rfl (by decide +kernel) ⟨(Nat.le_of_ble_eq_true rfl), (Nat.le_of_ble_eq_true rfl)⟩) ⟨gP_blind, fun U hU hW => ⟨rfl, by rw [hU]; exact hP.sub (ws' := (w_0none q cI cJ cD)) [] rfl, gEv.warm hW hE⟩⟩ rfl rfl hl.1 rfl (lv_room (Nat.le_of_ble_eq_true rfl)) dX8_set_15 ⟨Nat.zero_le _, Nat.zero_le _⟩) hP hS (gSub rfl) rfl rfl rfl rfl rfl (fun H locs hP hS => ?_)
  refine lv_aload_n hx hb dX8_set_18 rfl (lv_at hl 0 rfl) ?_
  refine va_get (D := D) (ci := 6) (v := .ref (q 1)) (C := RX8) (T := TX8) (N := 6) hx hb hts huX8 hown hE.1 hP 0 rfl rfl 0 (by decide) hk10 (fun _ h9 => h9) rfl dX8_set_19 ?_
  refine lv_iload_n hx hb dX8_set_22 rfl (lv_at hl 1 rfl) ?_
  obtain ⟨r23, hc, hf⟩ := bn_some hf
  try dsimp only at hf
  refine g_call0 (ws' := (w_0_1_2 q cI cJ cD Tn Ta)) (st1 := [.int r23]) hq [0, 1, 2] [1, 2] [.inr 0, .inl 0, .inl 1] (va_runV (As := [.int p1]) (rest := []) ⟨hx, hb, hml, hown, hts⟩ (kX2_letter l D cI cJ cD q hq N Tn Ta p1 r23 hc) (cwV 1 hts gX8_set_X2_letter rfl rfl rfl (by decide +kernel) ⟨(Nat.le_of_ble_eq_true rfl), (Nat.le_of_ble_eq_true rfl)⟩) ⟨gP_blind, va_recv hE.1 hP (ci := 2) (q0 := 1) rfl rfl, fun U hU hW => ⟨rfl, by rw [hU]; exact hP.sub (ws' := (w_1_2 q cI cJ cD Tn Ta)) [1, 2] rfl, gEv.warm hW hE⟩⟩ rfl rfl hl.1 rfl (lv_room (Nat.le_of_ble_eq_true rfl)) dX8_set_23 ⟨Nat.zero_le _, Nat.zero_le _⟩) hP hS (gSub rfl) rfl rfl rfl rfl rfl (fun H locs hP hS => ?_)
  refine lv_istore_n (lv' := [(3, .int r23), (0, .ref (q 0)), (1, .int p1), (2, .int p2)]) hx hb dX8_set_26 rfl hl (by decide) rfl (fun ls hl => ?_)
  refine lv_aload_n hx hb dX8_set_27 rfl (lv_at hl 1 rfl) ?_
  refine va_get (D := D) (ci := 6) (v := .ref (q 1)) (C := RX8) (T := TX8) (N := 6) hx hb hts huX8 hown hE.1 hP 0 rfl rfl 0 (by decide) hk10 (fun _ h9 => h9) rfl dX8_set_28 ?_
  refine lv_iload_n hx hb dX8_set_31 rfl (lv_at hl 2 rfl) ?_
  refine lv_iload_n hx hb dX8_set_32 rfl (lv_at hl 3 rfl) ?_
  obtain ⟨Ta33, hc, hf⟩ := bn_some hf
  try dsimp only at hf
  refine g_call0 (ws' := (w_0_1_2 q cI cJ cD Tn Ta33)) (st1 := []) hq [0, 1, 2] [1, 2] [.inr 0, .inl 0, .inl 1] (va_runV (As := [.int p1, .int p2]) (rest := []) ⟨hx, hb, hml, hown, hts⟩ (kX2_write l D cI cJ cD q hq N Tn Ta p1 p2 Ta33 hc) (cwV 2 hts gX8_set_X2_write rfl rfl rfl (by decide +kernel) ⟨(Nat.le_of_ble_eq_true rfl), (Nat.le_of_ble_eq_true rfl)⟩) ⟨gP_blind, va_recv hE.1 hP (ci := 2) (q0 := 1) rfl rfl, fun U hU hW => ⟨rfl, by rw [hU]; exact hP.sub (ws' := (w_1_2 q cI cJ cD Tn Ta)) [1, 2] rfl, gEv.warm hW hE⟩⟩ rfl rfl hl.1 rfl (lv_room (Nat.le_of_ble_eq_true rfl)) dX8_set_33 ⟨Nat.zero_le _, Nat.zero_le _⟩) hP hS (gSub rfl) rfl rfl rfl rfl rfl (fun H locs hP hS => ?_)
  refine lv_iload_n hx hb dX8_set_36 rfl (lv_at hl 0 rfl) ?_
  cases hf
  exact W.iret hx hb hr (fun t ht hW => ⟨⟨rfl, by rw [ht]; exact hP⟩, hS.F ht⟩) hS.2.2 dX8_set_37
set_option maxHeartbeats 4000000 in
set_option maxRecDepth 100000 in
theorem kX8_setx (l : Launch) (hlt : l.stackTraces = false) (D : va_G) (cI cJ cD : ClassId) (sa : Nat → Nat) (q : Nat → Nat) (hq : gInj 14 q) (N : Nat) (Tn : Int32) (Ta : (Nat → Int32)) (p1 : Int32) (p2 : Int32) (e0 : Nat) (Ta9 : (Nat → Int32)) (hf : fX8_set N Tn Ta p1 p2 = some (.inl (e0, Ta9))) : vx_Met l yX8_set wsX8_set rX8_setx (gPx D cI cJ cD sa (gA q [0, 1, 2]) [.ref (q 0), .int p1, .int p2] (w_0_1_2 q cI cJ cD Tn Ta)) (fun _ _ _ _ => False) (gX D (gEn e0) (w_0_1_2 q cI cJ cD Tn Ta9) (gA q [0, 1, 2])) 1 6 (gA q [0, 1, 2]) := by
  refine vx_ofW (cc := cX8_set) (maxL := 4) (ret := (some .int)) (by decide +kernel) rfl ?_
  intro p e s m args below meth c s₁ B hml htab hv
  obtain ⟨rfl, hP, hE, hXe⟩ := hv
  have hx := B.exec
  have hb := B.bytes
  have hr := B.returns
  have hts := atoms_spec (ws := wsX8_set) B.pre
  have hown : s.vm.findClass RX8 = some m.cls := findClass_of_methodNamed B.named
  have hlocks := B.notSynchronized
  have hS : va_S (gA q [0, 1, 2]) s.heap s.heap [] := va_S.rf
  have hl := lv_entry ([.ref (q 0), .int p1, .int p2]) (n := 4) (Nat.le_of_ble_eq_true rfl)
  rw [lg_entry_eq]
  generalize (lg_sl ([.ref (q 0), .int p1, .int p2]) ++ List.replicate (4 - (lg_sl ([.ref (q 0), .int p1, .int p2])).length) Slot.unset).toArray = ls at hl ⊢
  have hl : lv_has ls 4 [(0, .ref (q 0)), (1, .int p1), (2, .int p2)] := hl
  have hk10 := hts (.fieldLink RX8 10 "LyndonText" "text" "LLyndonText$Letters;") (by decide +kernel)
  have huX8 : ∀ w ∈ u_ws RX8 TX8 6, w ∈ wsX8_set := by decide +kernel
  unfold fX8_set at hf
  refine lv_iload_n hx hb dX8_set_0 rfl (lv_at hl 1 rfl) ?_
  refine lv_aload_n hx hb dX8_set_1 rfl (lv_at hl 0 rfl) ?_
  refine va_get (D := D) (ci := 6) (v := .ref (q 1)) (C := RX8) (T := TX8) (N := 6) hx hb hts huX8 hown hE.1 hP 0 rfl rfl 0 (by decide) hk10 (fun _ h9 => h9) rfl dX8_set_2 ?_
  obtain ⟨r5, hc, hf⟩ := bn_some hf
  try dsimp only at hf
  refine g_call0 (ws' := (w_0_1_2 q cI cJ cD Tn Ta)) (st1 := [.int r5, .int p1]) hq [0, 1, 2] [1] [.inr 0, .inl 0, .inr 2] (va_runV (As := []) (rest := [.int p1]) ⟨hx, hb, hml, hown, hts⟩ (kX2_count l D cI cJ cD q hq N Tn r5 hc) (cwV 0 hts gX8_set_X2_count rfl rfl rfl (by decide +kernel) ⟨(Nat.le_of_ble_eq_true rfl), (Nat.le_of_ble_eq_true rfl)⟩) ⟨gP_blind, va_recv hE.1 hP (ci := 2) (q0 := 1) rfl rfl, fun U hU hW => ⟨rfl, by rw [hU]; exact hP.sub (ws' := (w_1 q cI cJ cD Tn)) [1] rfl, gEv.warm hW hE⟩⟩ rfl rfl hl.1 rfl (lv_room (Nat.le_of_ble_eq_true rfl)) dX8_set_5 ⟨Nat.zero_le _, Nat.zero_le _⟩) hP hS (gSub rfl) rfl rfl rfl rfl rfl (fun H locs hP hS => ?_)
  rcases bx_some hf with ⟨e8, hc, hf⟩ | ⟨⟨⟩, hc, hf⟩
  · try dsimp only at hf
    refine g_callX (ws' := (w_0_1_2 q cI cJ cD Tn Ta)) hq [0, 1, 2] [] [.inr 0, .inr 1, .inr 2] (vx_runS (As := [.int p1, .int r5]) (rest := []) ⟨hx, hb, hml, hown, hts⟩ (kX8_checkIndexx l hlt D cI cJ cD sa q hq N p1 r5 e8 hc) (va_cwS 2 hts gX8_set_X8_checkIndex rfl rfl rfl (by decide +kernel) ⟨(Nat.le_of_ble_eq_true rfl), (Nat.le_of_ble_eq_true rfl)⟩) ⟨gPx_blind, fun U hU hW => ⟨rfl, by rw [hU]; exact hP.sub (ws' := (w_0none q cI cJ cD)) [] rfl, gEv.warm hW hE, gXe.go hW hS (gMono rfl) hXe hU⟩⟩ rfl rfl hl.1 rfl (lv_room (Nat.le_of_ble_eq_true rfl)) dX8_set_8 ⟨(Nat.le_of_ble_eq_true rfl), (Nat.le_of_ble_eq_true rfl)⟩) hP hS (gSub rfl) rfl rfl rfl rfl (fun ce q9 H locs hP hS hce hcv hcl => ?_)
    cases hf
    exact vx_out (fun x9 hx9 => (htab x9 hx9).elim) hlocks hce hcv hcl (fun t ht hv => ⟨rfl, by rw [ht]; exact hP, hS.F ht⟩) hS.2.2 (Nat.le_of_ble_eq_true rfl) (Nat.le_of_ble_eq_true rfl)
  try dsimp only at hf
  refine g_call0 (ws' := (w_0_1_2 q cI cJ cD Tn Ta)) (st1 := []) hq [0, 1, 2] [] [.inr 0, .inr 1, .inr 2] (va_runS (As := [.int p1, .int r5]) (rest := []) ⟨hx, hb, hml, hown, hts⟩ (kX8_checkIndex l D cI cJ cD q hq N p1 r5 hc) (va_cwS 2 hts gX8_set_X8_checkIndex rfl rfl rfl (by decide +kernel) ⟨(Nat.le_of_ble_eq_true rfl), (Nat.le_of_ble_eq_true rfl)⟩) ⟨gP_blind, fun U hU hW => ⟨rfl, by rw [hU]; exact hP.sub (ws' := (w_0none q cI cJ cD)) [] rfl, gEv.warm hW hE⟩⟩ rfl rfl hl.1 rfl (lv_room (Nat.le_of_ble_eq_true rfl)) dX8_set_8 ⟨Nat.zero_le _, Nat.zero_le _⟩) hP hS (gSub rfl) rfl rfl rfl rfl rfl (fun H locs hP hS => ?_)
  refine lv_iload_n hx hb dX8_set_11 rfl (lv_at hl 2 rfl) ?_
  refine lv_iconst (v := (0 : Int32)) hx hb dX8_set_12 (by decide) ?_
  refine lv_bipush (v := (25 : Int32)) hx hb dX8_set_13 (by decide) ?_
  rcases bx_some hf with ⟨e15, hc, hf⟩ | ⟨⟨⟩, hc, hf⟩
  · try dsimp only at hf
    refine g_callX (ws' := (w_0_1_2 q cI cJ cD Tn Ta)) hq [0, 1, 2] [] [.inr 0, .inr 1, .inr 2] (vx_runS (As := [.int p2, .int (0 : Int32), .int (25 : Int32)]) (rest := []) ⟨hx, hb, hml, hown, hts⟩ (kX8_checkArgumentx l hlt D cI cJ cD sa q hq N p2 (0 : Int32) (25 : Int32) e15 hc) (va_cwS 3 hts gX8_set_X8_checkArgument rfl rfl rfl (by decide +kernel) ⟨(Nat.le_of_ble_eq_true rfl), (Nat.le_of_ble_eq_true rfl)⟩) ⟨gPx_blind, fun U hU hW => ⟨rfl, by rw [hU]; exact hP.sub (ws' := (w_0none q cI cJ cD)) [] rfl, gEv.warm hW hE, gXe.go hW hS (gMono rfl) hXe hU⟩⟩ rfl rfl hl.1 rfl (lv_room (Nat.le_of_ble_eq_true rfl)) dX8_set_15 ⟨(Nat.le_of_ble_eq_true rfl), (Nat.le_of_ble_eq_true rfl)⟩) hP hS (gSub rfl) rfl rfl rfl rfl (fun ce q9 H locs hP hS hce hcv hcl => ?_)
    cases hf
    exact vx_out (fun x9 hx9 => (htab x9 hx9).elim) hlocks hce hcv hcl (fun t ht hv => ⟨rfl, by rw [ht]; exact hP, hS.F ht⟩) hS.2.2 (Nat.le_of_ble_eq_true rfl) (Nat.le_of_ble_eq_true rfl)
  try dsimp only at hf
  refine g_call0 (ws' := (w_0_1_2 q cI cJ cD Tn Ta)) (st1 := []) hq [0, 1, 2] [] [.inr 0, .inr 1, .inr 2] (va_runS (As := [.int p2, .int (0 : Int32), .int (25 : Int32)]) (rest := []) ⟨hx, hb, hml, hown, hts⟩ (kX8_checkArgument l D cI cJ cD q hq N p2 (0 : Int32) (25 : Int32) hc) (va_cwS 3 hts gX8_set_X8_checkArgument rfl rfl rfl (by decide +kernel) ⟨(Nat.le_of_ble_eq_true rfl), (Nat.le_of_ble_eq_true rfl)⟩) ⟨gP_blind, fun U hU hW => ⟨rfl, by rw [hU]; exact hP.sub (ws' := (w_0none q cI cJ cD)) [] rfl, gEv.warm hW hE⟩⟩ rfl rfl hl.1 rfl (lv_room (Nat.le_of_ble_eq_true rfl)) dX8_set_15 ⟨Nat.zero_le _, Nat.zero_le _⟩) hP hS (gSub rfl) rfl rfl rfl rfl rfl (fun H locs hP hS => ?_)
  refine lv_aload_n hx hb dX8_set_18 rfl (lv_at hl 0 rfl) ?_
  refine va_get (D := D) (ci := 6) (v := .ref (q 1)) (C := RX8) (T := TX8) (N := 6) hx hb hts huX8 hown hE.1 hP 0 rfl rfl 0 (by decide) hk10 (fun _ h9 => h9) rfl dX8_set_19 ?_
  refine lv_iload_n hx hb dX8_set_22 rfl (lv_at hl 1 rfl) ?_
  obtain ⟨r23, hc, hf⟩ := bn_some hf
  try dsimp only at hf
  refine g_call0 (ws' := (w_0_1_2 q cI cJ cD Tn Ta)) (st1 := [.int r23]) hq [0, 1, 2] [1, 2] [.inr 0, .inl 0, .inl 1] (va_runV (As := [.int p1]) (rest := []) ⟨hx, hb, hml, hown, hts⟩ (kX2_letter l D cI cJ cD q hq N Tn Ta p1 r23 hc) (cwV 1 hts gX8_set_X2_letter rfl rfl rfl (by decide +kernel) ⟨(Nat.le_of_ble_eq_true rfl), (Nat.le_of_ble_eq_true rfl)⟩) ⟨gP_blind, va_recv hE.1 hP (ci := 2) (q0 := 1) rfl rfl, fun U hU hW => ⟨rfl, by rw [hU]; exact hP.sub (ws' := (w_1_2 q cI cJ cD Tn Ta)) [1, 2] rfl, gEv.warm hW hE⟩⟩ rfl rfl hl.1 rfl (lv_room (Nat.le_of_ble_eq_true rfl)) dX8_set_23 ⟨Nat.zero_le _, Nat.zero_le _⟩) hP hS (gSub rfl) rfl rfl rfl rfl rfl (fun H locs hP hS => ?_)
  refine lv_istore_n (lv' := [(3, .int r23), (0, .ref (q 0)), (1, .int p1), (2, .int p2)]) hx hb dX8_set_26 rfl hl (by decide) rfl (fun ls hl => ?_)
  refine lv_aload_n hx hb dX8_set_27 rfl (lv_at hl 1 rfl) ?_
  refine va_get (D := D) (ci := 6) (v := .ref (q 1)) (C := RX8) (T := TX8) (N := 6) hx hb hts huX8 hown hE.1 hP 0 rfl rfl 0 (by decide) hk10 (fun _ h9 => h9) rfl dX8_set_28 ?_
  refine lv_iload_n hx hb dX8_set_31 rfl (lv_at hl 2 rfl) ?_
  refine lv_iload_n hx hb dX8_set_32 rfl (lv_at hl 3 rfl) ?_
  obtain ⟨Ta33, hc, hf⟩ := bn_some hf
  try dsimp only at hf
  refine g_call0 (ws' := (w_0_1_2 q cI cJ cD Tn Ta33)) (st1 := []) hq [0, 1, 2] [1, 2] [.inr 0, .inl 0, .inl 1] (va_runV (As := [.int p1, .int p2]) (rest := []) ⟨hx, hb, hml, hown, hts⟩ (kX2_write l D cI cJ cD q hq N Tn Ta p1 p2 Ta33 hc) (cwV 2 hts gX8_set_X2_write rfl rfl rfl (by decide +kernel) ⟨(Nat.le_of_ble_eq_true rfl), (Nat.le_of_ble_eq_true rfl)⟩) ⟨gP_blind, va_recv hE.1 hP (ci := 2) (q0 := 1) rfl rfl, fun U hU hW => ⟨rfl, by rw [hU]; exact hP.sub (ws' := (w_1_2 q cI cJ cD Tn Ta)) [1, 2] rfl, gEv.warm hW hE⟩⟩ rfl rfl hl.1 rfl (lv_room (Nat.le_of_ble_eq_true rfl)) dX8_set_33 ⟨Nat.zero_le _, Nat.zero_le _⟩) hP hS (gSub rfl) rfl rfl rfl rfl rfl (fun H locs hP hS => ?_)
  refine lv_iload_n hx hb dX8_set_36 rfl (lv_at hl 0 rfl) ?_
  exact nomatch hf
set_option maxHeartbeats 4000000 in
set_option maxRecDepth 100000 in
theorem kX8_remove (l : Launch) (D : va_G) (cI cJ cD : ClassId) (q : Nat → Nat) (hq : gInj 14 q) (N : Nat) (Tn : Int32) (Ta : (Nat → Int32)) (p1 : Int32) (r0 : Int32) (Tn9 : Int32) (Ta9 : (Nat → Int32)) (hf : fX8_remove N Tn Ta p1 = some (.inr (r0, Tn9, Ta9))) : Met l yX8_remove wsX8_remove rX8_remove (gP D cI cJ cD [.ref (q 0), .int p1] (w_0_1_2 q cI cJ cD Tn Ta)) (gQ D (some (.int r0)) (w_0_1_2 q cI cJ cD Tn9 Ta9) (gA q [0, 1, 2])) 0 0 (gA q [0, 1, 2]) := by
  refine Met.ofW (cc := cX8_remove) (maxL := 2) (ret := (some .int)) (by decide +kernel) rfl ?_
  intro p e s m args below meth c s₁ B hml hv
  obtain ⟨rfl, hP, hE⟩ := hv
  have hx := B.exec
  have hb := B.bytes
  have hr := B.returns
  have hts := atoms_spec (ws := wsX8_remove) B.pre
  have hown : s.vm.findClass RX8 = some m.cls := findClass_of_methodNamed B.named
  have hlocks := B.notSynchronized
  have hS : va_S (gA q [0, 1, 2]) s.heap s.heap [] := va_S.rf
  have hl := lv_entry ([.ref (q 0), .int p1]) (n := 2) (Nat.le_of_ble_eq_true rfl)
  rw [lg_entry_eq]
  generalize (lg_sl ([.ref (q 0), .int p1]) ++ List.replicate (2 - (lg_sl ([.ref (q 0), .int p1])).length) Slot.unset).toArray = ls at hl ⊢
  have hl : lv_has ls 2 [(0, .ref (q 0)), (1, .int p1)] := hl
  have hk10 := hts (.fieldLink RX8 10 "LyndonText" "text" "LLyndonText$Letters;") (by decide +kernel)
  have huX8 : ∀ w ∈ u_ws RX8 TX8 6, w ∈ wsX8_remove := by decide +kernel
  unfold fX8_remove at hf
  refine lv_iload_n hx hb dX8_remove_0 rfl (lv_at hl 1 rfl) ?_
  refine lv_aload_n hx hb dX8_remove_1 rfl (lv_at hl 0 rfl) ?_
  refine va_get (D := D) (ci := 6) (v := .ref (q 1)) (C := RX8) (T := TX8) (N := 6) hx hb hts huX8 hown hE.1 hP 0 rfl rfl 0 (by decide) hk10 (fun _ h9 => h9) rfl dX8_remove_2 ?_
  obtain ⟨r5, hc, hf⟩ := bn_some hf
  try dsimp only at hf
  refine g_call0 (ws' := (w_0_1_2 q cI cJ cD Tn Ta)) (st1 := [.int r5, .int p1]) hq [0, 1, 2] [1] [.inr 0, .inl 0, .inr 2] (va_runV (As := []) (rest := [.int p1]) ⟨hx, hb, hml, hown, hts⟩ (kX2_count l D cI cJ cD q hq N Tn r5 hc) (cwV 0 hts gX8_remove_X2_count rfl rfl rfl (by decide +kernel) ⟨(Nat.le_of_ble_eq_true rfl), (Nat.le_of_ble_eq_true rfl)⟩) ⟨gP_blind, va_recv hE.1 hP (ci := 2) (q0 := 1) rfl rfl, fun U hU hW => ⟨rfl, by rw [hU]; exact hP.sub (ws' := (w_1 q cI cJ cD Tn)) [1] rfl, gEv.warm hW hE⟩⟩ rfl rfl hl.1 rfl (lv_room (Nat.le_of_ble_eq_true rfl)) dX8_remove_5 ⟨Nat.zero_le _, Nat.zero_le _⟩) hP hS (gSub rfl) rfl rfl rfl rfl rfl (fun H locs hP hS => ?_)
  rcases bx_some hf with ⟨e8, hc, hf⟩ | ⟨⟨⟩, hc, hf⟩
  · exact nomatch hf
  try dsimp only at hf
  refine g_call0 (ws' := (w_0_1_2 q cI cJ cD Tn Ta)) (st1 := []) hq [0, 1, 2] [] [.inr 0, .inr 1, .inr 2] (va_runS (As := [.int p1, .int r5]) (rest := []) ⟨hx, hb, hml, hown, hts⟩ (kX8_checkIndex l D cI cJ cD q hq N p1 r5 hc) (va_cwS 2 hts gX8_remove_X8_checkIndex rfl rfl rfl (by decide +kernel) ⟨(Nat.le_of_ble_eq_true rfl), (Nat.le_of_ble_eq_true rfl)⟩) ⟨gP_blind, fun U hU hW => ⟨rfl, by rw [hU]; exact hP.sub (ws' := (w_0none q cI cJ cD)) [] rfl, gEv.warm hW hE⟩⟩ rfl rfl hl.1 rfl (lv_room (Nat.le_of_ble_eq_true rfl)) dX8_remove_8 ⟨Nat.zero_le _, Nat.zero_le _⟩) hP hS (gSub rfl) rfl rfl rfl rfl rfl (fun H locs hP hS => ?_)
  refine lv_aload_n hx hb dX8_remove_11 rfl (lv_at hl 0 rfl) ?_
  refine va_get (D := D) (ci := 6) (v := .ref (q 1)) (C := RX8) (T := TX8) (N := 6) hx hb hts huX8 hown hE.1 hP 0 rfl rfl 0 (by decide) hk10 (fun _ h9 => h9) rfl dX8_remove_12 ?_
  refine lv_iload_n hx hb dX8_remove_15 rfl (lv_at hl 1 rfl) ?_
  obtain ⟨⟨r16, Tn16, Ta16⟩, hc, hf⟩ := bn_some hf
  try dsimp only at hf
  refine g_call0 (ws' := (w_0_1_2 q cI cJ cD Tn16 Ta16)) (st1 := [.int r16]) hq [0, 1, 2] [1, 2] [.inr 0, .inl 0, .inl 1] (va_runV (As := [.int p1]) (rest := []) ⟨hx, hb, hml, hown, hts⟩ (kX2_take l D cI cJ cD q hq N Tn Ta p1 r16 Tn16 Ta16 hc) (cwV 1 hts gX8_remove_X2_take rfl rfl rfl (by decide +kernel) ⟨(Nat.le_of_ble_eq_true rfl), (Nat.le_of_ble_eq_true rfl)⟩) ⟨gP_blind, va_recv hE.1 hP (ci := 2) (q0 := 1) rfl rfl, fun U hU hW => ⟨rfl, by rw [hU]; exact hP.sub (ws' := (w_1_2 q cI cJ cD Tn Ta)) [1, 2] rfl, gEv.warm hW hE⟩⟩ rfl rfl hl.1 rfl (lv_room (Nat.le_of_ble_eq_true rfl)) dX8_remove_16 ⟨Nat.zero_le _, Nat.zero_le _⟩) hP hS (gSub rfl) rfl rfl rfl rfl rfl (fun H locs hP hS => ?_)
  cases hf
  exact W.iret hx hb hr (fun t ht hW => ⟨⟨rfl, by rw [ht]; exact hP⟩, hS.F ht⟩) hS.2.2 dX8_remove_19
set_option maxHeartbeats 4000000 in
set_option maxRecDepth 100000 in
theorem kX8_removex (l : Launch) (hlt : l.stackTraces = false) (D : va_G) (cI cJ cD : ClassId) (sa : Nat → Nat) (q : Nat → Nat) (hq : gInj 14 q) (N : Nat) (Tn : Int32) (Ta : (Nat → Int32)) (p1 : Int32) (e0 : Nat) (Tn9 : Int32) (Ta9 : (Nat → Int32)) (hf : fX8_remove N Tn Ta p1 = some (.inl (e0, Tn9, Ta9))) : vx_Met l yX8_remove wsX8_remove rX8_removex (gPx D cI cJ cD sa (gA q [0, 1, 2]) [.ref (q 0), .int p1] (w_0_1_2 q cI cJ cD Tn Ta)) (fun _ _ _ _ => False) (gX D (gEn e0) (w_0_1_2 q cI cJ cD Tn9 Ta9) (gA q [0, 1, 2])) 1 6 (gA q [0, 1, 2]) := by
  refine vx_ofW (cc := cX8_remove) (maxL := 2) (ret := (some .int)) (by decide +kernel) rfl ?_
  intro p e s m args below meth c s₁ B hml htab hv
  obtain ⟨rfl, hP, hE, hXe⟩ := hv
  have hx := B.exec
  have hb := B.bytes
  have hr := B.returns
  have hts := atoms_spec (ws := wsX8_remove) B.pre
  have hown : s.vm.findClass RX8 = some m.cls := findClass_of_methodNamed B.named
  have hlocks := B.notSynchronized
  have hS : va_S (gA q [0, 1, 2]) s.heap s.heap [] := va_S.rf
  have hl := lv_entry ([.ref (q 0), .int p1]) (n := 2) (Nat.le_of_ble_eq_true rfl)
  rw [lg_entry_eq]
  generalize (lg_sl ([.ref (q 0), .int p1]) ++ List.replicate (2 - (lg_sl ([.ref (q 0), .int p1])).length) Slot.unset).toArray = ls at hl ⊢
  have hl : lv_has ls 2 [(0, .ref (q 0)), (1, .int p1)] := hl
  have hk10 := hts (.fieldLink RX8 10 "LyndonText" "text" "LLyndonText$Letters;") (by decide +kernel)
  have huX8 : ∀ w ∈ u_ws RX8 TX8 6, w ∈ wsX8_remove := by decide +kernel
  unfold fX8_remove at hf
  refine lv_iload_n hx hb dX8_remove_0 rfl (lv_at hl 1 rfl) ?_
  refine lv_aload_n hx hb dX8_remove_1 rfl (lv_at hl 0 rfl) ?_
  refine va_get (D := D) (ci := 6) (v := .ref (q 1)) (C := RX8) (T := TX8) (N := 6) hx hb hts huX8 hown hE.1 hP 0 rfl rfl 0 (by decide) hk10 (fun _ h9 => h9) rfl dX8_remove_2 ?_
  obtain ⟨r5, hc, hf⟩ := bn_some hf
  try dsimp only at hf
  refine g_call0 (ws' := (w_0_1_2 q cI cJ cD Tn Ta)) (st1 := [.int r5, .int p1]) hq [0, 1, 2] [1] [.inr 0, .inl 0, .inr 2] (va_runV (As := []) (rest := [.int p1]) ⟨hx, hb, hml, hown, hts⟩ (kX2_count l D cI cJ cD q hq N Tn r5 hc) (cwV 0 hts gX8_remove_X2_count rfl rfl rfl (by decide +kernel) ⟨(Nat.le_of_ble_eq_true rfl), (Nat.le_of_ble_eq_true rfl)⟩) ⟨gP_blind, va_recv hE.1 hP (ci := 2) (q0 := 1) rfl rfl, fun U hU hW => ⟨rfl, by rw [hU]; exact hP.sub (ws' := (w_1 q cI cJ cD Tn)) [1] rfl, gEv.warm hW hE⟩⟩ rfl rfl hl.1 rfl (lv_room (Nat.le_of_ble_eq_true rfl)) dX8_remove_5 ⟨Nat.zero_le _, Nat.zero_le _⟩) hP hS (gSub rfl) rfl rfl rfl rfl rfl (fun H locs hP hS => ?_)
  rcases bx_some hf with ⟨e8, hc, hf⟩ | ⟨⟨⟩, hc, hf⟩
  · try dsimp only at hf
    refine g_callX (ws' := (w_0_1_2 q cI cJ cD Tn Ta)) hq [0, 1, 2] [] [.inr 0, .inr 1, .inr 2] (vx_runS (As := [.int p1, .int r5]) (rest := []) ⟨hx, hb, hml, hown, hts⟩ (kX8_checkIndexx l hlt D cI cJ cD sa q hq N p1 r5 e8 hc) (va_cwS 2 hts gX8_remove_X8_checkIndex rfl rfl rfl (by decide +kernel) ⟨(Nat.le_of_ble_eq_true rfl), (Nat.le_of_ble_eq_true rfl)⟩) ⟨gPx_blind, fun U hU hW => ⟨rfl, by rw [hU]; exact hP.sub (ws' := (w_0none q cI cJ cD)) [] rfl, gEv.warm hW hE, gXe.go hW hS (gMono rfl) hXe hU⟩⟩ rfl rfl hl.1 rfl (lv_room (Nat.le_of_ble_eq_true rfl)) dX8_remove_8 ⟨(Nat.le_of_ble_eq_true rfl), (Nat.le_of_ble_eq_true rfl)⟩) hP hS (gSub rfl) rfl rfl rfl rfl (fun ce q9 H locs hP hS hce hcv hcl => ?_)
    cases hf
    exact vx_out (fun x9 hx9 => (htab x9 hx9).elim) hlocks hce hcv hcl (fun t ht hv => ⟨rfl, by rw [ht]; exact hP, hS.F ht⟩) hS.2.2 (Nat.le_of_ble_eq_true rfl) (Nat.le_of_ble_eq_true rfl)
  try dsimp only at hf
  refine g_call0 (ws' := (w_0_1_2 q cI cJ cD Tn Ta)) (st1 := []) hq [0, 1, 2] [] [.inr 0, .inr 1, .inr 2] (va_runS (As := [.int p1, .int r5]) (rest := []) ⟨hx, hb, hml, hown, hts⟩ (kX8_checkIndex l D cI cJ cD q hq N p1 r5 hc) (va_cwS 2 hts gX8_remove_X8_checkIndex rfl rfl rfl (by decide +kernel) ⟨(Nat.le_of_ble_eq_true rfl), (Nat.le_of_ble_eq_true rfl)⟩) ⟨gP_blind, fun U hU hW => ⟨rfl, by rw [hU]; exact hP.sub (ws' := (w_0none q cI cJ cD)) [] rfl, gEv.warm hW hE⟩⟩ rfl rfl hl.1 rfl (lv_room (Nat.le_of_ble_eq_true rfl)) dX8_remove_8 ⟨Nat.zero_le _, Nat.zero_le _⟩) hP hS (gSub rfl) rfl rfl rfl rfl rfl (fun H locs hP hS => ?_)
  refine lv_aload_n hx hb dX8_remove_11 rfl (lv_at hl 0 rfl) ?_
  refine va_get (D := D) (ci := 6) (v := .ref (q 1)) (C := RX8) (T := TX8) (N := 6) hx hb hts huX8 hown hE.1 hP 0 rfl rfl 0 (by decide) hk10 (fun _ h9 => h9) rfl dX8_remove_12 ?_
  refine lv_iload_n hx hb dX8_remove_15 rfl (lv_at hl 1 rfl) ?_
  obtain ⟨⟨r16, Tn16, Ta16⟩, hc, hf⟩ := bn_some hf
  try dsimp only at hf
  refine g_call0 (ws' := (w_0_1_2 q cI cJ cD Tn16 Ta16)) (st1 := [.int r16]) hq [0, 1, 2] [1, 2] [.inr 0, .inl 0, .inl 1] (va_runV (As := [.int p1]) (rest := []) ⟨hx, hb, hml, hown, hts⟩ (kX2_take l D cI cJ cD q hq N Tn Ta p1 r16 Tn16 Ta16 hc) (cwV 1 hts gX8_remove_X2_take rfl rfl rfl (by decide +kernel) ⟨(Nat.le_of_ble_eq_true rfl), (Nat.le_of_ble_eq_true rfl)⟩) ⟨gP_blind, va_recv hE.1 hP (ci := 2) (q0 := 1) rfl rfl, fun U hU hW => ⟨rfl, by rw [hU]; exact hP.sub (ws' := (w_1_2 q cI cJ cD Tn Ta)) [1, 2] rfl, gEv.warm hW hE⟩⟩ rfl rfl hl.1 rfl (lv_room (Nat.le_of_ble_eq_true rfl)) dX8_remove_16 ⟨Nat.zero_le _, Nat.zero_le _⟩) hP hS (gSub rfl) rfl rfl rfl rfl rfl (fun H locs hP hS => ?_)
  exact nomatch hf
set_option maxHeartbeats 4000000 in
set_option maxRecDepth 100000 in
theorem kX8_clear (l : Launch) (D : va_G) (cI cJ cD : ClassId) (q : Nat → Nat) (hq : gInj 14 q) (N : Nat) (Tn : Int32) (r0 : Int32) (Tn9 : Int32) (hf : fX8_clear N Tn = some (r0, Tn9)) : Met l yX8_clear wsX8_clear rX8_clear (gP D cI cJ cD [.ref (q 0)] (w_0_1 q cI cJ cD Tn)) (gQ D (some (.int r0)) (w_0_1 q cI cJ cD Tn9) (gA q [0, 1])) 0 0 (gA q [0, 1]) := by
  refine Met.ofW (cc := cX8_clear) (maxL := 2) (ret := (some .int)) (by decide +kernel) rfl ?_
  intro p e s m args below meth c s₁ B hml hv
  obtain ⟨rfl, hP, hE⟩ := hv
  have hx := B.exec
  have hb := B.bytes
  have hr := B.returns
  have hts := atoms_spec (ws := wsX8_clear) B.pre
  have hown : s.vm.findClass RX8 = some m.cls := findClass_of_methodNamed B.named
  have hlocks := B.notSynchronized
  have hS : va_S (gA q [0, 1]) s.heap s.heap [] := va_S.rf
  have hl := lv_entry ([.ref (q 0)]) (n := 2) (Nat.le_of_ble_eq_true rfl)
  rw [lg_entry_eq]
  generalize (lg_sl ([.ref (q 0)]) ++ List.replicate (2 - (lg_sl ([.ref (q 0)])).length) Slot.unset).toArray = ls at hl ⊢
  have hl : lv_has ls 2 [(0, .ref (q 0))] := hl
  have hk10 := hts (.fieldLink RX8 10 "LyndonText" "text" "LLyndonText$Letters;") (by decide +kernel)
  have huX8 : ∀ w ∈ u_ws RX8 TX8 6, w ∈ wsX8_clear := by decide +kernel
  unfold fX8_clear at hf
  refine lv_aload_n hx hb dX8_clear_0 rfl (lv_at hl 0 rfl) ?_
  refine va_get (D := D) (ci := 6) (v := .ref (q 1)) (C := RX8) (T := TX8) (N := 6) hx hb hts huX8 hown hE.1 hP 0 rfl rfl 0 (by decide) hk10 (fun _ h9 => h9) rfl dX8_clear_1 ?_
  obtain ⟨r4, hc, hf⟩ := bn_some hf
  try dsimp only at hf
  refine g_call0 (ws' := (w_0_1 q cI cJ cD Tn)) (st1 := [.int r4]) hq [0, 1] [1] [.inr 0, .inl 0] (va_runV (As := []) (rest := []) ⟨hx, hb, hml, hown, hts⟩ (kX2_count l D cI cJ cD q hq N Tn r4 hc) (cwV 0 hts gX8_clear_X2_count rfl rfl rfl (by decide +kernel) ⟨(Nat.le_of_ble_eq_true rfl), (Nat.le_of_ble_eq_true rfl)⟩) ⟨gP_blind, va_recv hE.1 hP (ci := 2) (q0 := 1) rfl rfl, fun U hU hW => ⟨rfl, by rw [hU]; exact hP.sub (ws' := (w_1 q cI cJ cD Tn)) [1] rfl, gEv.warm hW hE⟩⟩ rfl rfl hl.1 rfl (lv_room (Nat.le_of_ble_eq_true rfl)) dX8_clear_4 ⟨Nat.zero_le _, Nat.zero_le _⟩) hP hS (gSub rfl) rfl rfl rfl rfl rfl (fun H locs hP hS => ?_)
  refine lv_istore_n (lv' := [(1, .int r4), (0, .ref (q 0))]) hx hb dX8_clear_7 rfl hl (by decide) rfl (fun ls hl => ?_)
  refine lv_aload_n hx hb dX8_clear_8 rfl (lv_at hl 1 rfl) ?_
  refine va_get (D := D) (ci := 6) (v := .ref (q 1)) (C := RX8) (T := TX8) (N := 6) hx hb hts huX8 hown hE.1 hP 0 rfl rfl 0 (by decide) hk10 (fun _ h9 => h9) rfl dX8_clear_9 ?_
  obtain ⟨Tn12, hc, hf⟩ := bn_some hf
  try dsimp only at hf
  refine g_call0 (ws' := (w_0_1 q cI cJ cD Tn12)) (st1 := []) hq [0, 1] [1] [.inr 0, .inl 0] (va_runV (As := []) (rest := []) ⟨hx, hb, hml, hown, hts⟩ (kX2_empty l D cI cJ cD q hq N Tn Tn12 hc) (cwV 0 hts gX8_clear_X2_empty rfl rfl rfl (by decide +kernel) ⟨(Nat.le_of_ble_eq_true rfl), (Nat.le_of_ble_eq_true rfl)⟩) ⟨gP_blind, va_recv hE.1 hP (ci := 2) (q0 := 1) rfl rfl, fun U hU hW => ⟨rfl, by rw [hU]; exact hP.sub (ws' := (w_1 q cI cJ cD Tn)) [1] rfl, gEv.warm hW hE⟩⟩ rfl rfl hl.1 rfl (lv_room (Nat.le_of_ble_eq_true rfl)) dX8_clear_12 ⟨Nat.zero_le _, Nat.zero_le _⟩) hP hS (gSub rfl) rfl rfl rfl rfl rfl (fun H locs hP hS => ?_)
  refine lv_iload_n hx hb dX8_clear_15 rfl (lv_at hl 0 rfl) ?_
  cases hf
  exact W.iret hx hb hr (fun t ht hW => ⟨⟨rfl, by rw [ht]; exact hP⟩, hS.F ht⟩) hS.2.2 dX8_clear_16
set_option maxHeartbeats 4000000 in
set_option maxRecDepth 100000 in
theorem kX8_reverse (l : Launch) (D : va_G) (cI cJ cD : ClassId) (q : Nat → Nat) (hq : gInj 14 q) (N : Nat) (Tn : Int32) (Ta : (Nat → Int32)) (r0 : Int32) (Ta9 : (Nat → Int32)) (hf : fX8_reverse N Tn Ta = some (r0, Ta9)) : Met l yX8_reverse wsX8_reverse rX8_reverse (gP D cI cJ cD [.ref (q 0)] (w_0_1_2 q cI cJ cD Tn Ta)) (gQ D (some (.int r0)) (w_0_1_2 q cI cJ cD Tn Ta9) (gA q [0, 1, 2])) 0 0 (gA q [0, 1, 2]) := by
  refine Met.ofW (cc := cX8_reverse) (maxL := 1) (ret := (some .int)) (by decide +kernel) rfl ?_
  intro p e s m args below meth c s₁ B hml hv
  obtain ⟨rfl, hP, hE⟩ := hv
  have hx := B.exec
  have hb := B.bytes
  have hr := B.returns
  have hts := atoms_spec (ws := wsX8_reverse) B.pre
  have hown : s.vm.findClass RX8 = some m.cls := findClass_of_methodNamed B.named
  have hlocks := B.notSynchronized
  have hS : va_S (gA q [0, 1, 2]) s.heap s.heap [] := va_S.rf
  have hl := lv_entry ([.ref (q 0)]) (n := 1) (Nat.le_of_ble_eq_true rfl)
  rw [lg_entry_eq]
  generalize (lg_sl ([.ref (q 0)]) ++ List.replicate (1 - (lg_sl ([.ref (q 0)])).length) Slot.unset).toArray = ls at hl ⊢
  have hl : lv_has ls 1 [(0, .ref (q 0))] := hl
  have hk10 := hts (.fieldLink RX8 10 "LyndonText" "text" "LLyndonText$Letters;") (by decide +kernel)
  have huX8 : ∀ w ∈ u_ws RX8 TX8 6, w ∈ wsX8_reverse := by decide +kernel
  unfold fX8_reverse at hf
  refine lv_aload_n hx hb dX8_reverse_0 rfl (lv_at hl 0 rfl) ?_
  refine va_get (D := D) (ci := 6) (v := .ref (q 1)) (C := RX8) (T := TX8) (N := 6) hx hb hts huX8 hown hE.1 hP 0 rfl rfl 0 (by decide) hk10 (fun _ h9 => h9) rfl dX8_reverse_1 ?_
  refine lv_iconst (v := (0 : Int32)) hx hb dX8_reverse_4 (by decide) ?_
  refine lv_aload_n hx hb dX8_reverse_5 rfl (lv_at hl 0 rfl) ?_
  refine va_get (D := D) (ci := 6) (v := .ref (q 1)) (C := RX8) (T := TX8) (N := 6) hx hb hts huX8 hown hE.1 hP 0 rfl rfl 0 (by decide) hk10 (fun _ h9 => h9) rfl dX8_reverse_6 ?_
  obtain ⟨r9, hc, hf⟩ := bn_some hf
  try dsimp only at hf
  refine g_call0 (ws' := (w_0_1_2 q cI cJ cD Tn Ta)) (st1 := [.int r9, .int (0 : Int32), .ref (q 1)]) hq [0, 1, 2] [1] [.inr 0, .inl 0, .inr 2] (va_runV (As := []) (rest := [.int (0 : Int32), .ref (q 1)]) ⟨hx, hb, hml, hown, hts⟩ (kX2_count l D cI cJ cD q hq N Tn r9 hc) (cwV 0 hts gX8_reverse_X2_count rfl rfl rfl (by decide +kernel) ⟨(Nat.le_of_ble_eq_true rfl), (Nat.le_of_ble_eq_true rfl)⟩) ⟨gP_blind, va_recv hE.1 hP (ci := 2) (q0 := 1) rfl rfl, fun U hU hW => ⟨rfl, by rw [hU]; exact hP.sub (ws' := (w_1 q cI cJ cD Tn)) [1] rfl, gEv.warm hW hE⟩⟩ rfl rfl hl.1 rfl (lv_room (Nat.le_of_ble_eq_true rfl)) dX8_reverse_9 ⟨Nat.zero_le _, Nat.zero_le _⟩) hP hS (gSub rfl) rfl rfl rfl rfl rfl (fun H locs hP hS => ?_)
  obtain ⟨Ta12, hc, hf⟩ := bn_some hf
  try dsimp only at hf
  refine g_call0 (ws' := (w_0_1_2 q cI cJ cD Tn Ta12)) (st1 := []) hq [0, 1, 2] [1, 2] [.inr 0, .inl 0, .inl 1] (va_runV (As := [.int (0 : Int32), .int r9]) (rest := []) ⟨hx, hb, hml, hown, hts⟩ (kX2_turn l D cI cJ cD q hq N Tn Ta (0 : Int32) r9 Ta12 hc) (cwV 2 hts gX8_reverse_X2_turn rfl rfl rfl (by decide +kernel) ⟨(Nat.le_of_ble_eq_true rfl), (Nat.le_of_ble_eq_true rfl)⟩) ⟨gP_blind, va_recv hE.1 hP (ci := 2) (q0 := 1) rfl rfl, fun U hU hW => ⟨rfl, by rw [hU]; exact hP.sub (ws' := (w_1_2 q cI cJ cD Tn Ta)) [1, 2] rfl, gEv.warm hW hE⟩⟩ rfl rfl hl.1 rfl (lv_room (Nat.le_of_ble_eq_true rfl)) dX8_reverse_12 ⟨Nat.zero_le _, Nat.zero_le _⟩) hP hS (gSub rfl) rfl rfl rfl rfl rfl (fun H locs hP hS => ?_)
  refine lv_aload_n hx hb dX8_reverse_15 rfl (lv_at hl 0 rfl) ?_
  refine va_get (D := D) (ci := 6) (v := .ref (q 1)) (C := RX8) (T := TX8) (N := 6) hx hb hts huX8 hown hE.1 hP 0 rfl rfl 0 (by decide) hk10 (fun _ h9 => h9) rfl dX8_reverse_16 ?_
  obtain ⟨r19, hc, hf⟩ := bn_some hf
  try dsimp only at hf
  refine g_call0 (ws' := (w_0_1_2 q cI cJ cD Tn Ta12)) (st1 := [.int r19]) hq [0, 1, 2] [1] [.inr 0, .inl 0, .inr 2] (va_runV (As := []) (rest := []) ⟨hx, hb, hml, hown, hts⟩ (kX2_count l D cI cJ cD q hq N Tn r19 hc) (cwV 0 hts gX8_reverse_X2_count rfl rfl rfl (by decide +kernel) ⟨(Nat.le_of_ble_eq_true rfl), (Nat.le_of_ble_eq_true rfl)⟩) ⟨gP_blind, va_recv hE.1 hP (ci := 2) (q0 := 1) rfl rfl, fun U hU hW => ⟨rfl, by rw [hU]; exact hP.sub (ws' := (w_1 q cI cJ cD Tn)) [1] rfl, gEv.warm hW hE⟩⟩ rfl rfl hl.1 rfl (lv_room (Nat.le_of_ble_eq_true rfl)) dX8_reverse_19 ⟨Nat.zero_le _, Nat.zero_le _⟩) hP hS (gSub rfl) rfl rfl rfl rfl rfl (fun H locs hP hS => ?_)
  cases hf
  exact W.iret hx hb hr (fun t ht hW => ⟨⟨rfl, by rw [ht]; exact hP⟩, hS.F ht⟩) hS.2.2 dX8_reverse_22
set_option maxHeartbeats 4000000 in
set_option maxRecDepth 100000 in
theorem kX8_rotate (l : Launch) (D : va_G) (cI cJ cD : ClassId) (q : Nat → Nat) (hq : gInj 14 q) (N : Nat) (Tn : Int32) (Ta : (Nat → Int32)) (p1 : Int32) (r0 : Int32) (Ta9 : (Nat → Int32)) (hf : fX8_rotate N Tn Ta p1 = some (.inr (r0, Ta9))) : Met l yX8_rotate wsX8_rotate rX8_rotate (gP D cI cJ cD [.ref (q 0), .int p1] (w_0_1_2 q cI cJ cD Tn Ta)) (gQ D (some (.int r0)) (w_0_1_2 q cI cJ cD Tn Ta9) (gA q [0, 1, 2])) 0 0 (gA q [0, 1, 2]) := by
  refine Met.ofW (cc := cX8_rotate) (maxL := 4) (ret := (some .int)) (by decide +kernel) rfl ?_
  intro p e s m args below meth c s₁ B hml hv
  obtain ⟨rfl, hP, hE⟩ := hv
  have hx := B.exec
  have hb := B.bytes
  have hr := B.returns
  have hts := atoms_spec (ws := wsX8_rotate) B.pre
  have hown : s.vm.findClass RX8 = some m.cls := findClass_of_methodNamed B.named
  have hlocks := B.notSynchronized
  have hS : va_S (gA q [0, 1, 2]) s.heap s.heap [] := va_S.rf
  have hl := lv_entry ([.ref (q 0), .int p1]) (n := 4) (Nat.le_of_ble_eq_true rfl)
  rw [lg_entry_eq]
  generalize (lg_sl ([.ref (q 0), .int p1]) ++ List.replicate (4 - (lg_sl ([.ref (q 0), .int p1])).length) Slot.unset).toArray = ls at hl ⊢
  have hl : lv_has ls 4 [(0, .ref (q 0)), (1, .int p1)] := hl
  have hk10 := hts (.fieldLink RX8 10 "LyndonText" "text" "LLyndonText$Letters;") (by decide +kernel)
  have huX8 : ∀ w ∈ u_ws RX8 TX8 6, w ∈ wsX8_rotate := by decide +kernel
  unfold fX8_rotate at hf
  refine lv_iload_n hx hb dX8_rotate_0 rfl (lv_at hl 1 rfl) ?_
  refine lv_iconst (v := (0 : Int32)) hx hb dX8_rotate_1 (by decide) ?_
  refine lv_bipush (v := (63 : Int32)) hx hb dX8_rotate_2 (by decide) ?_
  rcases bx_some hf with ⟨e4, hc, hf⟩ | ⟨⟨⟩, hc, hf⟩
  · exact nomatch hf
  try dsimp only at hf
  refine g_call0 (ws' := (w_0_1_2 q cI cJ cD Tn Ta)) (st1 := []) hq [0, 1, 2] [] [.inr 0, .inr 1, .inr 2] (va_runS (As := [.int p1, .int (0 : Int32), .int (63 : Int32)]) (rest := []) ⟨hx, hb, hml, hown, hts⟩ (kX8_checkArgument l D cI cJ cD q hq N p1 (0 : Int32) (63 : Int32) hc) (va_cwS 3 hts gX8_rotate_X8_checkArgument rfl rfl rfl (by decide +kernel) ⟨(Nat.le_of_ble_eq_true rfl), (Nat.le_of_ble_eq_true rfl)⟩) ⟨gP_blind, fun U hU hW => ⟨rfl, by rw [hU]; exact hP.sub (ws' := (w_0none q cI cJ cD)) [] rfl, gEv.warm hW hE⟩⟩ rfl rfl hl.1 rfl (lv_room (Nat.le_of_ble_eq_true rfl)) dX8_rotate_4 ⟨Nat.zero_le _, Nat.zero_le _⟩) hP hS (gSub rfl) rfl rfl rfl rfl rfl (fun H locs hP hS => ?_)
  refine lv_aload_n hx hb dX8_rotate_7 rfl (lv_at hl 0 rfl) ?_
  refine va_get (D := D) (ci := 6) (v := .ref (q 1)) (C := RX8) (T := TX8) (N := 6) hx hb hts huX8 hown hE.1 hP 0 rfl rfl 0 (by decide) hk10 (fun _ h9 => h9) rfl dX8_rotate_8 ?_
  obtain ⟨r11, hc, hf⟩ := bn_some hf
  try dsimp only at hf
  refine g_call0 (ws' := (w_0_1_2 q cI cJ cD Tn Ta)) (st1 := [.int r11]) hq [0, 1, 2] [1] [.inr 0, .inl 0, .inr 2] (va_runV (As := []) (rest := []) ⟨hx, hb, hml, hown, hts⟩ (kX2_count l D cI cJ cD q hq N Tn r11 hc) (cwV 0 hts gX8_rotate_X2_count rfl rfl rfl (by decide +kernel) ⟨(Nat.le_of_ble_eq_true rfl), (Nat.le_of_ble_eq_true rfl)⟩) ⟨gP_blind, va_recv hE.1 hP (ci := 2) (q0 := 1) rfl rfl, fun U hU hW => ⟨rfl, by rw [hU]; exact hP.sub (ws' := (w_1 q cI cJ cD Tn)) [1] rfl, gEv.warm hW hE⟩⟩ rfl rfl hl.1 rfl (lv_room (Nat.le_of_ble_eq_true rfl)) dX8_rotate_11 ⟨Nat.zero_le _, Nat.zero_le _⟩) hP hS (gSub rfl) rfl rfl rfl rfl rfl (fun H locs hP hS => ?_)
  refine lv_istore_n (lv' := [(2, .int r11), (0, .ref (q 0)), (1, .int p1)]) hx hb dX8_rotate_14 rfl hl (by decide) rfl (fun ls hl => ?_)
  refine lv_iload_n hx hb dX8_rotate_15 rfl (lv_at hl 0 rfl) ?_
  refine lv_if_ne (tgt := 29) hx hb dX8_rotate_16 (by decide) (fun c_1 => ?_) (fun c_1 => ?_)
  · have hf := (if_neg c_1).symm.trans hf
    refine lv_iload_n hx hb dX8_rotate_29 rfl (lv_at hl 2 rfl) ?_
    refine lv_iload_n hx hb dX8_rotate_30 rfl (lv_at hl 0 rfl) ?_
    obtain ⟨g_2, hf⟩ := gd_some hf
    refine lv_irem hx hb dX8_rotate_31 (nz_ne g_2) ?_
    refine lv_istore_n (lv' := [(3, .int (p1 - p1 / r11 * r11)), (2, .int r11), (0, .ref (q 0)), (1, .int p1)]) hx hb dX8_rotate_32 rfl hl (by decide) rfl (fun ls hl => ?_)
    refine lv_aload_n hx hb dX8_rotate_33 rfl (lv_at hl 2 rfl) ?_
    refine va_get (D := D) (ci := 6) (v := .ref (q 1)) (C := RX8) (T := TX8) (N := 6) hx hb hts huX8 hown hE.1 hP 0 rfl rfl 0 (by decide) hk10 (fun _ h9 => h9) rfl dX8_rotate_34 ?_
    refine lv_iconst (v := (0 : Int32)) hx hb dX8_rotate_37 (by decide) ?_
    refine lv_iload_n hx hb dX8_rotate_38 rfl (lv_at hl 0 rfl) ?_
    obtain ⟨Ta39, hc, hf⟩ := bn_some hf
    try dsimp only at hf
    refine g_call0 (ws' := (w_0_1_2 q cI cJ cD Tn Ta39)) (st1 := []) hq [0, 1, 2] [1, 2] [.inr 0, .inl 0, .inl 1] (va_runV (As := [.int (0 : Int32), .int (p1 - p1 / r11 * r11)]) (rest := []) ⟨hx, hb, hml, hown, hts⟩ (kX2_turn l D cI cJ cD q hq N Tn Ta (0 : Int32) (p1 - p1 / r11 * r11) Ta39 hc) (cwV 2 hts gX8_rotate_X2_turn rfl rfl rfl (by decide +kernel) ⟨(Nat.le_of_ble_eq_true rfl), (Nat.le_of_ble_eq_true rfl)⟩) ⟨gP_blind, va_recv hE.1 hP (ci := 2) (q0 := 1) rfl rfl, fun U hU hW => ⟨rfl, by rw [hU]; exact hP.sub (ws' := (w_1_2 q cI cJ cD Tn Ta)) [1, 2] rfl, gEv.warm hW hE⟩⟩ rfl rfl hl.1 rfl (lv_room (Nat.le_of_ble_eq_true rfl)) dX8_rotate_39 ⟨Nat.zero_le _, Nat.zero_le _⟩) hP hS (gSub rfl) rfl rfl rfl rfl rfl (fun H locs hP hS => ?_)
    refine lv_aload_n hx hb dX8_rotate_42 rfl (lv_at hl 2 rfl) ?_
    refine va_get (D := D) (ci := 6) (v := .ref (q 1)) (C := RX8) (T := TX8) (N := 6) hx hb hts huX8 hown hE.1 hP 0 rfl rfl 0 (by decide) hk10 (fun _ h9 => h9) rfl dX8_rotate_43 ?_
    refine lv_iload_n hx hb dX8_rotate_46 rfl (lv_at hl 0 rfl) ?_
    refine lv_iload_n hx hb dX8_rotate_47 rfl (lv_at hl 1 rfl) ?_
    obtain ⟨Ta48, hc, hf⟩ := bn_some hf
    try dsimp only at hf
    refine g_call0 (ws' := (w_0_1_2 q cI cJ cD Tn Ta48)) (st1 := []) hq [0, 1, 2] [1, 2] [.inr 0, .inl 0, .inl 1] (va_runV (As := [.int (p1 - p1 / r11 * r11), .int r11]) (rest := []) ⟨hx, hb, hml, hown, hts⟩ (kX2_turn l D cI cJ cD q hq N Tn Ta39 (p1 - p1 / r11 * r11) r11 Ta48 hc) (cwV 2 hts gX8_rotate_X2_turn rfl rfl rfl (by decide +kernel) ⟨(Nat.le_of_ble_eq_true rfl), (Nat.le_of_ble_eq_true rfl)⟩) ⟨gP_blind, va_recv hE.1 hP (ci := 2) (q0 := 1) rfl rfl, fun U hU hW => ⟨rfl, by rw [hU]; exact hP.sub (ws' := (w_1_2 q cI cJ cD Tn Ta39)) [1, 2] rfl, gEv.warm hW hE⟩⟩ rfl rfl hl.1 rfl (lv_room (Nat.le_of_ble_eq_true rfl)) dX8_rotate_48 ⟨Nat.zero_le _, Nat.zero_le _⟩) hP hS (gSub rfl) rfl rfl rfl rfl rfl (fun H locs hP hS => ?_)
    refine lv_aload_n hx hb dX8_rotate_51 rfl (lv_at hl 2 rfl) ?_
    refine va_get (D := D) (ci := 6) (v := .ref (q 1)) (C := RX8) (T := TX8) (N := 6) hx hb hts huX8 hown hE.1 hP 0 rfl rfl 0 (by decide) hk10 (fun _ h9 => h9) rfl dX8_rotate_52 ?_
    refine lv_iconst (v := (0 : Int32)) hx hb dX8_rotate_55 (by decide) ?_
    refine lv_iload_n hx hb dX8_rotate_56 rfl (lv_at hl 1 rfl) ?_
    obtain ⟨Ta57, hc, hf⟩ := bn_some hf
    try dsimp only at hf
    refine g_call0 (ws' := (w_0_1_2 q cI cJ cD Tn Ta57)) (st1 := []) hq [0, 1, 2] [1, 2] [.inr 0, .inl 0, .inl 1] (va_runV (As := [.int (0 : Int32), .int r11]) (rest := []) ⟨hx, hb, hml, hown, hts⟩ (kX2_turn l D cI cJ cD q hq N Tn Ta48 (0 : Int32) r11 Ta57 hc) (cwV 2 hts gX8_rotate_X2_turn rfl rfl rfl (by decide +kernel) ⟨(Nat.le_of_ble_eq_true rfl), (Nat.le_of_ble_eq_true rfl)⟩) ⟨gP_blind, va_recv hE.1 hP (ci := 2) (q0 := 1) rfl rfl, fun U hU hW => ⟨rfl, by rw [hU]; exact hP.sub (ws' := (w_1_2 q cI cJ cD Tn Ta48)) [1, 2] rfl, gEv.warm hW hE⟩⟩ rfl rfl hl.1 rfl (lv_room (Nat.le_of_ble_eq_true rfl)) dX8_rotate_57 ⟨Nat.zero_le _, Nat.zero_le _⟩) hP hS (gSub rfl) rfl rfl rfl rfl rfl (fun H locs hP hS => ?_)
    refine lv_aload_n hx hb dX8_rotate_60 rfl (lv_at hl 2 rfl) ?_
    refine va_get (D := D) (ci := 6) (v := .ref (q 1)) (C := RX8) (T := TX8) (N := 6) hx hb hts huX8 hown hE.1 hP 0 rfl rfl 0 (by decide) hk10 (fun _ h9 => h9) rfl dX8_rotate_61 ?_
    refine lv_iconst (v := (0 : Int32)) hx hb dX8_rotate_64 (by decide) ?_
    obtain ⟨r65, hc, hf⟩ := bn_some hf
    try dsimp only at hf
    refine g_call0 (ws' := (w_0_1_2 q cI cJ cD Tn Ta57)) (st1 := [.int r65]) hq [0, 1, 2] [1, 2] [.inr 0, .inl 0, .inl 1] (va_runV (As := [.int (0 : Int32)]) (rest := []) ⟨hx, hb, hml, hown, hts⟩ (kX2_letter l D cI cJ cD q hq N Tn Ta57 (0 : Int32) r65 hc) (cwV 1 hts gX8_rotate_X2_letter rfl rfl rfl (by decide +kernel) ⟨(Nat.le_of_ble_eq_true rfl), (Nat.le_of_ble_eq_true rfl)⟩) ⟨gP_blind, va_recv hE.1 hP (ci := 2) (q0 := 1) rfl rfl, fun U hU hW => ⟨rfl, by rw [hU]; exact hP.sub (ws' := (w_1_2 q cI cJ cD Tn Ta57)) [1, 2] rfl, gEv.warm hW hE⟩⟩ rfl rfl hl.1 rfl (lv_room (Nat.le_of_ble_eq_true rfl)) dX8_rotate_65 ⟨Nat.zero_le _, Nat.zero_le _⟩) hP hS (gSub rfl) rfl rfl rfl rfl rfl (fun H locs hP hS => ?_)
    cases hf
    exact W.iret hx hb hr (fun t ht hW => ⟨⟨rfl, by rw [ht]; exact hP⟩, hS.F ht⟩) hS.2.2 dX8_rotate_68
  · have hf := (if_pos c_1).symm.trans hf
    exact nomatch hf
set_option maxHeartbeats 4000000 in
set_option maxRecDepth 100000 in
theorem kX8_rotatex (l : Launch) (hlt : l.stackTraces = false) (D : va_G) (cI cJ cD : ClassId) (sa : Nat → Nat) (q : Nat → Nat) (hq : gInj 14 q) (N : Nat) (Tn : Int32) (Ta : (Nat → Int32)) (p1 : Int32) (e0 : Nat) (Ta9 : (Nat → Int32)) (hf : fX8_rotate N Tn Ta p1 = some (.inl (e0, Ta9))) : vx_Met l yX8_rotate wsX8_rotate rX8_rotatex (gPx D cI cJ cD sa (gA q [0, 1, 2]) [.ref (q 0), .int p1] (w_0_1_2 q cI cJ cD Tn Ta)) (fun _ _ _ _ => False) (gX D (gEn e0) (w_0_1_2 q cI cJ cD Tn Ta9) (gA q [0, 1, 2])) 1 6 (gA q [0, 1, 2]) := by
  refine vx_ofW (cc := cX8_rotate) (maxL := 4) (ret := (some .int)) (by decide +kernel) rfl ?_
  intro p e s m args below meth c s₁ B hml htab hv
  obtain ⟨rfl, hP, hE, hXe⟩ := hv
  have hx := B.exec
  have hb := B.bytes
  have hr := B.returns
  have hts := atoms_spec (ws := wsX8_rotate) B.pre
  have hown : s.vm.findClass RX8 = some m.cls := findClass_of_methodNamed B.named
  have hlocks := B.notSynchronized
  have hS : va_S (gA q [0, 1, 2]) s.heap s.heap [] := va_S.rf
  have hl := lv_entry ([.ref (q 0), .int p1]) (n := 4) (Nat.le_of_ble_eq_true rfl)
  rw [lg_entry_eq]
  generalize (lg_sl ([.ref (q 0), .int p1]) ++ List.replicate (4 - (lg_sl ([.ref (q 0), .int p1])).length) Slot.unset).toArray = ls at hl ⊢
  have hl : lv_has ls 4 [(0, .ref (q 0)), (1, .int p1)] := hl
  have hk10 := hts (.fieldLink RX8 10 "LyndonText" "text" "LLyndonText$Letters;") (by decide +kernel)
  have huX8 : ∀ w ∈ u_ws RX8 TX8 6, w ∈ wsX8_rotate := by decide +kernel
  unfold fX8_rotate at hf
  refine lv_iload_n hx hb dX8_rotate_0 rfl (lv_at hl 1 rfl) ?_
  refine lv_iconst (v := (0 : Int32)) hx hb dX8_rotate_1 (by decide) ?_
  refine lv_bipush (v := (63 : Int32)) hx hb dX8_rotate_2 (by decide) ?_
  rcases bx_some hf with ⟨e4, hc, hf⟩ | ⟨⟨⟩, hc, hf⟩
  · try dsimp only at hf
    refine g_callX (ws' := (w_0_1_2 q cI cJ cD Tn Ta)) hq [0, 1, 2] [] [.inr 0, .inr 1, .inr 2] (vx_runS (As := [.int p1, .int (0 : Int32), .int (63 : Int32)]) (rest := []) ⟨hx, hb, hml, hown, hts⟩ (kX8_checkArgumentx l hlt D cI cJ cD sa q hq N p1 (0 : Int32) (63 : Int32) e4 hc) (va_cwS 3 hts gX8_rotate_X8_checkArgument rfl rfl rfl (by decide +kernel) ⟨(Nat.le_of_ble_eq_true rfl), (Nat.le_of_ble_eq_true rfl)⟩) ⟨gPx_blind, fun U hU hW => ⟨rfl, by rw [hU]; exact hP.sub (ws' := (w_0none q cI cJ cD)) [] rfl, gEv.warm hW hE, gXe.go hW hS (gMono rfl) hXe hU⟩⟩ rfl rfl hl.1 rfl (lv_room (Nat.le_of_ble_eq_true rfl)) dX8_rotate_4 ⟨(Nat.le_of_ble_eq_true rfl), (Nat.le_of_ble_eq_true rfl)⟩) hP hS (gSub rfl) rfl rfl rfl rfl (fun ce q9 H locs hP hS hce hcv hcl => ?_)
    cases hf
    exact vx_out (fun x9 hx9 => (htab x9 hx9).elim) hlocks hce hcv hcl (fun t ht hv => ⟨rfl, by rw [ht]; exact hP, hS.F ht⟩) hS.2.2 (Nat.le_of_ble_eq_true rfl) (Nat.le_of_ble_eq_true rfl)
  try dsimp only at hf
  refine g_call0 (ws' := (w_0_1_2 q cI cJ cD Tn Ta)) (st1 := []) hq [0, 1, 2] [] [.inr 0, .inr 1, .inr 2] (va_runS (As := [.int p1, .int (0 : Int32), .int (63 : Int32)]) (rest := []) ⟨hx, hb, hml, hown, hts⟩ (kX8_checkArgument l D cI cJ cD q hq N p1 (0 : Int32) (63 : Int32) hc) (va_cwS 3 hts gX8_rotate_X8_checkArgument rfl rfl rfl (by decide +kernel) ⟨(Nat.le_of_ble_eq_true rfl), (Nat.le_of_ble_eq_true rfl)⟩) ⟨gP_blind, fun U hU hW => ⟨rfl, by rw [hU]; exact hP.sub (ws' := (w_0none q cI cJ cD)) [] rfl, gEv.warm hW hE⟩⟩ rfl rfl hl.1 rfl (lv_room (Nat.le_of_ble_eq_true rfl)) dX8_rotate_4 ⟨Nat.zero_le _, Nat.zero_le _⟩) hP hS (gSub rfl) rfl rfl rfl rfl rfl (fun H locs hP hS => ?_)
  refine lv_aload_n hx hb dX8_rotate_7 rfl (lv_at hl 0 rfl) ?_
  refine va_get (D := D) (ci := 6) (v := .ref (q 1)) (C := RX8) (T := TX8) (N := 6) hx hb hts huX8 hown hE.1 hP 0 rfl rfl 0 (by decide) hk10 (fun _ h9 => h9) rfl dX8_rotate_8 ?_
  obtain ⟨r11, hc, hf⟩ := bn_some hf
  try dsimp only at hf
  refine g_call0 (ws' := (w_0_1_2 q cI cJ cD Tn Ta)) (st1 := [.int r11]) hq [0, 1, 2] [1] [.inr 0, .inl 0, .inr 2] (va_runV (As := []) (rest := []) ⟨hx, hb, hml, hown, hts⟩ (kX2_count l D cI cJ cD q hq N Tn r11 hc) (cwV 0 hts gX8_rotate_X2_count rfl rfl rfl (by decide +kernel) ⟨(Nat.le_of_ble_eq_true rfl), (Nat.le_of_ble_eq_true rfl)⟩) ⟨gP_blind, va_recv hE.1 hP (ci := 2) (q0 := 1) rfl rfl, fun U hU hW => ⟨rfl, by rw [hU]; exact hP.sub (ws' := (w_1 q cI cJ cD Tn)) [1] rfl, gEv.warm hW hE⟩⟩ rfl rfl hl.1 rfl (lv_room (Nat.le_of_ble_eq_true rfl)) dX8_rotate_11 ⟨Nat.zero_le _, Nat.zero_le _⟩) hP hS (gSub rfl) rfl rfl rfl rfl rfl (fun H locs hP hS => ?_)
  refine lv_istore_n (lv' := [(2, .int r11), (0, .ref (q 0)), (1, .int p1)]) hx hb dX8_rotate_14 rfl hl (by decide) rfl (fun ls hl => ?_)
  refine lv_iload_n hx hb dX8_rotate_15 rfl (lv_at hl 0 rfl) ?_
  refine lv_if_ne (tgt := 29) hx hb dX8_rotate_16 (by decide) (fun c_1 => ?_) (fun c_1 => ?_)
  · have hf := (if_neg c_1).symm.trans hf
    refine lv_iload_n hx hb dX8_rotate_29 rfl (lv_at hl 2 rfl) ?_
    refine lv_iload_n hx hb dX8_rotate_30 rfl (lv_at hl 0 rfl) ?_
    obtain ⟨g_2, hf⟩ := gd_some hf
    refine lv_irem hx hb dX8_rotate_31 (nz_ne g_2) ?_
    refine lv_istore_n (lv' := [(3, .int (p1 - p1 / r11 * r11)), (2, .int r11), (0, .ref (q 0)), (1, .int p1)]) hx hb dX8_rotate_32 rfl hl (by decide) rfl (fun ls hl => ?_)
    refine lv_aload_n hx hb dX8_rotate_33 rfl (lv_at hl 2 rfl) ?_
    refine va_get (D := D) (ci := 6) (v := .ref (q 1)) (C := RX8) (T := TX8) (N := 6) hx hb hts huX8 hown hE.1 hP 0 rfl rfl 0 (by decide) hk10 (fun _ h9 => h9) rfl dX8_rotate_34 ?_
    refine lv_iconst (v := (0 : Int32)) hx hb dX8_rotate_37 (by decide) ?_
    refine lv_iload_n hx hb dX8_rotate_38 rfl (lv_at hl 0 rfl) ?_
    obtain ⟨Ta39, hc, hf⟩ := bn_some hf
    try dsimp only at hf
    refine g_call0 (ws' := (w_0_1_2 q cI cJ cD Tn Ta39)) (st1 := []) hq [0, 1, 2] [1, 2] [.inr 0, .inl 0, .inl 1] (va_runV (As := [.int (0 : Int32), .int (p1 - p1 / r11 * r11)]) (rest := []) ⟨hx, hb, hml, hown, hts⟩ (kX2_turn l D cI cJ cD q hq N Tn Ta (0 : Int32) (p1 - p1 / r11 * r11) Ta39 hc) (cwV 2 hts gX8_rotate_X2_turn rfl rfl rfl (by decide +kernel) ⟨(Nat.le_of_ble_eq_true rfl), (Nat.le_of_ble_eq_true rfl)⟩) ⟨gP_blind, va_recv hE.1 hP (ci := 2) (q0 := 1) rfl rfl, fun U hU hW => ⟨rfl, by rw [hU]; exact hP.sub (ws' := (w_1_2 q cI cJ cD Tn Ta)) [1, 2] rfl, gEv.warm hW hE⟩⟩ rfl rfl hl.1 rfl (lv_room (Nat.le_of_ble_eq_true rfl)) dX8_rotate_39 ⟨Nat.zero_le _, Nat.zero_le _⟩) hP hS (gSub rfl) rfl rfl rfl rfl rfl (fun H locs hP hS => ?_)
    refine lv_aload_n hx hb dX8_rotate_42 rfl (lv_at hl 2 rfl) ?_
    refine va_get (D := D) (ci := 6) (v := .ref (q 1)) (C := RX8) (T := TX8) (N := 6) hx hb hts huX8 hown hE.1 hP 0 rfl rfl 0 (by decide) hk10 (fun _ h9 => h9) rfl dX8_rotate_43 ?_
    refine lv_iload_n hx hb dX8_rotate_46 rfl (lv_at hl 0 rfl) ?_
    refine lv_iload_n hx hb dX8_rotate_47 rfl (lv_at hl 1 rfl) ?_
    obtain ⟨Ta48, hc, hf⟩ := bn_some hf
    try dsimp only at hf
    refine g_call0 (ws' := (w_0_1_2 q cI cJ cD Tn Ta48)) (st1 := []) hq [0, 1, 2] [1, 2] [.inr 0, .inl 0, .inl 1] (va_runV (As := [.int (p1 - p1 / r11 * r11), .int r11]) (rest := []) ⟨hx, hb, hml, hown, hts⟩ (kX2_turn l D cI cJ cD q hq N Tn Ta39 (p1 - p1 / r11 * r11) r11 Ta48 hc) (cwV 2 hts gX8_rotate_X2_turn rfl rfl rfl (by decide +kernel) ⟨(Nat.le_of_ble_eq_true rfl), (Nat.le_of_ble_eq_true rfl)⟩) ⟨gP_blind, va_recv hE.1 hP (ci := 2) (q0 := 1) rfl rfl, fun U hU hW => ⟨rfl, by rw [hU]; exact hP.sub (ws' := (w_1_2 q cI cJ cD Tn Ta39)) [1, 2] rfl, gEv.warm hW hE⟩⟩ rfl rfl hl.1 rfl (lv_room (Nat.le_of_ble_eq_true rfl)) dX8_rotate_48 ⟨Nat.zero_le _, Nat.zero_le _⟩) hP hS (gSub rfl) rfl rfl rfl rfl rfl (fun H locs hP hS => ?_)
    refine lv_aload_n hx hb dX8_rotate_51 rfl (lv_at hl 2 rfl) ?_
    refine va_get (D := D) (ci := 6) (v := .ref (q 1)) (C := RX8) (T := TX8) (N := 6) hx hb hts huX8 hown hE.1 hP 0 rfl rfl 0 (by decide) hk10 (fun _ h9 => h9) rfl dX8_rotate_52 ?_
    refine lv_iconst (v := (0 : Int32)) hx hb dX8_rotate_55 (by decide) ?_
    refine lv_iload_n hx hb dX8_rotate_56 rfl (lv_at hl 1 rfl) ?_
    obtain ⟨Ta57, hc, hf⟩ := bn_some hf
    try dsimp only at hf
    refine g_call0 (ws' := (w_0_1_2 q cI cJ cD Tn Ta57)) (st1 := []) hq [0, 1, 2] [1, 2] [.inr 0, .inl 0, .inl 1] (va_runV (As := [.int (0 : Int32), .int r11]) (rest := []) ⟨hx, hb, hml, hown, hts⟩ (kX2_turn l D cI cJ cD q hq N Tn Ta48 (0 : Int32) r11 Ta57 hc) (cwV 2 hts gX8_rotate_X2_turn rfl rfl rfl (by decide +kernel) ⟨(Nat.le_of_ble_eq_true rfl), (Nat.le_of_ble_eq_true rfl)⟩) ⟨gP_blind, va_recv hE.1 hP (ci := 2) (q0 := 1) rfl rfl, fun U hU hW => ⟨rfl, by rw [hU]; exact hP.sub (ws' := (w_1_2 q cI cJ cD Tn Ta48)) [1, 2] rfl, gEv.warm hW hE⟩⟩ rfl rfl hl.1 rfl (lv_room (Nat.le_of_ble_eq_true rfl)) dX8_rotate_57 ⟨Nat.zero_le _, Nat.zero_le _⟩) hP hS (gSub rfl) rfl rfl rfl rfl rfl (fun H locs hP hS => ?_)
    refine lv_aload_n hx hb dX8_rotate_60 rfl (lv_at hl 2 rfl) ?_
    refine va_get (D := D) (ci := 6) (v := .ref (q 1)) (C := RX8) (T := TX8) (N := 6) hx hb hts huX8 hown hE.1 hP 0 rfl rfl 0 (by decide) hk10 (fun _ h9 => h9) rfl dX8_rotate_61 ?_
    refine lv_iconst (v := (0 : Int32)) hx hb dX8_rotate_64 (by decide) ?_
    obtain ⟨r65, hc, hf⟩ := bn_some hf
    try dsimp only at hf
    refine g_call0 (ws' := (w_0_1_2 q cI cJ cD Tn Ta57)) (st1 := [.int r65]) hq [0, 1, 2] [1, 2] [.inr 0, .inl 0, .inl 1] (va_runV (As := [.int (0 : Int32)]) (rest := []) ⟨hx, hb, hml, hown, hts⟩ (kX2_letter l D cI cJ cD q hq N Tn Ta57 (0 : Int32) r65 hc) (cwV 1 hts gX8_rotate_X2_letter rfl rfl rfl (by decide +kernel) ⟨(Nat.le_of_ble_eq_true rfl), (Nat.le_of_ble_eq_true rfl)⟩) ⟨gP_blind, va_recv hE.1 hP (ci := 2) (q0 := 1) rfl rfl, fun U hU hW => ⟨rfl, by rw [hU]; exact hP.sub (ws' := (w_1_2 q cI cJ cD Tn Ta57)) [1, 2] rfl, gEv.warm hW hE⟩⟩ rfl rfl hl.1 rfl (lv_room (Nat.le_of_ble_eq_true rfl)) dX8_rotate_65 ⟨Nat.zero_le _, Nat.zero_le _⟩) hP hS (gSub rfl) rfl rfl rfl rfl rfl (fun H locs hP hS => ?_)
    exact nomatch hf
  · have hf := (if_pos c_1).symm.trans hf
    cases hf
    exact vx_throwS (own := RX8) (cls := "java/lang/IllegalStateException") (text := "the text is empty") (names := ["java/lang/RuntimeException", "java/lang/Exception"]) (ik := 89) (is := 91) (ic := 93) (sa := sa 91) (A := (gA q [0, 1, 2])) hx hb hlt hown (by decide +kernel) (by decide +kernel) (hts (.classLink RX8 89 "java/lang/IllegalStateException") (by decide +kernel)) (hts (.initialized "java/lang/IllegalStateException") (by decide +kernel)) (hXe.1.1 (91, "the text is empty") (by decide +kernel)) (vx_hat (B := gB "java/lang/IllegalStateException") (fun w h => hts w (gw_X8_rotate_19 w h)) (gwB_X8_rotate_19) (gB_ok hXe.1 (cls := "java/lang/IllegalStateException") (by decide +kernel))) (gwg_X8_rotate_19) hXe.2.1 hXe.2.2 hS (hl.1.trans hml.symm) dX8_rotate_19 dX8_rotate_22 dX8_rotate_23 dX8_rotate_25 dX8_rotate_28 (fun x9 hx9 => (htab x9 hx9).elim) (Nat.le_of_ble_eq_true rfl) (Nat.le_of_ble_eq_true rfl) (Nat.le_of_ble_eq_true rfl) (Nat.le_of_ble_eq_true rfl) hlocks (fun t hv hz hk => ⟨rfl, hP.kept (fun k9 x9 hx9 => hk x9.1 ((hP k9 x9 hx9).lt)), ⟨Nat.le_trans hS.1 hz, fun a9 h1 hn => (hk a9 (Nat.lt_of_lt_of_le h1 hS.1)).trans (hS.2.1 a9 h1 hn)⟩⟩) hS.2.2 (Nat.le_of_ble_eq_true rfl) (Nat.le_of_ble_eq_true rfl)
set_option maxHeartbeats 4000000 in
set_option maxRecDepth 100000 in
theorem kX8_checkPart (l : Launch) (D : va_G) (cI cJ cD : ClassId) (q : Nat → Nat) (hq : gInj 14 q) (N : Nat) (Tn : Int32) (p1 : Int32) (p2 : Int32) (hf : fX8_checkPart N Tn p1 p2 = some (.inr ())) : Met l yX8_checkPart wsX8_checkPart rX8_checkPart (gP D cI cJ cD [.ref (q 0), .int p1, .int p2] (w_0_1 q cI cJ cD Tn)) (gQ D none (w_0_1 q cI cJ cD Tn) (gA q [0, 1])) 0 0 (gA q [0, 1]) := by
  refine Met.ofW (cc := cX8_checkPart) (maxL := 3) (ret := none) (by decide +kernel) rfl ?_
  intro p e s m args below meth c s₁ B hml hv
  obtain ⟨rfl, hP, hE⟩ := hv
  have hx := B.exec
  have hb := B.bytes
  have hr := B.returns
  have hts := atoms_spec (ws := wsX8_checkPart) B.pre
  have hown : s.vm.findClass RX8 = some m.cls := findClass_of_methodNamed B.named
  have hlocks := B.notSynchronized
  have hS : va_S (gA q [0, 1]) s.heap s.heap [] := va_S.rf
  have hl := lv_entry ([.ref (q 0), .int p1, .int p2]) (n := 3) (Nat.le_of_ble_eq_true rfl)
  rw [lg_entry_eq]
  generalize (lg_sl ([.ref (q 0), .int p1, .int p2]) ++ List.replicate (3 - (lg_sl ([.ref (q 0), .int p1, .int p2])).length) Slot.unset).toArray = ls at hl ⊢
  have hl : lv_has ls 3 [(0, .ref (q 0)), (1, .int p1), (2, .int p2)] := hl
  have hk10 := hts (.fieldLink RX8 10 "LyndonText" "text" "LLyndonText$Letters;") (by decide +kernel)
  have huX8 : ∀ w ∈ u_ws RX8 TX8 6, w ∈ wsX8_checkPart := by decide +kernel
  have J20 : ∀ (_ : Unit), fX8_checkPart_J20 N Tn = some (.inr ()) → ∀ (H : Heap) (locs : List Loc), va_P D vwCl (w_0_1 q cI cJ cD Tn) H → va_S (gA q [0, 1]) s.heap H locs → ∀ ls : Array Slot, lv_has ls 3 [] → W p l e (headSpec wsX8_checkPart rX8_checkPart).room s m ([.ref (q 0), .int p1, .int p2] : List Value).toArray below meth c H locs 0 0 (MQ below (gQ D none (w_0_1 q cI cJ cD Tn) (gA q [0, 1])) ([.ref (q 0), .int p1, .int p2] : List Value).toArray s 0 0 (gA q [0, 1])) (F0 m 20 ls []) := by
    intro _ hf H locs hP hS ls hl
    unfold fX8_checkPart_J20 at hf
    exact nomatch hf
  unfold fX8_checkPart at hf
  refine lv_iload_n hx hb dX8_checkPart_0 rfl (lv_at hl 1 rfl) ?_
  refine lv_if_lt (tgt := 20) hx hb dX8_checkPart_1 (by decide) (fun c_1 => ?_) (fun c_1 => ?_)
  · have hf := (if_pos c_1).symm.trans hf
    exact J20 () hf _ _ hP hS _ (lv_sub hl [] rfl)
  · have hf := (if_neg c_1).symm.trans hf
    refine lv_iload_n hx hb dX8_checkPart_4 rfl (lv_at hl 1 rfl) ?_
    refine lv_iload_n hx hb dX8_checkPart_5 rfl (lv_at hl 2 rfl) ?_
    refine lv_icmp_ge (tgt := 20) hx hb dX8_checkPart_6 (by decide) (fun c_2 => ?_) (fun c_2 => ?_)
    · have hf := (if_pos c_2).symm.trans hf
      exact J20 () hf _ _ hP hS _ (lv_sub hl [] rfl)
    · have hf := (if_neg c_2).symm.trans hf
      refine lv_iload_n hx hb dX8_checkPart_9 rfl (lv_at hl 2 rfl) ?_
      refine lv_aload_n hx hb dX8_checkPart_10 rfl (lv_at hl 0 rfl) ?_
      refine va_get (D := D) (ci := 6) (v := .ref (q 1)) (C := RX8) (T := TX8) (N := 6) hx hb hts huX8 hown hE.1 hP 0 rfl rfl 0 (by decide) hk10 (fun _ h9 => h9) rfl dX8_checkPart_11 ?_
      obtain ⟨r14, hc, hf⟩ := bn_some hf
      try dsimp only at hf
      refine g_call0 (ws' := (w_0_1 q cI cJ cD Tn)) (st1 := [.int r14, .int p2]) hq [0, 1] [1] [.inr 0, .inl 0] (va_runV (As := []) (rest := [.int p2]) ⟨hx, hb, hml, hown, hts⟩ (kX2_count l D cI cJ cD q hq N Tn r14 hc) (cwV 0 hts gX8_checkPart_X2_count rfl rfl rfl (by decide +kernel) ⟨(Nat.le_of_ble_eq_true rfl), (Nat.le_of_ble_eq_true rfl)⟩) ⟨gP_blind, va_recv hE.1 hP (ci := 2) (q0 := 1) rfl rfl, fun U hU hW => ⟨rfl, by rw [hU]; exact hP.sub (ws' := (w_1 q cI cJ cD Tn)) [1] rfl, gEv.warm hW hE⟩⟩ rfl rfl hl.1 rfl (lv_room (Nat.le_of_ble_eq_true rfl)) dX8_checkPart_14 ⟨Nat.zero_le _, Nat.zero_le _⟩) hP hS (gSub rfl) rfl rfl rfl rfl rfl (fun H locs hP hS => ?_)
      refine lv_icmp_le (tgt := 30) hx hb dX8_checkPart_17 (by decide) (fun c_3 => ?_) (fun c_3 => ?_)
      · have hf := (if_pos c_3).symm.trans hf
        cases hf
        exact W.vret hx hb hr (fun t ht hW => ⟨⟨rfl, by rw [ht]; exact hP⟩, hS.F ht⟩) hS.2.2 dX8_checkPart_30
      · have hf := (if_neg c_3).symm.trans hf
        exact J20 () hf _ _ hP hS _ (lv_sub hl [] rfl)
set_option maxHeartbeats 4000000 in
set_option maxRecDepth 100000 in
theorem kX8_checkPartx (l : Launch) (hlt : l.stackTraces = false) (D : va_G) (cI cJ cD : ClassId) (sa : Nat → Nat) (q : Nat → Nat) (hq : gInj 14 q) (N : Nat) (Tn : Int32) (p1 : Int32) (p2 : Int32) (e0 : Nat) (hf : fX8_checkPart N Tn p1 p2 = some (.inl e0)) : vx_Met l yX8_checkPart wsX8_checkPart rX8_checkPartx (gPx D cI cJ cD sa (gA q [0, 1]) [.ref (q 0), .int p1, .int p2] (w_0_1 q cI cJ cD Tn)) (fun _ _ _ _ => False) (gX D (gEn e0) (w_0_1 q cI cJ cD Tn) (gA q [0, 1])) 1 6 (gA q [0, 1]) := by
  refine vx_ofW (cc := cX8_checkPart) (maxL := 3) (ret := none) (by decide +kernel) rfl ?_
  intro p e s m args below meth c s₁ B hml htab hv
  obtain ⟨rfl, hP, hE, hXe⟩ := hv
  have hx := B.exec
  have hb := B.bytes
  have hr := B.returns
  have hts := atoms_spec (ws := wsX8_checkPart) B.pre
  have hown : s.vm.findClass RX8 = some m.cls := findClass_of_methodNamed B.named
  have hlocks := B.notSynchronized
  have hS : va_S (gA q [0, 1]) s.heap s.heap [] := va_S.rf
  have hl := lv_entry ([.ref (q 0), .int p1, .int p2]) (n := 3) (Nat.le_of_ble_eq_true rfl)
  rw [lg_entry_eq]
  generalize (lg_sl ([.ref (q 0), .int p1, .int p2]) ++ List.replicate (3 - (lg_sl ([.ref (q 0), .int p1, .int p2])).length) Slot.unset).toArray = ls at hl ⊢
  have hl : lv_has ls 3 [(0, .ref (q 0)), (1, .int p1), (2, .int p2)] := hl
  have hk10 := hts (.fieldLink RX8 10 "LyndonText" "text" "LLyndonText$Letters;") (by decide +kernel)
  have huX8 : ∀ w ∈ u_ws RX8 TX8 6, w ∈ wsX8_checkPart := by decide +kernel
  have J20 : ∀ (_ : Unit), fX8_checkPart_J20 N Tn = some (.inl e0) → ∀ (H : Heap) (locs : List Loc), va_P D vwCl (w_0_1 q cI cJ cD Tn) H → va_S (gA q [0, 1]) s.heap H locs → ∀ ls : Array Slot, lv_has ls 3 [] → W p l e (headSpec wsX8_checkPart rX8_checkPartx).room s m ([.ref (q 0), .int p1, .int p2] : List Value).toArray below meth c H locs 0 0 (vx_MQ below (fun _ _ _ _ => False) (gX D (gEn e0) (w_0_1 q cI cJ cD Tn) (gA q [0, 1])) ([.ref (q 0), .int p1, .int p2] : List Value).toArray s 1 6 (gA q [0, 1])) (F0 m 20 ls []) := by
    intro _ hf H locs hP hS ls hl
    unfold fX8_checkPart_J20 at hf
    cases hf
    exact vx_throwS (own := RX8) (cls := "java/lang/IndexOutOfBoundsException") (text := "there is no such part") (names := ["java/lang/RuntimeException", "java/lang/Exception"]) (ik := 232) (is := 239) (ic := 236) (sa := sa 239) (A := (gA q [0, 1])) hx hb hlt hown (by decide +kernel) (by decide +kernel) (hts (.classLink RX8 232 "java/lang/IndexOutOfBoundsException") (by decide +kernel)) (hts (.initialized "java/lang/IndexOutOfBoundsException") (by decide +kernel)) (hXe.1.1 (239, "there is no such part") (by decide +kernel)) (vx_hat (B := gB "java/lang/IndexOutOfBoundsException") (fun w h => hts w (gw_X8_checkPart_20 w h)) (gwB_X8_checkPart_20) (gB_ok hXe.1 (cls := "java/lang/IndexOutOfBoundsException") (by decide +kernel))) (gwg_X8_checkPart_20) hXe.2.1 hXe.2.2 hS (hl.1.trans hml.symm) dX8_checkPart_20 dX8_checkPart_23 dX8_checkPart_24 dX8_checkPart_26 dX8_checkPart_29 (fun x9 hx9 => (htab x9 hx9).elim) (Nat.le_of_ble_eq_true rfl) (Nat.le_of_ble_eq_true rfl) (Nat.le_of_ble_eq_true rfl) (Nat.le_of_ble_eq_true rfl) hlocks (fun t hv hz hk => ⟨rfl, hP.kept (fun k9 x9 hx9 => hk x9.1 ((hP k9 x9 hx9).lt)), ⟨Nat.le_trans hS.1 hz, fun a9 h1 hn => (hk a9 (Nat.lt_of_lt_of_le h1 hS.1)).trans (hS.2.1 a9 h1 hn)⟩⟩) hS.2.2 (Nat.le_of_ble_eq_true rfl) (Nat.le_of_ble_eq_true rfl)
  unfold fX8_checkPart at hf
  refine lv_iload_n hx hb dX8_checkPart_0 rfl (lv_at hl 1 rfl) ?_
  refine lv_if_lt (tgt := 20) hx hb dX8_checkPart_1 (by decide) (fun c_1 => ?_) (fun c_1 => ?_)
  · have hf := (if_pos c_1).symm.trans hf
    exact J20 () hf _ _ hP hS _ (lv_sub hl [] rfl)
  · have hf := (if_neg c_1).symm.trans hf
    refine lv_iload_n hx hb dX8_checkPart_4 rfl (lv_at hl 1 rfl) ?_
    refine lv_iload_n hx hb dX8_checkPart_5 rfl (lv_at hl 2 rfl) ?_
    refine lv_icmp_ge (tgt := 20) hx hb dX8_checkPart_6 (by decide) (fun c_2 => ?_) (fun c_2 => ?_)
    · have hf := (if_pos c_2).symm.trans hf
      exact J20 () hf _ _ hP hS _ (lv_sub hl [] rfl)
    · have hf := (if_neg c_2).symm.trans hf
      refine lv_iload_n hx hb dX8_checkPart_9 rfl (lv_at hl 2 rfl) ?_
      refine lv_aload_n hx hb dX8_checkPart_10 rfl (lv_at hl 0 rfl) ?_
      refine va_get (D := D) (ci := 6) (v := .ref (q 1)) (C := RX8) (T := TX8) (N := 6) hx hb hts huX8 hown hE.1 hP 0 rfl rfl 0 (by decide) hk10 (fun _ h9 => h9) rfl dX8_checkPart_11 ?_
      obtain ⟨r14, hc, hf⟩ := bn_some hf
      try dsimp only at hf
      refine g_call0 (ws' := (w_0_1 q cI cJ cD Tn)) (st1 := [.int r14, .int p2]) hq [0, 1] [1] [.inr 0, .inl 0] (va_runV (As := []) (rest := [.int p2]) ⟨hx, hb, hml, hown, hts⟩ (kX2_count l D cI cJ cD q hq N Tn r14 hc) (cwV 0 hts gX8_checkPart_X2_count rfl rfl rfl (by decide +kernel) ⟨(Nat.le_of_ble_eq_true rfl), (Nat.le_of_ble_eq_true rfl)⟩) ⟨gP_blind, va_recv hE.1 hP (ci := 2) (q0 := 1) rfl rfl, fun U hU hW => ⟨rfl, by rw [hU]; exact hP.sub (ws' := (w_1 q cI cJ cD Tn)) [1] rfl, gEv.warm hW hE⟩⟩ rfl rfl hl.1 rfl (lv_room (Nat.le_of_ble_eq_true rfl)) dX8_checkPart_14 ⟨Nat.zero_le _, Nat.zero_le _⟩) hP hS (gSub rfl) rfl rfl rfl rfl rfl (fun H locs hP hS => ?_)
      refine lv_icmp_le (tgt := 30) hx hb dX8_checkPart_17 (by decide) (fun c_3 => ?_) (fun c_3 => ?_)
      · have hf := (if_pos c_3).symm.trans hf
        exact nomatch hf
      · have hf := (if_neg c_3).symm.trans hf
        exact J20 () hf _ _ hP hS _ (lv_sub hl [] rfl)
set_option maxHeartbeats 4000000 in
set_option maxRecDepth 100000 in
theorem kX8_appendPart (l : Launch) (D : va_G) (cI cJ cD : ClassId) (q : Nat → Nat) (hq : gInj 14 q) (N : Nat) (Tn : Int32) (Ta : (Nat → Int32)) (p1 : Int32) (p2 : Int32) (r0 : Int32) (Tn9 : Int32) (Ta9 : (Nat → Int32)) (hf : fX8_appendPart N Tn Ta p1 p2 = some (.inr (r0, Tn9, Ta9))) : Met l yX8_appendPart wsX8_appendPart rX8_appendPart (gP D cI cJ cD [.ref (q 0), .int p1, .int p2] (w_0_1_2 q cI cJ cD Tn Ta)) (gQ D (some (.int r0)) (w_0_1_2 q cI cJ cD Tn9 Ta9) (gA q [0, 1, 2])) 0 0 (gA q [0, 1, 2]) := by
  refine Met.ofW (cc := cX8_appendPart) (maxL := 4) (ret := (some .int)) (by decide +kernel) rfl ?_
  intro p e s m args below meth c s₁ B hml hv
  obtain ⟨rfl, hP, hE⟩ := hv
  have hx := B.exec
  have hb := B.bytes
  have hr := B.returns
  have hts := atoms_spec (ws := wsX8_appendPart) B.pre
  have hown : s.vm.findClass RX8 = some m.cls := findClass_of_methodNamed B.named
  have hlocks := B.notSynchronized
  have hS : va_S (gA q [0, 1, 2]) s.heap s.heap [] := va_S.rf
  have hl := lv_entry ([.ref (q 0), .int p1, .int p2]) (n := 4) (Nat.le_of_ble_eq_true rfl)
  rw [lg_entry_eq]
  generalize (lg_sl ([.ref (q 0), .int p1, .int p2]) ++ List.replicate (4 - (lg_sl ([.ref (q 0), .int p1, .int p2])).length) Slot.unset).toArray = ls at hl ⊢
  have hl : lv_has ls 4 [(0, .ref (q 0)), (1, .int p1), (2, .int p2)] := hl
  have hk10 := hts (.fieldLink RX8 10 "LyndonText" "text" "LLyndonText$Letters;") (by decide +kernel)
  have huX8 : ∀ w ∈ u_ws RX8 TX8 6, w ∈ wsX8_appendPart := by decide +kernel
  have J41 : ∀ (Tn : Int32) (Ta : (Nat → Int32)), fX8_appendPart_J41 N Tn Ta = some (.inr (r0, Tn9, Ta9)) → ∀ (H : Heap) (locs : List Loc), va_P D vwCl (w_0_1_2 q cI cJ cD Tn Ta) H → va_S (gA q [0, 1, 2]) s.heap H locs → ∀ ls : Array Slot, lv_has ls 4 [(0, .ref (q 0))] → W p l e (headSpec wsX8_appendPart rX8_appendPart).room s m ([.ref (q 0), .int p1, .int p2] : List Value).toArray below meth c H locs 0 0 (MQ below (gQ D (some (.int r0)) (w_0_1_2 q cI cJ cD Tn9 Ta9) (gA q [0, 1, 2])) ([.ref (q 0), .int p1, .int p2] : List Value).toArray s 0 0 (gA q [0, 1, 2])) (F0 m 41 ls []) := by
    intro Tn Ta hf H locs hP hS ls hl
    unfold fX8_appendPart_J41 at hf
    refine lv_aload_n hx hb dX8_appendPart_41 rfl (lv_at hl 0 rfl) ?_
    refine va_get (D := D) (ci := 6) (v := .ref (q 1)) (C := RX8) (T := TX8) (N := 6) hx hb hts huX8 hown hE.1 hP 0 rfl rfl 0 (by decide) hk10 (fun _ h9 => h9) rfl dX8_appendPart_42 ?_
    obtain ⟨r45, hc, hf⟩ := bn_some hf
    try dsimp only at hf
    refine g_call0 (ws' := (w_0_1_2 q cI cJ cD Tn Ta)) (st1 := [.int r45]) hq [0, 1, 2] [1] [.inr 0, .inl 0, .inr 2] (va_runV (As := []) (rest := []) ⟨hx, hb, hml, hown, hts⟩ (kX2_count l D cI cJ cD q hq N Tn r45 hc) (cwV 0 hts gX8_appendPart_X2_count rfl rfl rfl (by decide +kernel) ⟨(Nat.le_of_ble_eq_true rfl), (Nat.le_of_ble_eq_true rfl)⟩) ⟨gP_blind, va_recv hE.1 hP (ci := 2) (q0 := 1) rfl rfl, fun U hU hW => ⟨rfl, by rw [hU]; exact hP.sub (ws' := (w_1 q cI cJ cD Tn)) [1] rfl, gEv.warm hW hE⟩⟩ rfl rfl hl.1 rfl (lv_room (Nat.le_of_ble_eq_true rfl)) dX8_appendPart_45 ⟨Nat.zero_le _, Nat.zero_le _⟩) hP hS (gSub rfl) rfl rfl rfl rfl rfl (fun H locs hP hS => ?_)
    cases hf
    exact W.iret hx hb hr (fun t ht hW => ⟨⟨rfl, by rw [ht]; exact hP⟩, hS.F ht⟩) hS.2.2 dX8_appendPart_48
  have K15 : ∀ (n15 : Nat) (Tn : Int32) (Ta : (Nat → Int32)) (x2 : Int32) (x3 : Int32), fX8_appendPart_H15 N n15 Tn Ta x2 x3 = some (.inr (r0, Tn9, Ta9)) → ∀ (H : Heap) (locs : List Loc), va_P D vwCl (w_0_1_2 q cI cJ cD Tn Ta) H → va_S (gA q [0, 1, 2]) s.heap H locs → ∀ ls : Array Slot, lv_has ls 4 [(0, .ref (q 0)), (2, .int x2), (3, .int x3)] → W p l e (headSpec wsX8_appendPart rX8_appendPart).room s m ([.ref (q 0), .int p1, .int p2] : List Value).toArray below meth c H locs 0 0 (MQ below (gQ D (some (.int r0)) (w_0_1_2 q cI cJ cD Tn9 Ta9) (gA q [0, 1, 2])) ([.ref (q 0), .int p1, .int p2] : List Value).toArray s 0 0 (gA q [0, 1, 2])) (F0 m 15 ls []) := by
    intro n15
    induction n15 with
    | zero =>
      intro Tn Ta x2 x3 hf
      exact nomatch (show (none : Option ((Nat × Int32 × (Nat → Int32)) ⊕ (Int32 × Int32 × (Nat → Int32)))) = some (.inr (r0, Tn9, Ta9)) from hf)
    | succ n15 ih15 =>
      intro Tn Ta x2 x3 hf H locs hP hS ls hl
      have hf : fX8_appendPart_B15 N (fX8_appendPart_H15 N n15) Tn Ta x2 x3 = some (.inr (r0, Tn9, Ta9)) := hf
      unfold fX8_appendPart_B15 at hf
      refine lv_iload_n hx hb dX8_appendPart_15 rfl (lv_at hl 2 rfl) ?_
      refine lv_iload_n hx hb dX8_appendPart_16 rfl (lv_at hl 1 rfl) ?_
      refine lv_icmp_ge (tgt := 41) hx hb dX8_appendPart_17 (by decide) (fun c_1 => ?_) (fun c_1 => ?_)
      · have hf := (if_pos c_1).symm.trans hf
        exact J41 Tn Ta hf _ _ hP hS _ (lv_sub hl [0] rfl)
      · have hf := (if_neg c_1).symm.trans hf
        refine lv_aload_n hx hb dX8_appendPart_20 rfl (lv_at hl 0 rfl) ?_
        refine va_get (D := D) (ci := 6) (v := .ref (q 1)) (C := RX8) (T := TX8) (N := 6) hx hb hts huX8 hown hE.1 hP 0 rfl rfl 0 (by decide) hk10 (fun _ h9 => h9) rfl dX8_appendPart_21 ?_
        refine lv_aload_n hx hb dX8_appendPart_24 rfl (lv_at hl 0 rfl) ?_
        refine va_get (D := D) (ci := 6) (v := .ref (q 1)) (C := RX8) (T := TX8) (N := 6) hx hb hts huX8 hown hE.1 hP 0 rfl rfl 0 (by decide) hk10 (fun _ h9 => h9) rfl dX8_appendPart_25 ?_
        refine lv_iload_n hx hb dX8_appendPart_28 rfl (lv_at hl 2 rfl) ?_
        obtain ⟨r29, hc, hf⟩ := bn_some hf
        try dsimp only at hf
        refine g_call0 (ws' := (w_0_1_2 q cI cJ cD Tn Ta)) (st1 := [.int r29, .ref (q 1)]) hq [0, 1, 2] [1, 2] [.inr 0, .inl 0, .inl 1] (va_runV (As := [.int x3]) (rest := [.ref (q 1)]) ⟨hx, hb, hml, hown, hts⟩ (kX2_letter l D cI cJ cD q hq N Tn Ta x3 r29 hc) (cwV 1 hts gX8_appendPart_X2_letter rfl rfl rfl (by decide +kernel) ⟨(Nat.le_of_ble_eq_true rfl), (Nat.le_of_ble_eq_true rfl)⟩) ⟨gP_blind, va_recv hE.1 hP (ci := 2) (q0 := 1) rfl rfl, fun U hU hW => ⟨rfl, by rw [hU]; exact hP.sub (ws' := (w_1_2 q cI cJ cD Tn Ta)) [1, 2] rfl, gEv.warm hW hE⟩⟩ rfl rfl hl.1 rfl (lv_room (Nat.le_of_ble_eq_true rfl)) dX8_appendPart_29 ⟨Nat.zero_le _, Nat.zero_le _⟩) hP hS (gSub rfl) rfl rfl rfl rfl rfl (fun H locs hP hS => ?_)
        obtain ⟨⟨Tn32, Ta32⟩, hc, hf⟩ := bn_some hf
        try dsimp only at hf
        refine g_call0 (ws' := (w_0_1_2 q cI cJ cD Tn32 Ta32)) (st1 := []) hq [0, 1, 2] [1, 2] [.inr 0, .inl 0, .inl 1] (va_runV (As := [.int r29]) (rest := []) ⟨hx, hb, hml, hown, hts⟩ (kX2_push l D cI cJ cD q hq N Tn Ta r29 Tn32 Ta32 hc) (cwV 1 hts gX8_appendPart_X2_push rfl rfl rfl (by decide +kernel) ⟨(Nat.le_of_ble_eq_true rfl), (Nat.le_of_ble_eq_true rfl)⟩) ⟨gP_blind, va_recv hE.1 hP (ci := 2) (q0 := 1) rfl rfl, fun U hU hW => ⟨rfl, by rw [hU]; exact hP.sub (ws' := (w_1_2 q cI cJ cD Tn Ta)) [1, 2] rfl, gEv.warm hW hE⟩⟩ rfl rfl hl.1 rfl (lv_room (Nat.le_of_ble_eq_true rfl)) dX8_appendPart_32 ⟨Nat.zero_le _, Nat.zero_le _⟩) hP hS (gSub rfl) rfl rfl rfl rfl rfl (fun H locs hP hS => ?_)
        refine lv_iinc (v := (x3 + 1)) (lv' := [(3, .int (x3 + 1)), (0, .ref (q 0)), (2, .int x2)]) hx hb dX8_appendPart_35 hl (k := 2) rfl rfl (by decide) rfl (fun ls hl => ?_)
        refine lv_goto (tgt := 15) hx hb dX8_appendPart_38 (by decide) ?_
        exact ih15 Tn32 Ta32 x2 (x3 + 1) hf _ _ hP hS _ (lv_sub hl [1, 2, 0] rfl)
  unfold fX8_appendPart at hf
  refine lv_aload_n hx hb dX8_appendPart_0 rfl (lv_at hl 0 rfl) ?_
  refine lv_iload_n hx hb dX8_appendPart_1 rfl (lv_at hl 1 rfl) ?_
  refine lv_iload_n hx hb dX8_appendPart_2 rfl (lv_at hl 2 rfl) ?_
  rcases bx_some hf with ⟨e3, hc, hf⟩ | ⟨⟨⟩, hc, hf⟩
  · exact nomatch hf
  try dsimp only at hf
  refine g_call0 (ws' := (w_0_1_2 q cI cJ cD Tn Ta)) (st1 := []) hq [0, 1, 2] [0, 1] [.inl 0, .inl 1, .inr 2] (va_runV (As := [.int p1, .int p2]) (rest := []) ⟨hx, hb, hml, hown, hts⟩ (kX8_checkPart l D cI cJ cD q hq N Tn p1 p2 hc) (cwV 2 hts gX8_appendPart_X8_checkPart rfl rfl rfl (by decide +kernel) ⟨(Nat.le_of_ble_eq_true rfl), (Nat.le_of_ble_eq_true rfl)⟩) ⟨gP_blind, va_recv hE.1 hP (ci := 6) (q0 := 0) rfl rfl, fun U hU hW => ⟨rfl, by rw [hU]; exact hP.sub (ws' := (w_0_1 q cI cJ cD Tn)) [0, 1] rfl, gEv.warm hW hE⟩⟩ rfl rfl hl.1 rfl (lv_room (Nat.le_of_ble_eq_true rfl)) dX8_appendPart_3 ⟨Nat.zero_le _, Nat.zero_le _⟩) hP hS (gSub rfl) rfl rfl rfl rfl rfl (fun H locs hP hS => ?_)
  refine lv_aload_n hx hb dX8_appendPart_6 rfl (lv_at hl 0 rfl) ?_
  refine lv_iload_n hx hb dX8_appendPart_7 rfl (lv_at hl 2 rfl) ?_
  refine lv_iload_n hx hb dX8_appendPart_8 rfl (lv_at hl 1 rfl) ?_
  refine lv_isub hx hb dX8_appendPart_9 ?_
  rcases bx_some hf with ⟨e10, hc, hf⟩ | ⟨⟨⟩, hc, hf⟩
  · exact nomatch hf
  try dsimp only at hf
  refine g_call0 (ws' := (w_0_1_2 q cI cJ cD Tn Ta)) (st1 := []) hq [0, 1, 2] [0, 1] [.inl 0, .inl 1, .inr 2] (va_runV (As := [.int (p2 - p1)]) (rest := []) ⟨hx, hb, hml, hown, hts⟩ (kX8_checkRoom l D cI cJ cD q hq N Tn (p2 - p1) hc) (cwV 1 hts gX8_appendPart_X8_checkRoom rfl rfl rfl (by decide +kernel) ⟨(Nat.le_of_ble_eq_true rfl), (Nat.le_of_ble_eq_true rfl)⟩) ⟨gP_blind, va_recv hE.1 hP (ci := 6) (q0 := 0) rfl rfl, fun U hU hW => ⟨rfl, by rw [hU]; exact hP.sub (ws' := (w_0_1 q cI cJ cD Tn)) [0, 1] rfl, gEv.warm hW hE⟩⟩ rfl rfl hl.1 rfl (lv_room (Nat.le_of_ble_eq_true rfl)) dX8_appendPart_10 ⟨Nat.zero_le _, Nat.zero_le _⟩) hP hS (gSub rfl) rfl rfl rfl rfl rfl (fun H locs hP hS => ?_)
  refine lv_iload_n hx hb dX8_appendPart_13 rfl (lv_at hl 1 rfl) ?_
  refine lv_istore_n (lv' := [(3, .int p1), (0, .ref (q 0)), (1, .int p1), (2, .int p2)]) hx hb dX8_appendPart_14 rfl hl (by decide) rfl (fun ls hl => ?_)
  exact K15 N Tn Ta p2 p1 hf _ _ hP hS _ (lv_sub hl [1, 3, 0] rfl)
set_option maxHeartbeats 4000000 in
set_option maxRecDepth 100000 in
theorem kX8_appendPartx (l : Launch) (hlt : l.stackTraces = false) (D : va_G) (cI cJ cD : ClassId) (sa : Nat → Nat) (q : Nat → Nat) (hq : gInj 14 q) (N : Nat) (Tn : Int32) (Ta : (Nat → Int32)) (p1 : Int32) (p2 : Int32) (e0 : Nat) (Tn9 : Int32) (Ta9 : (Nat → Int32)) (hf : fX8_appendPart N Tn Ta p1 p2 = some (.inl (e0, Tn9, Ta9))) : vx_Met l yX8_appendPart wsX8_appendPart rX8_appendPartx (gPx D cI cJ cD sa (gA q [0, 1, 2]) [.ref (q 0), .int p1, .int p2] (w_0_1_2 q cI cJ cD Tn Ta)) (fun _ _ _ _ => False) (gX D (gEn e0) (w_0_1_2 q cI cJ cD Tn9 Ta9) (gA q [0, 1, 2])) 1 6 (gA q [0, 1, 2]) := by
  refine vx_ofW (cc := cX8_appendPart) (maxL := 4) (ret := (some .int)) (by decide +kernel) rfl ?_
  intro p e s m args below meth c s₁ B hml htab hv
  obtain ⟨rfl, hP, hE, hXe⟩ := hv
  have hx := B.exec
  have hb := B.bytes
  have hr := B.returns
  have hts := atoms_spec (ws := wsX8_appendPart) B.pre
  have hown : s.vm.findClass RX8 = some m.cls := findClass_of_methodNamed B.named
  have hlocks := B.notSynchronized
  have hS : va_S (gA q [0, 1, 2]) s.heap s.heap [] := va_S.rf
  have hl := lv_entry ([.ref (q 0), .int p1, .int p2]) (n := 4) (Nat.le_of_ble_eq_true rfl)
  rw [lg_entry_eq]
  generalize (lg_sl ([.ref (q 0), .int p1, .int p2]) ++ List.replicate (4 - (lg_sl ([.ref (q 0), .int p1, .int p2])).length) Slot.unset).toArray = ls at hl ⊢
  have hl : lv_has ls 4 [(0, .ref (q 0)), (1, .int p1), (2, .int p2)] := hl
  have hk10 := hts (.fieldLink RX8 10 "LyndonText" "text" "LLyndonText$Letters;") (by decide +kernel)
  have huX8 : ∀ w ∈ u_ws RX8 TX8 6, w ∈ wsX8_appendPart := by decide +kernel
  have J41 : ∀ (Tn : Int32) (Ta : (Nat → Int32)), fX8_appendPart_J41 N Tn Ta = some (.inl (e0, Tn9, Ta9)) → ∀ (H : Heap) (locs : List Loc), va_P D vwCl (w_0_1_2 q cI cJ cD Tn Ta) H → va_S (gA q [0, 1, 2]) s.heap H locs → ∀ ls : Array Slot, lv_has ls 4 [(0, .ref (q 0))] → W p l e (headSpec wsX8_appendPart rX8_appendPartx).room s m ([.ref (q 0), .int p1, .int p2] : List Value).toArray below meth c H locs 0 0 (vx_MQ below (fun _ _ _ _ => False) (gX D (gEn e0) (w_0_1_2 q cI cJ cD Tn9 Ta9) (gA q [0, 1, 2])) ([.ref (q 0), .int p1, .int p2] : List Value).toArray s 1 6 (gA q [0, 1, 2])) (F0 m 41 ls []) := by
    intro Tn Ta hf H locs hP hS ls hl
    unfold fX8_appendPart_J41 at hf
    refine lv_aload_n hx hb dX8_appendPart_41 rfl (lv_at hl 0 rfl) ?_
    refine va_get (D := D) (ci := 6) (v := .ref (q 1)) (C := RX8) (T := TX8) (N := 6) hx hb hts huX8 hown hE.1 hP 0 rfl rfl 0 (by decide) hk10 (fun _ h9 => h9) rfl dX8_appendPart_42 ?_
    obtain ⟨r45, hc, hf⟩ := bn_some hf
    try dsimp only at hf
    refine g_call0 (ws' := (w_0_1_2 q cI cJ cD Tn Ta)) (st1 := [.int r45]) hq [0, 1, 2] [1] [.inr 0, .inl 0, .inr 2] (va_runV (As := []) (rest := []) ⟨hx, hb, hml, hown, hts⟩ (kX2_count l D cI cJ cD q hq N Tn r45 hc) (cwV 0 hts gX8_appendPart_X2_count rfl rfl rfl (by decide +kernel) ⟨(Nat.le_of_ble_eq_true rfl), (Nat.le_of_ble_eq_true rfl)⟩) ⟨gP_blind, va_recv hE.1 hP (ci := 2) (q0 := 1) rfl rfl, fun U hU hW => ⟨rfl, by rw [hU]; exact hP.sub (ws' := (w_1 q cI cJ cD Tn)) [1] rfl, gEv.warm hW hE⟩⟩ rfl rfl hl.1 rfl (lv_room (Nat.le_of_ble_eq_true rfl)) dX8_appendPart_45 ⟨Nat.zero_le _, Nat.zero_le _⟩) hP hS (gSub rfl) rfl rfl rfl rfl rfl (fun H locs hP hS => ?_)
    exact nomatch hf
  have K15 : ∀ (n15 : Nat) (Tn : Int32) (Ta : (Nat → Int32)) (x2 : Int32) (x3 : Int32), fX8_appendPart_H15 N n15 Tn Ta x2 x3 = some (.inl (e0, Tn9, Ta9)) → ∀ (H : Heap) (locs : List Loc), va_P D vwCl (w_0_1_2 q cI cJ cD Tn Ta) H → va_S (gA q [0, 1, 2]) s.heap H locs → ∀ ls : Array Slot, lv_has ls 4 [(0, .ref (q 0)), (2, .int x2), (3, .int x3)] → W p l e (headSpec wsX8_appendPart rX8_appendPartx).room s m ([.ref (q 0), .int p1, .int p2] : List Value).toArray below meth c H locs 0 0 (vx_MQ below (fun _ _ _ _ => False) (gX D (gEn e0) (w_0_1_2 q cI cJ cD Tn9 Ta9) (gA q [0, 1, 2])) ([.ref (q 0), .int p1, .int p2] : List Value).toArray s 1 6 (gA q [0, 1, 2])) (F0 m 15 ls []) := by
    intro n15
    induction n15 with
    | zero =>
      intro Tn Ta x2 x3 hf
      exact nomatch (show (none : Option ((Nat × Int32 × (Nat → Int32)) ⊕ (Int32 × Int32 × (Nat → Int32)))) = some (.inl (e0, Tn9, Ta9)) from hf)
    | succ n15 ih15 =>
      intro Tn Ta x2 x3 hf H locs hP hS ls hl
      have hf : fX8_appendPart_B15 N (fX8_appendPart_H15 N n15) Tn Ta x2 x3 = some (.inl (e0, Tn9, Ta9)) := hf
      unfold fX8_appendPart_B15 at hf
      refine lv_iload_n hx hb dX8_appendPart_15 rfl (lv_at hl 2 rfl) ?_
      refine lv_iload_n hx hb dX8_appendPart_16 rfl (lv_at hl 1 rfl) ?_
      refine lv_icmp_ge (tgt := 41) hx hb dX8_appendPart_17 (by decide) (fun c_1 => ?_) (fun c_1 => ?_)
      · have hf := (if_pos c_1).symm.trans hf
        exact J41 Tn Ta hf _ _ hP hS _ (lv_sub hl [0] rfl)
      · have hf := (if_neg c_1).symm.trans hf
        refine lv_aload_n hx hb dX8_appendPart_20 rfl (lv_at hl 0 rfl) ?_
        refine va_get (D := D) (ci := 6) (v := .ref (q 1)) (C := RX8) (T := TX8) (N := 6) hx hb hts huX8 hown hE.1 hP 0 rfl rfl 0 (by decide) hk10 (fun _ h9 => h9) rfl dX8_appendPart_21 ?_
        refine lv_aload_n hx hb dX8_appendPart_24 rfl (lv_at hl 0 rfl) ?_
        refine va_get (D := D) (ci := 6) (v := .ref (q 1)) (C := RX8) (T := TX8) (N := 6) hx hb hts huX8 hown hE.1 hP 0 rfl rfl 0 (by decide) hk10 (fun _ h9 => h9) rfl dX8_appendPart_25 ?_
        refine lv_iload_n hx hb dX8_appendPart_28 rfl (lv_at hl 2 rfl) ?_
        obtain ⟨r29, hc, hf⟩ := bn_some hf
        try dsimp only at hf
        refine g_call0 (ws' := (w_0_1_2 q cI cJ cD Tn Ta)) (st1 := [.int r29, .ref (q 1)]) hq [0, 1, 2] [1, 2] [.inr 0, .inl 0, .inl 1] (va_runV (As := [.int x3]) (rest := [.ref (q 1)]) ⟨hx, hb, hml, hown, hts⟩ (kX2_letter l D cI cJ cD q hq N Tn Ta x3 r29 hc) (cwV 1 hts gX8_appendPart_X2_letter rfl rfl rfl (by decide +kernel) ⟨(Nat.le_of_ble_eq_true rfl), (Nat.le_of_ble_eq_true rfl)⟩) ⟨gP_blind, va_recv hE.1 hP (ci := 2) (q0 := 1) rfl rfl, fun U hU hW => ⟨rfl, by rw [hU]; exact hP.sub (ws' := (w_1_2 q cI cJ cD Tn Ta)) [1, 2] rfl, gEv.warm hW hE⟩⟩ rfl rfl hl.1 rfl (lv_room (Nat.le_of_ble_eq_true rfl)) dX8_appendPart_29 ⟨Nat.zero_le _, Nat.zero_le _⟩) hP hS (gSub rfl) rfl rfl rfl rfl rfl (fun H locs hP hS => ?_)
        obtain ⟨⟨Tn32, Ta32⟩, hc, hf⟩ := bn_some hf
        try dsimp only at hf
        refine g_call0 (ws' := (w_0_1_2 q cI cJ cD Tn32 Ta32)) (st1 := []) hq [0, 1, 2] [1, 2] [.inr 0, .inl 0, .inl 1] (va_runV (As := [.int r29]) (rest := []) ⟨hx, hb, hml, hown, hts⟩ (kX2_push l D cI cJ cD q hq N Tn Ta r29 Tn32 Ta32 hc) (cwV 1 hts gX8_appendPart_X2_push rfl rfl rfl (by decide +kernel) ⟨(Nat.le_of_ble_eq_true rfl), (Nat.le_of_ble_eq_true rfl)⟩) ⟨gP_blind, va_recv hE.1 hP (ci := 2) (q0 := 1) rfl rfl, fun U hU hW => ⟨rfl, by rw [hU]; exact hP.sub (ws' := (w_1_2 q cI cJ cD Tn Ta)) [1, 2] rfl, gEv.warm hW hE⟩⟩ rfl rfl hl.1 rfl (lv_room (Nat.le_of_ble_eq_true rfl)) dX8_appendPart_32 ⟨Nat.zero_le _, Nat.zero_le _⟩) hP hS (gSub rfl) rfl rfl rfl rfl rfl (fun H locs hP hS => ?_)
        refine lv_iinc (v := (x3 + 1)) (lv' := [(3, .int (x3 + 1)), (0, .ref (q 0)), (2, .int x2)]) hx hb dX8_appendPart_35 hl (k := 2) rfl rfl (by decide) rfl (fun ls hl => ?_)
        refine lv_goto (tgt := 15) hx hb dX8_appendPart_38 (by decide) ?_
        exact ih15 Tn32 Ta32 x2 (x3 + 1) hf _ _ hP hS _ (lv_sub hl [1, 2, 0] rfl)
  unfold fX8_appendPart at hf
  refine lv_aload_n hx hb dX8_appendPart_0 rfl (lv_at hl 0 rfl) ?_
  refine lv_iload_n hx hb dX8_appendPart_1 rfl (lv_at hl 1 rfl) ?_
  refine lv_iload_n hx hb dX8_appendPart_2 rfl (lv_at hl 2 rfl) ?_
  rcases bx_some hf with ⟨e3, hc, hf⟩ | ⟨⟨⟩, hc, hf⟩
  · try dsimp only at hf
    refine g_callX (ws' := (w_0_1_2 q cI cJ cD Tn Ta)) hq [0, 1, 2] [0, 1] [.inl 0, .inl 1, .inr 2] (vx_runV (As := [.int p1, .int p2]) (rest := []) ⟨hx, hb, hml, hown, hts⟩ (kX8_checkPartx l hlt D cI cJ cD sa q hq N Tn p1 p2 e3 hc) (cwV 2 hts gX8_appendPart_X8_checkPart rfl rfl rfl (by decide +kernel) ⟨(Nat.le_of_ble_eq_true rfl), (Nat.le_of_ble_eq_true rfl)⟩) ⟨gPx_blind, va_recv hE.1 hP (ci := 6) (q0 := 0) rfl rfl, fun U hU hW => ⟨rfl, by rw [hU]; exact hP.sub (ws' := (w_0_1 q cI cJ cD Tn)) [0, 1] rfl, gEv.warm hW hE, gXe.go hW hS (gMono rfl) hXe hU⟩⟩ rfl rfl hl.1 rfl (lv_room (Nat.le_of_ble_eq_true rfl)) dX8_appendPart_3 ⟨(Nat.le_of_ble_eq_true rfl), (Nat.le_of_ble_eq_true rfl)⟩) hP hS (gSub rfl) rfl rfl rfl rfl (fun ce q9 H locs hP hS hce hcv hcl => ?_)
    cases hf
    exact vx_out (fun x9 hx9 => (htab x9 hx9).elim) hlocks hce hcv hcl (fun t ht hv => ⟨rfl, by rw [ht]; exact hP, hS.F ht⟩) hS.2.2 (Nat.le_of_ble_eq_true rfl) (Nat.le_of_ble_eq_true rfl)
  try dsimp only at hf
  refine g_call0 (ws' := (w_0_1_2 q cI cJ cD Tn Ta)) (st1 := []) hq [0, 1, 2] [0, 1] [.inl 0, .inl 1, .inr 2] (va_runV (As := [.int p1, .int p2]) (rest := []) ⟨hx, hb, hml, hown, hts⟩ (kX8_checkPart l D cI cJ cD q hq N Tn p1 p2 hc) (cwV 2 hts gX8_appendPart_X8_checkPart rfl rfl rfl (by decide +kernel) ⟨(Nat.le_of_ble_eq_true rfl), (Nat.le_of_ble_eq_true rfl)⟩) ⟨gP_blind, va_recv hE.1 hP (ci := 6) (q0 := 0) rfl rfl, fun U hU hW => ⟨rfl, by rw [hU]; exact hP.sub (ws' := (w_0_1 q cI cJ cD Tn)) [0, 1] rfl, gEv.warm hW hE⟩⟩ rfl rfl hl.1 rfl (lv_room (Nat.le_of_ble_eq_true rfl)) dX8_appendPart_3 ⟨Nat.zero_le _, Nat.zero_le _⟩) hP hS (gSub rfl) rfl rfl rfl rfl rfl (fun H locs hP hS => ?_)
  refine lv_aload_n hx hb dX8_appendPart_6 rfl (lv_at hl 0 rfl) ?_
  refine lv_iload_n hx hb dX8_appendPart_7 rfl (lv_at hl 2 rfl) ?_
  refine lv_iload_n hx hb dX8_appendPart_8 rfl (lv_at hl 1 rfl) ?_
  refine lv_isub hx hb dX8_appendPart_9 ?_
  rcases bx_some hf with ⟨e10, hc, hf⟩ | ⟨⟨⟩, hc, hf⟩
  · try dsimp only at hf
    refine g_callX (ws' := (w_0_1_2 q cI cJ cD Tn Ta)) hq [0, 1, 2] [0, 1] [.inl 0, .inl 1, .inr 2] (vx_runV (As := [.int (p2 - p1)]) (rest := []) ⟨hx, hb, hml, hown, hts⟩ (kX8_checkRoomx l hlt D cI cJ cD sa q hq N Tn (p2 - p1) e10 hc) (cwV 1 hts gX8_appendPart_X8_checkRoom rfl rfl rfl (by decide +kernel) ⟨(Nat.le_of_ble_eq_true rfl), (Nat.le_of_ble_eq_true rfl)⟩) ⟨gPx_blind, va_recv hE.1 hP (ci := 6) (q0 := 0) rfl rfl, fun U hU hW => ⟨rfl, by rw [hU]; exact hP.sub (ws' := (w_0_1 q cI cJ cD Tn)) [0, 1] rfl, gEv.warm hW hE, gXe.go hW hS (gMono rfl) hXe hU⟩⟩ rfl rfl hl.1 rfl (lv_room (Nat.le_of_ble_eq_true rfl)) dX8_appendPart_10 ⟨(Nat.le_of_ble_eq_true rfl), (Nat.le_of_ble_eq_true rfl)⟩) hP hS (gSub rfl) rfl rfl rfl rfl (fun ce q9 H locs hP hS hce hcv hcl => ?_)
    cases hf
    exact vx_out (fun x9 hx9 => (htab x9 hx9).elim) hlocks hce hcv hcl (fun t ht hv => ⟨rfl, by rw [ht]; exact hP, hS.F ht⟩) hS.2.2 (Nat.le_of_ble_eq_true rfl) (Nat.le_of_ble_eq_true rfl)
  try dsimp only at hf
  refine g_call0 (ws' := (w_0_1_2 q cI cJ cD Tn Ta)) (st1 := []) hq [0, 1, 2] [0, 1] [.inl 0, .inl 1, .inr 2] (va_runV (As := [.int (p2 - p1)]) (rest := []) ⟨hx, hb, hml, hown, hts⟩ (kX8_checkRoom l D cI cJ cD q hq N Tn (p2 - p1) hc) (cwV 1 hts gX8_appendPart_X8_checkRoom rfl rfl rfl (by decide +kernel) ⟨(Nat.le_of_ble_eq_true rfl), (Nat.le_of_ble_eq_true rfl)⟩) ⟨gP_blind, va_recv hE.1 hP (ci := 6) (q0 := 0) rfl rfl, fun U hU hW => ⟨rfl, by rw [hU]; exact hP.sub (ws' := (w_0_1 q cI cJ cD Tn)) [0, 1] rfl, gEv.warm hW hE⟩⟩ rfl rfl hl.1 rfl (lv_room (Nat.le_of_ble_eq_true rfl)) dX8_appendPart_10 ⟨Nat.zero_le _, Nat.zero_le _⟩) hP hS (gSub rfl) rfl rfl rfl rfl rfl (fun H locs hP hS => ?_)
  refine lv_iload_n hx hb dX8_appendPart_13 rfl (lv_at hl 1 rfl) ?_
  refine lv_istore_n (lv' := [(3, .int p1), (0, .ref (q 0)), (1, .int p1), (2, .int p2)]) hx hb dX8_appendPart_14 rfl hl (by decide) rfl (fun ls hl => ?_)
  exact K15 N Tn Ta p2 p1 hf _ _ hP hS _ (lv_sub hl [1, 3, 0] rfl)
set_option maxHeartbeats 4000000 in
set_option maxRecDepth 100000 in
theorem kX8_pushFromWalk (l : Launch) (D : va_G) (cI cJ cD : ClassId) (q : Nat → Nat) (hq : gInj 14 q) (N : Nat) (Tn : Int32) (Ta : (Nat → Int32)) (Wg : Int32) (Wz : Int32) (Ww : Int32) (Wr : Int32) (p1 : Int32) (Tn9 : Int32) (Ta9 : (Nat → Int32)) (hf : fX8_pushFromWalk N Tn Ta Wg Wz Ww Wr p1 = some (Tn9, Ta9)) : Met l yX8_pushFromWalk wsX8_pushFromWalk rX8_pushFromWalk (gP D cI cJ cD [.ref (q 0), .int p1] (w_0_1_2_13 q cI cJ cD Tn Ta Wg Wz Ww Wr)) (gQ D none (w_0_1_2_13 q cI cJ cD Tn9 Ta9 Wg Wz Ww Wr) (gA q [0, 1, 2, 13])) 0 0 (gA q [0, 1, 2, 13]) := by
  refine Met.ofW (cc := cX8_pushFromWalk) (maxL := 3) (ret := none) (by decide +kernel) rfl ?_
  intro p e s m args below meth c s₁ B hml hv
  obtain ⟨rfl, hP, hE⟩ := hv
  have hx := B.exec
  have hb := B.bytes
  have hr := B.returns
  have hts := atoms_spec (ws := wsX8_pushFromWalk) B.pre
  have hown : s.vm.findClass RX8 = some m.cls := findClass_of_methodNamed B.named
  have hlocks := B.notSynchronized
  have hS : va_S (gA q [0, 1, 2, 13]) s.heap s.heap [] := va_S.rf
  have hl := lv_entry ([.ref (q 0), .int p1]) (n := 3) (Nat.le_of_ble_eq_true rfl)
  rw [lg_entry_eq]
  generalize (lg_sl ([.ref (q 0), .int p1]) ++ List.replicate (3 - (lg_sl ([.ref (q 0), .int p1])).length) Slot.unset).toArray = ls at hl ⊢
  have hl : lv_has ls 3 [(0, .ref (q 0)), (1, .int p1)] := hl
  have hk10 := hts (.fieldLink RX8 10 "LyndonText" "text" "LLyndonText$Letters;") (by decide +kernel)
  have hk47 := hts (.fieldLink RX8 47 "LyndonText" "walk" "LLyndonText$NecklaceWalk;") (by decide +kernel)
  have huX8 : ∀ w ∈ u_ws RX8 TX8 6, w ∈ wsX8_pushFromWalk := by decide +kernel
  have J28 : ∀ (Tn : Int32) (Ta : (Nat → Int32)), fX8_pushFromWalk_J28 N Wg Wz Ww Wr Tn Ta = some (Tn9, Ta9) → ∀ (H : Heap) (locs : List Loc), va_P D vwCl (w_0_1_2_13 q cI cJ cD Tn Ta Wg Wz Ww Wr) H → va_S (gA q [0, 1, 2, 13]) s.heap H locs → ∀ ls : Array Slot, lv_has ls 3 [] → W p l e (headSpec wsX8_pushFromWalk rX8_pushFromWalk).room s m ([.ref (q 0), .int p1] : List Value).toArray below meth c H locs 0 0 (MQ below (gQ D none (w_0_1_2_13 q cI cJ cD Tn9 Ta9 Wg Wz Ww Wr) (gA q [0, 1, 2, 13])) ([.ref (q 0), .int p1] : List Value).toArray s 0 0 (gA q [0, 1, 2, 13])) (F0 m 28 ls []) := by
    intro Tn Ta hf H locs hP hS ls hl
    unfold fX8_pushFromWalk_J28 at hf
    cases hf
    exact W.vret hx hb hr (fun t ht hW => ⟨⟨rfl, by rw [ht]; exact hP⟩, hS.F ht⟩) hS.2.2 dX8_pushFromWalk_28
  have K2 : ∀ (n2 : Nat) (Tn : Int32) (Ta : (Nat → Int32)) (x1 : Int32) (x2 : Int32), fX8_pushFromWalk_H2 N Wg Wz Ww Wr n2 Tn Ta x1 x2 = some (Tn9, Ta9) → ∀ (H : Heap) (locs : List Loc), va_P D vwCl (w_0_1_2_13 q cI cJ cD Tn Ta Wg Wz Ww Wr) H → va_S (gA q [0, 1, 2, 13]) s.heap H locs → ∀ ls : Array Slot, lv_has ls 3 [(0, .ref (q 0)), (1, .int x1), (2, .int x2)] → W p l e (headSpec wsX8_pushFromWalk rX8_pushFromWalk).room s m ([.ref (q 0), .int p1] : List Value).toArray below meth c H locs 0 0 (MQ below (gQ D none (w_0_1_2_13 q cI cJ cD Tn9 Ta9 Wg Wz Ww Wr) (gA q [0, 1, 2, 13])) ([.ref (q 0), .int p1] : List Value).toArray s 0 0 (gA q [0, 1, 2, 13])) (F0 m 2 ls []) := by
    intro n2
    induction n2 with
    | zero =>
      intro Tn Ta x1 x2 hf
      exact nomatch (show (none : Option (Int32 × (Nat → Int32))) = some (Tn9, Ta9) from hf)
    | succ n2 ih2 =>
      intro Tn Ta x1 x2 hf H locs hP hS ls hl
      have hf : fX8_pushFromWalk_B2 N Wg Wz Ww Wr (fX8_pushFromWalk_H2 N Wg Wz Ww Wr n2) Tn Ta x1 x2 = some (Tn9, Ta9) := hf
      unfold fX8_pushFromWalk_B2 at hf
      refine lv_iload_n hx hb dX8_pushFromWalk_2 rfl (lv_at hl 2 rfl) ?_
      refine lv_iload_n hx hb dX8_pushFromWalk_3 rfl (lv_at hl 1 rfl) ?_
      refine lv_icmp_ge (tgt := 28) hx hb dX8_pushFromWalk_4 (by decide) (fun c_1 => ?_) (fun c_1 => ?_)
      · have hf := (if_pos c_1).symm.trans hf
        exact J28 Tn Ta hf _ _ hP hS _ (lv_sub hl [] rfl)
      · have hf := (if_neg c_1).symm.trans hf
        refine lv_aload_n hx hb dX8_pushFromWalk_7 rfl (lv_at hl 0 rfl) ?_
        refine va_get (D := D) (ci := 6) (v := .ref (q 1)) (C := RX8) (T := TX8) (N := 6) hx hb hts huX8 hown hE.1 hP 0 rfl rfl 0 (by decide) hk10 (fun _ h9 => h9) rfl dX8_pushFromWalk_8 ?_
        refine lv_aload_n hx hb dX8_pushFromWalk_11 rfl (lv_at hl 0 rfl) ?_
        refine va_get (D := D) (ci := 6) (v := .ref (q 13)) (C := RX8) (T := TX8) (N := 6) hx hb hts huX8 hown hE.1 hP 0 rfl rfl 5 (by decide) hk47 (fun _ h9 => h9) rfl dX8_pushFromWalk_12 ?_
        refine lv_iload_n hx hb dX8_pushFromWalk_15 rfl (lv_at hl 2 rfl) ?_
        obtain ⟨r16, hc, hf⟩ := bn_some hf
        try dsimp only at hf
        refine g_call0 (ws' := (w_0_1_2_13 q cI cJ cD Tn Ta Wg Wz Ww Wr)) (st1 := [.int r16, .ref (q 1)]) hq [0, 1, 2, 13] [13] [.inr 0, .inr 1, .inr 2, .inl 0] (va_runV (As := [.int x2]) (rest := [.ref (q 1)]) ⟨hx, hb, hml, hown, hts⟩ (kX3_letter l D cI cJ cD q hq N Wg Wz Ww Wr x2 r16 hc) (cwV 1 hts gX8_pushFromWalk_X3_letter rfl rfl rfl (by decide +kernel) ⟨(Nat.le_of_ble_eq_true rfl), (Nat.le_of_ble_eq_true rfl)⟩) ⟨gP_blind, va_recv hE.1 hP (ci := 3) (q0 := 3) rfl rfl, fun U hU hW => ⟨rfl, by rw [hU]; exact hP.sub (ws' := (w_13 q cI cJ cD Wg Wz Ww Wr)) [3] rfl, gEv.warm hW hE⟩⟩ rfl rfl hl.1 rfl (lv_room (Nat.le_of_ble_eq_true rfl)) dX8_pushFromWalk_16 ⟨Nat.zero_le _, Nat.zero_le _⟩) hP hS (gSub rfl) rfl rfl rfl rfl rfl (fun H locs hP hS => ?_)
        obtain ⟨⟨Tn19, Ta19⟩, hc, hf⟩ := bn_some hf
        try dsimp only at hf
        refine g_call0 (ws' := (w_0_1_2_13 q cI cJ cD Tn19 Ta19 Wg Wz Ww Wr)) (st1 := []) hq [0, 1, 2, 13] [1, 2] [.inr 0, .inl 0, .inl 1, .inr 3] (va_runV (As := [.int r16]) (rest := []) ⟨hx, hb, hml, hown, hts⟩ (kX2_push l D cI cJ cD q hq N Tn Ta r16 Tn19 Ta19 hc) (cwV 1 hts gX8_pushFromWalk_X2_push rfl rfl rfl (by decide +kernel) ⟨(Nat.le_of_ble_eq_true rfl), (Nat.le_of_ble_eq_true rfl)⟩) ⟨gP_blind, va_recv hE.1 hP (ci := 2) (q0 := 1) rfl rfl, fun U hU hW => ⟨rfl, by rw [hU]; exact hP.sub (ws' := (w_1_2 q cI cJ cD Tn Ta)) [1, 2] rfl, gEv.warm hW hE⟩⟩ rfl rfl hl.1 rfl (lv_room (Nat.le_of_ble_eq_true rfl)) dX8_pushFromWalk_19 ⟨Nat.zero_le _, Nat.zero_le _⟩) hP hS (gSub rfl) rfl rfl rfl rfl rfl (fun H locs hP hS => ?_)
        refine lv_iinc (v := (x2 + 1)) (lv' := [(2, .int (x2 + 1)), (0, .ref (q 0)), (1, .int x1)]) hx hb dX8_pushFromWalk_22 hl (k := 2) rfl rfl (by decide) rfl (fun ls hl => ?_)
        refine lv_goto (tgt := 2) hx hb dX8_pushFromWalk_25 (by decide) ?_
        exact ih2 Tn19 Ta19 x1 (x2 + 1) hf _ _ hP hS _ (lv_sub hl [1, 2, 0] rfl)
  unfold fX8_pushFromWalk at hf
  refine lv_iconst (v := (0 : Int32)) hx hb dX8_pushFromWalk_0 (by decide) ?_
  refine lv_istore_n (lv' := [(2, .int (0 : Int32)), (0, .ref (q 0)), (1, .int p1)]) hx hb dX8_pushFromWalk_1 rfl hl (by decide) rfl (fun ls hl => ?_)
  exact K2 N Tn Ta p1 (0 : Int32) hf _ _ hP hS _ (lv_sub hl [1, 2, 0] rfl)
set_option maxHeartbeats 4000000 in
set_option maxRecDepth 100000 in
theorem kX8_loadDeBruijn (l : Launch) (D : va_G) (cI cJ cD : ClassId) (q : Nat → Nat) (hq : gInj 14 q) (N : Nat) (Tn : Int32) (Ta : (Nat → Int32)) (Wg : Int32) (Wz : Int32) (Ww : Int32) (Wr : Int32) (p1 : Int32) (p2 : Int32) (r0 : Int32) (Tn9 : Int32) (Ta9 : (Nat → Int32)) (Wg9 : Int32) (Wz9 : Int32) (Ww9 : Int32) (Wr9 : Int32) (hf : fX8_loadDeBruijn N Tn Ta Wg Wz Ww Wr p1 p2 = some (.inr (r0, Tn9, Ta9, Wg9, Wz9, Ww9, Wr9))) : Met l yX8_loadDeBruijn wsX8_loadDeBruijn rX8_loadDeBruijn (gP D cI cJ cD [.ref (q 0), .int p1, .int p2] (w_0_1_2_13 q cI cJ cD Tn Ta Wg Wz Ww Wr)) (gQ D (some (.int r0)) (w_0_1_2_13 q cI cJ cD Tn9 Ta9 Wg9 Wz9 Ww9 Wr9) (gA q [0, 1, 2, 13])) 0 0 (gA q [0, 1, 2, 13]) := by
  refine Met.ofW (cc := cX8_loadDeBruijn) (maxL := 5) (ret := (some .int)) (by decide +kernel) rfl ?_
  intro p e s m args below meth c s₁ B hml hv
  obtain ⟨rfl, hP, hE⟩ := hv
  have hx := B.exec
  have hb := B.bytes
  have hr := B.returns
  have hts := atoms_spec (ws := wsX8_loadDeBruijn) B.pre
  have hown : s.vm.findClass RX8 = some m.cls := findClass_of_methodNamed B.named
  have hlocks := B.notSynchronized
  have hS : va_S (gA q [0, 1, 2, 13]) s.heap s.heap [] := va_S.rf
  have hl := lv_entry ([.ref (q 0), .int p1, .int p2]) (n := 5) (Nat.le_of_ble_eq_true rfl)
  rw [lg_entry_eq]
  generalize (lg_sl ([.ref (q 0), .int p1, .int p2]) ++ List.replicate (5 - (lg_sl ([.ref (q 0), .int p1, .int p2])).length) Slot.unset).toArray = ls at hl ⊢
  have hl : lv_has ls 5 [(0, .ref (q 0)), (1, .int p1), (2, .int p2)] := hl
  have hk10 := hts (.fieldLink RX8 10 "LyndonText" "text" "LLyndonText$Letters;") (by decide +kernel)
  have hk47 := hts (.fieldLink RX8 47 "LyndonText" "walk" "LLyndonText$NecklaceWalk;") (by decide +kernel)
  have huX8 : ∀ w ∈ u_ws RX8 TX8 6, w ∈ wsX8_loadDeBruijn := by decide +kernel
  have J93 : ∀ (Tn : Int32) (Ta : (Nat → Int32)) (Wg : Int32) (Wz : Int32) (Ww : Int32) (Wr : Int32), fX8_loadDeBruijn_J93 N Tn Ta Wg Wz Ww Wr = some (.inr (r0, Tn9, Ta9, Wg9, Wz9, Ww9, Wr9)) → ∀ (H : Heap) (locs : List Loc), va_P D vwCl (w_0_1_2_13 q cI cJ cD Tn Ta Wg Wz Ww Wr) H → va_S (gA q [0, 1, 2, 13]) s.heap H locs → ∀ ls : Array Slot, lv_has ls 5 [(0, .ref (q 0))] → W p l e (headSpec wsX8_loadDeBruijn rX8_loadDeBruijn).room s m ([.ref (q 0), .int p1, .int p2] : List Value).toArray below meth c H locs 0 0 (MQ below (gQ D (some (.int r0)) (w_0_1_2_13 q cI cJ cD Tn9 Ta9 Wg9 Wz9 Ww9 Wr9) (gA q [0, 1, 2, 13])) ([.ref (q 0), .int p1, .int p2] : List Value).toArray s 0 0 (gA q [0, 1, 2, 13])) (F0 m 93 ls []) := by
    intro Tn Ta Wg Wz Ww Wr hf H locs hP hS ls hl
    unfold fX8_loadDeBruijn_J93 at hf
    refine lv_aload_n hx hb dX8_loadDeBruijn_93 rfl (lv_at hl 0 rfl) ?_
    refine va_get (D := D) (ci := 6) (v := .ref (q 1)) (C := RX8) (T := TX8) (N := 6) hx hb hts huX8 hown hE.1 hP 0 rfl rfl 0 (by decide) hk10 (fun _ h9 => h9) rfl dX8_loadDeBruijn_94 ?_
    obtain ⟨r97, hc, hf⟩ := bn_some hf
    try dsimp only at hf
    refine g_call0 (ws' := (w_0_1_2_13 q cI cJ cD Tn Ta Wg Wz Ww Wr)) (st1 := [.int r97]) hq [0, 1, 2, 13] [1] [.inr 0, .inl 0, .inr 2, .inr 3] (va_runV (As := []) (rest := []) ⟨hx, hb, hml, hown, hts⟩ (kX2_count l D cI cJ cD q hq N Tn r97 hc) (cwV 0 hts gX8_loadDeBruijn_X2_count rfl rfl rfl (by decide +kernel) ⟨(Nat.le_of_ble_eq_true rfl), (Nat.le_of_ble_eq_true rfl)⟩) ⟨gP_blind, va_recv hE.1 hP (ci := 2) (q0 := 1) rfl rfl, fun U hU hW => ⟨rfl, by rw [hU]; exact hP.sub (ws' := (w_1 q cI cJ cD Tn)) [1] rfl, gEv.warm hW hE⟩⟩ rfl rfl hl.1 rfl (lv_room (Nat.le_of_ble_eq_true rfl)) dX8_loadDeBruijn_97 ⟨Nat.zero_le _, Nat.zero_le _⟩) hP hS (gSub rfl) rfl rfl rfl rfl rfl (fun H locs hP hS => ?_)
    cases hf
    exact W.iret hx hb hr (fun t ht hW => ⟨⟨rfl, by rw [ht]; exact hP⟩, hS.F ht⟩) hS.2.2 dX8_loadDeBruijn_100
  have K57 : ∀ (n57 : Nat) (Tn : Int32) (Ta : (Nat → Int32)) (Wg : Int32) (Wz : Int32) (Ww : Int32) (Wr : Int32) (x3 : Int32) (x4 : Int32), fX8_loadDeBruijn_H57 N n57 Tn Ta Wg Wz Ww Wr x3 x4 = some (.inr (r0, Tn9, Ta9, Wg9, Wz9, Ww9, Wr9)) → ∀ (H : Heap) (locs : List Loc), va_P D vwCl (w_0_1_2_13 q cI cJ cD Tn Ta Wg Wz Ww Wr) H → va_S (gA q [0, 1, 2, 13]) s.heap H locs → ∀ ls : Array Slot, lv_has ls 5 [(0, .ref (q 0)), (3, .int x3), (4, .int x4)] → W p l e (headSpec wsX8_loadDeBruijn rX8_loadDeBruijn).room s m ([.ref (q 0), .int p1, .int p2] : List Value).toArray below meth c H locs 0 0 (MQ below (gQ D (some (.int r0)) (w_0_1_2_13 q cI cJ cD Tn9 Ta9 Wg9 Wz9 Ww9 Wr9) (gA q [0, 1, 2, 13])) ([.ref (q 0), .int p1, .int p2] : List Value).toArray s 0 0 (gA q [0, 1, 2, 13])) (F0 m 57 ls []) := by
    intro n57
    induction n57 with
    | zero =>
      intro Tn Ta Wg Wz Ww Wr x3 x4 hf
      exact nomatch (show (none : Option ((Nat × Int32 × (Nat → Int32) × Int32 × Int32 × Int32 × Int32) ⊕ (Int32 × Int32 × (Nat → Int32) × Int32 × Int32 × Int32 × Int32))) = some (.inr (r0, Tn9, Ta9, Wg9, Wz9, Ww9, Wr9)) from hf)
    | succ n57 ih57 =>
      intro Tn Ta Wg Wz Ww Wr x3 x4 hf H locs hP hS ls hl
      have hf : fX8_loadDeBruijn_B57 N (fX8_loadDeBruijn_H57 N n57) Tn Ta Wg Wz Ww Wr x3 x4 = some (.inr (r0, Tn9, Ta9, Wg9, Wz9, Ww9, Wr9)) := hf
      unfold fX8_loadDeBruijn_B57 at hf
      refine lv_iload_n hx hb dX8_loadDeBruijn_57 rfl (lv_at hl 1 rfl) ?_
      refine lv_if_eq (tgt := 93) hx hb dX8_loadDeBruijn_58 (by decide) (fun c_1 => ?_) (fun c_1 => ?_)
      · have hf := (if_pos c_1).symm.trans hf
        exact J93 Tn Ta Wg Wz Ww Wr hf _ _ hP hS _ (lv_sub hl [0] rfl)
      · have hf := (if_neg c_1).symm.trans hf
        refine lv_iload hx hb dX8_loadDeBruijn_61 (lv_at hl 2 rfl) ?_
        refine lv_bipush (v := (64 : Int32)) hx hb dX8_loadDeBruijn_63 (by decide) ?_
        refine lv_icmp_ge (tgt := 93) hx hb dX8_loadDeBruijn_65 (by decide) (fun c_2 => ?_) (fun c_2 => ?_)
        · have hf := (if_pos c_2).symm.trans hf
          exact J93 Tn Ta Wg Wz Ww Wr hf _ _ hP hS _ (lv_sub hl [0] rfl)
        · have hf := (if_neg c_2).symm.trans hf
          refine lv_aload_n hx hb dX8_loadDeBruijn_68 rfl (lv_at hl 0 rfl) ?_
          refine lv_aload_n hx hb dX8_loadDeBruijn_69 rfl (lv_at hl 0 rfl) ?_
          refine va_get (D := D) (ci := 6) (v := .ref (q 13)) (C := RX8) (T := TX8) (N := 6) hx hb hts huX8 hown hE.1 hP 0 rfl rfl 5 (by decide) hk47 (fun _ h9 => h9) rfl dX8_loadDeBruijn_70 ?_
          obtain ⟨r73, hc, hf⟩ := bn_some hf
          try dsimp only at hf
          refine g_call0 (ws' := (w_0_1_2_13 q cI cJ cD Tn Ta Wg Wz Ww Wr)) (st1 := [.int r73, .ref (q 0)]) hq [0, 1, 2, 13] [13] [.inr 0, .inr 1, .inr 2, .inl 0] (va_runV (As := []) (rest := [.ref (q 0)]) ⟨hx, hb, hml, hown, hts⟩ (kX3_root l D cI cJ cD q hq N Wg Wz Ww Wr r73 hc) (cwV 0 hts gX8_loadDeBruijn_X3_root rfl rfl rfl (by decide +kernel) ⟨(Nat.le_of_ble_eq_true rfl), (Nat.le_of_ble_eq_true rfl)⟩) ⟨gP_blind, va_recv hE.1 hP (ci := 3) (q0 := 3) rfl rfl, fun U hU hW => ⟨rfl, by rw [hU]; exact hP.sub (ws' := (w_13 q cI cJ cD Wg Wz Ww Wr)) [3] rfl, gEv.warm hW hE⟩⟩ rfl rfl hl.1 rfl (lv_room (Nat.le_of_ble_eq_true rfl)) dX8_loadDeBruijn_73 ⟨Nat.zero_le _, Nat.zero_le _⟩) hP hS (gSub rfl) rfl rfl rfl rfl rfl (fun H locs hP hS => ?_)
          obtain ⟨⟨Tn76, Ta76⟩, hc, hf⟩ := bn_some hf
          try dsimp only at hf
          refine g_call0 (ws' := (w_0_1_2_13 q cI cJ cD Tn76 Ta76 Wg Wz Ww Wr)) (st1 := []) hq [0, 1, 2, 13] [0, 1, 2, 13] [.inl 0, .inl 1, .inl 2, .inl 3] (va_runV (As := [.int r73]) (rest := []) ⟨hx, hb, hml, hown, hts⟩ (kX8_pushFromWalk l D cI cJ cD q hq N Tn Ta Wg Wz Ww Wr r73 Tn76 Ta76 hc) (cwV 1 hts gX8_loadDeBruijn_X8_pushFromWalk rfl rfl rfl (by decide +kernel) ⟨(Nat.le_of_ble_eq_true rfl), (Nat.le_of_ble_eq_true rfl)⟩) ⟨gP_blind, va_recv hE.1 hP (ci := 6) (q0 := 0) rfl rfl, fun U hU hW => ⟨rfl, by rw [hU]; exact hP.sub (ws' := (w_0_1_2_13 q cI cJ cD Tn Ta Wg Wz Ww Wr)) [0, 1, 2, 3] rfl, gEv.warm hW hE⟩⟩ rfl rfl hl.1 rfl (lv_room (Nat.le_of_ble_eq_true rfl)) dX8_loadDeBruijn_76 ⟨Nat.zero_le _, Nat.zero_le _⟩) hP hS (gSub rfl) rfl rfl rfl rfl rfl (fun H locs hP hS => ?_)
          refine lv_aload_n hx hb dX8_loadDeBruijn_79 rfl (lv_at hl 0 rfl) ?_
          refine va_get (D := D) (ci := 6) (v := .ref (q 13)) (C := RX8) (T := TX8) (N := 6) hx hb hts huX8 hown hE.1 hP 0 rfl rfl 5 (by decide) hk47 (fun _ h9 => h9) rfl dX8_loadDeBruijn_80 ?_
          obtain ⟨⟨r83, Ww83, Wr83⟩, hc, hf⟩ := bn_some hf
          try dsimp only at hf
          refine g_call0 (ws' := (w_0_1_2_13 q cI cJ cD Tn76 Ta76 Wg Wz Ww83 Wr83)) (st1 := [.int r83]) hq [0, 1, 2, 13] [13] [.inr 0, .inr 1, .inr 2, .inl 0] (va_runV (As := []) (rest := []) ⟨hx, hb, hml, hown, hts⟩ (kX3_toNextNecklace l D cI cJ cD q hq N Wg Wz Ww Wr r83 Ww83 Wr83 hc) (cwV 0 hts gX8_loadDeBruijn_X3_toNextNecklace rfl rfl rfl (by decide +kernel) ⟨(Nat.le_of_ble_eq_true rfl), (Nat.le_of_ble_eq_true rfl)⟩) ⟨gP_blind, va_recv hE.1 hP (ci := 3) (q0 := 3) rfl rfl, fun U hU hW => ⟨rfl, by rw [hU]; exact hP.sub (ws' := (w_13 q cI cJ cD Wg Wz Ww Wr)) [3] rfl, gEv.warm hW hE⟩⟩ rfl rfl hl.1 rfl (lv_room (Nat.le_of_ble_eq_true rfl)) dX8_loadDeBruijn_83 ⟨Nat.zero_le _, Nat.zero_le _⟩) hP hS (gSub rfl) rfl rfl rfl rfl rfl (fun H locs hP hS => ?_)
          refine lv_istore_n (lv' := [(3, .int r83), (0, .ref (q 0)), (4, .int x4)]) hx hb dX8_loadDeBruijn_86 rfl hl (by decide) rfl (fun ls hl => ?_)
          refine lv_iinc (v := (x4 + 1)) (lv' := [(4, .int (x4 + 1)), (3, .int r83), (0, .ref (q 0))]) hx hb dX8_loadDeBruijn_87 hl (k := 2) rfl rfl (by decide) rfl (fun ls hl => ?_)
          refine lv_goto (tgt := 57) hx hb dX8_loadDeBruijn_90 (by decide) ?_
          exact ih57 Tn76 Ta76 Wg Wz Ww83 Wr83 r83 (x4 + 1) hf _ _ hP hS _ (lv_sub hl [2, 1, 0] rfl)
  unfold fX8_loadDeBruijn at hf
  refine lv_iload_n hx hb dX8_loadDeBruijn_0 rfl (lv_at hl 1 rfl) ?_
  refine lv_iconst (v := (1 : Int32)) hx hb dX8_loadDeBruijn_1 (by decide) ?_
  refine lv_bipush (v := (8 : Int32)) hx hb dX8_loadDeBruijn_2 (by decide) ?_
  rcases bx_some hf with ⟨e4, hc, hf⟩ | ⟨⟨⟩, hc, hf⟩
  · exact nomatch hf
  try dsimp only at hf
  refine g_call0 (ws' := (w_0_1_2_13 q cI cJ cD Tn Ta Wg Wz Ww Wr)) (st1 := []) hq [0, 1, 2, 13] [] [.inr 0, .inr 1, .inr 2, .inr 3] (va_runS (As := [.int p1, .int (1 : Int32), .int (8 : Int32)]) (rest := []) ⟨hx, hb, hml, hown, hts⟩ (kX8_checkArgument l D cI cJ cD q hq N p1 (1 : Int32) (8 : Int32) hc) (va_cwS 3 hts gX8_loadDeBruijn_X8_checkArgument rfl rfl rfl (by decide +kernel) ⟨(Nat.le_of_ble_eq_true rfl), (Nat.le_of_ble_eq_true rfl)⟩) ⟨gP_blind, fun U hU hW => ⟨rfl, by rw [hU]; exact hP.sub (ws' := (w_0none q cI cJ cD)) [] rfl, gEv.warm hW hE⟩⟩ rfl rfl hl.1 rfl (lv_room (Nat.le_of_ble_eq_true rfl)) dX8_loadDeBruijn_4 ⟨Nat.zero_le _, Nat.zero_le _⟩) hP hS (gSub rfl) rfl rfl rfl rfl rfl (fun H locs hP hS => ?_)
  refine lv_iload_n hx hb dX8_loadDeBruijn_7 rfl (lv_at hl 2 rfl) ?_
  refine lv_iconst (v := (1 : Int32)) hx hb dX8_loadDeBruijn_8 (by decide) ?_
  refine lv_bipush (v := (6 : Int32)) hx hb dX8_loadDeBruijn_9 (by decide) ?_
  rcases bx_some hf with ⟨e11, hc, hf⟩ | ⟨⟨⟩, hc, hf⟩
  · exact nomatch hf
  try dsimp only at hf
  refine g_call0 (ws' := (w_0_1_2_13 q cI cJ cD Tn Ta Wg Wz Ww Wr)) (st1 := []) hq [0, 1, 2, 13] [] [.inr 0, .inr 1, .inr 2, .inr 3] (va_runS (As := [.int p2, .int (1 : Int32), .int (6 : Int32)]) (rest := []) ⟨hx, hb, hml, hown, hts⟩ (kX8_checkArgument l D cI cJ cD q hq N p2 (1 : Int32) (6 : Int32) hc) (va_cwS 3 hts gX8_loadDeBruijn_X8_checkArgument rfl rfl rfl (by decide +kernel) ⟨(Nat.le_of_ble_eq_true rfl), (Nat.le_of_ble_eq_true rfl)⟩) ⟨gP_blind, fun U hU hW => ⟨rfl, by rw [hU]; exact hP.sub (ws' := (w_0none q cI cJ cD)) [] rfl, gEv.warm hW hE⟩⟩ rfl rfl hl.1 rfl (lv_room (Nat.le_of_ble_eq_true rfl)) dX8_loadDeBruijn_11 ⟨Nat.zero_le _, Nat.zero_le _⟩) hP hS (gSub rfl) rfl rfl rfl rfl rfl (fun H locs hP hS => ?_)
  refine lv_iload_n hx hb dX8_loadDeBruijn_14 rfl (lv_at hl 1 rfl) ?_
  refine lv_iload_n hx hb dX8_loadDeBruijn_15 rfl (lv_at hl 2 rfl) ?_
  obtain ⟨r16, hc, hf⟩ := bn_some hf
  try dsimp only at hf
  refine g_call0 (ws' := (w_0_1_2_13 q cI cJ cD Tn Ta Wg Wz Ww Wr)) (st1 := [.long r16]) hq [0, 1, 2, 13] [] [.inr 0, .inr 1, .inr 2, .inr 3] (va_runS (As := [.int p1, .int p2]) (rest := []) ⟨hx, hb, hml, hown, hts⟩ (kX4_power l D cI cJ cD q hq N p1 p2 r16 hc) (va_cwS 2 hts gX8_loadDeBruijn_X4_power rfl rfl rfl (by decide +kernel) ⟨(Nat.le_of_ble_eq_true rfl), (Nat.le_of_ble_eq_true rfl)⟩) ⟨gP_blind, fun U hU hW => ⟨rfl, by rw [hU]; exact hP.sub (ws' := (w_0none q cI cJ cD)) [] rfl, gEv.warm hW hE⟩⟩ rfl rfl hl.1 rfl (lv_room (Nat.le_of_ble_eq_true rfl)) dX8_loadDeBruijn_16 ⟨Nat.zero_le _, Nat.zero_le _⟩) hP hS (gSub rfl) rfl rfl rfl rfl rfl (fun H locs hP hS => ?_)
  refine lv_ldc2 (v := (64 : Int64)) hx hb hown (hts (.constantLong RX8 105 (64 : Int64)) (by decide +kernel)) dX8_loadDeBruijn_19 ?_
  refine W.lcmp hx hb dX8_loadDeBruijn_22 ?_
  refine lv_if_le (tgt := 36) hx hb dX8_loadDeBruijn_23 (by decide) (fun c_3 => ?_) (fun c_3 => ?_)
  · have hf := (if_pos c_3).symm.trans hf
    refine lv_aload_n hx hb dX8_loadDeBruijn_36 rfl (lv_at hl 0 rfl) ?_
    refine va_get (D := D) (ci := 6) (v := .ref (q 1)) (C := RX8) (T := TX8) (N := 6) hx hb hts huX8 hown hE.1 hP 0 rfl rfl 0 (by decide) hk10 (fun _ h9 => h9) rfl dX8_loadDeBruijn_37 ?_
    obtain ⟨Tn40, hc, hf⟩ := bn_some hf
    try dsimp only at hf
    refine g_call0 (ws' := (w_0_1_2_13 q cI cJ cD Tn40 Ta Wg Wz Ww Wr)) (st1 := []) hq [0, 1, 2, 13] [1] [.inr 0, .inl 0, .inr 2, .inr 3] (va_runV (As := []) (rest := []) ⟨hx, hb, hml, hown, hts⟩ (kX2_empty l D cI cJ cD q hq N Tn Tn40 hc) (cwV 0 hts gX8_loadDeBruijn_X2_empty rfl rfl rfl (by decide +kernel) ⟨(Nat.le_of_ble_eq_true rfl), (Nat.le_of_ble_eq_true rfl)⟩) ⟨gP_blind, va_recv hE.1 hP (ci := 2) (q0 := 1) rfl rfl, fun U hU hW => ⟨rfl, by rw [hU]; exact hP.sub (ws' := (w_1 q cI cJ cD Tn)) [1] rfl, gEv.warm hW hE⟩⟩ rfl rfl hl.1 rfl (lv_room (Nat.le_of_ble_eq_true rfl)) dX8_loadDeBruijn_40 ⟨Nat.zero_le _, Nat.zero_le _⟩) hP hS (gSub rfl) rfl rfl rfl rfl rfl (fun H locs hP hS => ?_)
    refine lv_aload_n hx hb dX8_loadDeBruijn_43 rfl (lv_at hl 0 rfl) ?_
    refine va_get (D := D) (ci := 6) (v := .ref (q 13)) (C := RX8) (T := TX8) (N := 6) hx hb hts huX8 hown hE.1 hP 0 rfl rfl 5 (by decide) hk47 (fun _ h9 => h9) rfl dX8_loadDeBruijn_44 ?_
    refine lv_iload_n hx hb dX8_loadDeBruijn_47 rfl (lv_at hl 1 rfl) ?_
    refine lv_iload_n hx hb dX8_loadDeBruijn_48 rfl (lv_at hl 2 rfl) ?_
    obtain ⟨⟨Wg49, Wz49, Ww49, Wr49⟩, hc, hf⟩ := bn_some hf
    try dsimp only at hf
    refine g_call0 (ws' := (w_0_1_2_13 q cI cJ cD Tn40 Ta Wg49 Wz49 Ww49 Wr49)) (st1 := []) hq [0, 1, 2, 13] [13] [.inr 0, .inr 1, .inr 2, .inl 0] (va_runV (As := [.int p1, .int p2]) (rest := []) ⟨hx, hb, hml, hown, hts⟩ (kX3_begin l D cI cJ cD q hq N Wg Wz Ww Wr p1 p2 Wg49 Wz49 Ww49 Wr49 hc) (cwV 2 hts gX8_loadDeBruijn_X3_begin rfl rfl rfl (by decide +kernel) ⟨(Nat.le_of_ble_eq_true rfl), (Nat.le_of_ble_eq_true rfl)⟩) ⟨gP_blind, va_recv hE.1 hP (ci := 3) (q0 := 3) rfl rfl, fun U hU hW => ⟨rfl, by rw [hU]; exact hP.sub (ws' := (w_13 q cI cJ cD Wg Wz Ww Wr)) [3] rfl, gEv.warm hW hE⟩⟩ rfl rfl hl.1 rfl (lv_room (Nat.le_of_ble_eq_true rfl)) dX8_loadDeBruijn_49 ⟨Nat.zero_le _, Nat.zero_le _⟩) hP hS (gSub rfl) rfl rfl rfl rfl rfl (fun H locs hP hS => ?_)
    refine lv_iconst (v := (1 : Int32)) hx hb dX8_loadDeBruijn_52 (by decide) ?_
    refine lv_istore_n (lv' := [(3, .int (1 : Int32)), (0, .ref (q 0)), (1, .int p1), (2, .int p2)]) hx hb dX8_loadDeBruijn_53 rfl hl (by decide) rfl (fun ls hl => ?_)
    refine lv_iconst (v := (0 : Int32)) hx hb dX8_loadDeBruijn_54 (by decide) ?_
    refine lv_istore (lv' := [(4, .int (0 : Int32)), (3, .int (1 : Int32)), (0, .ref (q 0)), (1, .int p1), (2, .int p2)]) hx hb dX8_loadDeBruijn_55 hl (by decide) rfl (fun ls hl => ?_)
    exact K57 N Tn40 Ta Wg49 Wz49 Ww49 Wr49 (1 : Int32) (0 : Int32) hf _ _ hP hS _ (lv_sub hl [2, 1, 0] rfl)
  · have hf := (if_neg c_3).symm.trans hf
    exact nomatch hf
set_option maxHeartbeats 4000000 in
set_option maxRecDepth 100000 in
theorem kX8_loadDeBruijnx (l : Launch) (hlt : l.stackTraces = false) (D : va_G) (cI cJ cD : ClassId) (sa : Nat → Nat) (q : Nat → Nat) (hq : gInj 14 q) (N : Nat) (Tn : Int32) (Ta : (Nat → Int32)) (Wg : Int32) (Wz : Int32) (Ww : Int32) (Wr : Int32) (p1 : Int32) (p2 : Int32) (e0 : Nat) (Tn9 : Int32) (Ta9 : (Nat → Int32)) (Wg9 : Int32) (Wz9 : Int32) (Ww9 : Int32) (Wr9 : Int32) (hf : fX8_loadDeBruijn N Tn Ta Wg Wz Ww Wr p1 p2 = some (.inl (e0, Tn9, Ta9, Wg9, Wz9, Ww9, Wr9))) : vx_Met l yX8_loadDeBruijn wsX8_loadDeBruijn rX8_loadDeBruijnx (gPx D cI cJ cD sa (gA q [0, 1, 2, 13]) [.ref (q 0), .int p1, .int p2] (w_0_1_2_13 q cI cJ cD Tn Ta Wg Wz Ww Wr)) (fun _ _ _ _ => False) (gX D (gEn e0) (w_0_1_2_13 q cI cJ cD Tn9 Ta9 Wg9 Wz9 Ww9 Wr9) (gA q [0, 1, 2, 13])) 1 6 (gA q [0, 1, 2, 13]) := by
  refine vx_ofW (cc := cX8_loadDeBruijn) (maxL := 5) (ret := (some .int)) (by decide +kernel) rfl ?_
  intro p e s m args below meth c s₁ B hml htab hv
  obtain ⟨rfl, hP, hE, hXe⟩ := hv
  have hx := B.exec
  have hb := B.bytes
  have hr := B.returns
  have hts := atoms_spec (ws := wsX8_loadDeBruijn) B.pre
  have hown : s.vm.findClass RX8 = some m.cls := findClass_of_methodNamed B.named
  have hlocks := B.notSynchronized
  have hS : va_S (gA q [0, 1, 2, 13]) s.heap s.heap [] := va_S.rf
  have hl := lv_entry ([.ref (q 0), .int p1, .int p2]) (n := 5) (Nat.le_of_ble_eq_true rfl)
  rw [lg_entry_eq]
  generalize (lg_sl ([.ref (q 0), .int p1, .int p2]) ++ List.replicate (5 - (lg_sl ([.ref (q 0), .int p1, .int p2])).length) Slot.unset).toArray = ls at hl ⊢
  have hl : lv_has ls 5 [(0, .ref (q 0)), (1, .int p1), (2, .int p2)] := hl
  have hk10 := hts (.fieldLink RX8 10 "LyndonText" "text" "LLyndonText$Letters;") (by decide +kernel)
  have hk47 := hts (.fieldLink RX8 47 "LyndonText" "walk" "LLyndonText$NecklaceWalk;") (by decide +kernel)
  have huX8 : ∀ w ∈ u_ws RX8 TX8 6, w ∈ wsX8_loadDeBruijn := by decide +kernel
  have J93 : ∀ (Tn : Int32) (Ta : (Nat → Int32)) (Wg : Int32) (Wz : Int32) (Ww : Int32) (Wr : Int32), fX8_loadDeBruijn_J93 N Tn Ta Wg Wz Ww Wr = some (.inl (e0, Tn9, Ta9, Wg9, Wz9, Ww9, Wr9)) → ∀ (H : Heap) (locs : List Loc), va_P D vwCl (w_0_1_2_13 q cI cJ cD Tn Ta Wg Wz Ww Wr) H → va_S (gA q [0, 1, 2, 13]) s.heap H locs → ∀ ls : Array Slot, lv_has ls 5 [(0, .ref (q 0))] → W p l e (headSpec wsX8_loadDeBruijn rX8_loadDeBruijnx).room s m ([.ref (q 0), .int p1, .int p2] : List Value).toArray below meth c H locs 0 0 (vx_MQ below (fun _ _ _ _ => False) (gX D (gEn e0) (w_0_1_2_13 q cI cJ cD Tn9 Ta9 Wg9 Wz9 Ww9 Wr9) (gA q [0, 1, 2, 13])) ([.ref (q 0), .int p1, .int p2] : List Value).toArray s 1 6 (gA q [0, 1, 2, 13])) (F0 m 93 ls []) := by
    intro Tn Ta Wg Wz Ww Wr hf H locs hP hS ls hl
    unfold fX8_loadDeBruijn_J93 at hf
    refine lv_aload_n hx hb dX8_loadDeBruijn_93 rfl (lv_at hl 0 rfl) ?_
    refine va_get (D := D) (ci := 6) (v := .ref (q 1)) (C := RX8) (T := TX8) (N := 6) hx hb hts huX8 hown hE.1 hP 0 rfl rfl 0 (by decide) hk10 (fun _ h9 => h9) rfl dX8_loadDeBruijn_94 ?_
    obtain ⟨r97, hc, hf⟩ := bn_some hf
    try dsimp only at hf
    refine g_call0 (ws' := (w_0_1_2_13 q cI cJ cD Tn Ta Wg Wz Ww Wr)) (st1 := [.int r97]) hq [0, 1, 2, 13] [1] [.inr 0, .inl 0, .inr 2, .inr 3] (va_runV (As := []) (rest := []) ⟨hx, hb, hml, hown, hts⟩ (kX2_count l D cI cJ cD q hq N Tn r97 hc) (cwV 0 hts gX8_loadDeBruijn_X2_count rfl rfl rfl (by decide +kernel) ⟨(Nat.le_of_ble_eq_true rfl), (Nat.le_of_ble_eq_true rfl)⟩) ⟨gP_blind, va_recv hE.1 hP (ci := 2) (q0 := 1) rfl rfl, fun U hU hW => ⟨rfl, by rw [hU]; exact hP.sub (ws' := (w_1 q cI cJ cD Tn)) [1] rfl, gEv.warm hW hE⟩⟩ rfl rfl hl.1 rfl (lv_room (Nat.le_of_ble_eq_true rfl)) dX8_loadDeBruijn_97 ⟨Nat.zero_le _, Nat.zero_le _⟩) hP hS (gSub rfl) rfl rfl rfl rfl rfl (fun H locs hP hS => ?_)
    exact nomatch hf
  have K57 : ∀ (n57 : Nat) (Tn : Int32) (Ta : (Nat → Int32)) (Wg : Int32) (Wz : Int32) (Ww : Int32) (Wr : Int32) (x3 : Int32) (x4 : Int32), fX8_loadDeBruijn_H57 N n57 Tn Ta Wg Wz Ww Wr x3 x4 = some (.inl (e0, Tn9, Ta9, Wg9, Wz9, Ww9, Wr9)) → ∀ (H : Heap) (locs : List Loc), va_P D vwCl (w_0_1_2_13 q cI cJ cD Tn Ta Wg Wz Ww Wr) H → va_S (gA q [0, 1, 2, 13]) s.heap H locs → ∀ ls : Array Slot, lv_has ls 5 [(0, .ref (q 0)), (3, .int x3), (4, .int x4)] → W p l e (headSpec wsX8_loadDeBruijn rX8_loadDeBruijnx).room s m ([.ref (q 0), .int p1, .int p2] : List Value).toArray below meth c H locs 0 0 (vx_MQ below (fun _ _ _ _ => False) (gX D (gEn e0) (w_0_1_2_13 q cI cJ cD Tn9 Ta9 Wg9 Wz9 Ww9 Wr9) (gA q [0, 1, 2, 13])) ([.ref (q 0), .int p1, .int p2] : List Value).toArray s 1 6 (gA q [0, 1, 2, 13])) (F0 m 57 ls []) := by
    intro n57
    induction n57 with
    | zero =>
      intro Tn Ta Wg Wz Ww Wr x3 x4 hf
      exact nomatch (show (none : Option ((Nat × Int32 × (Nat → Int32) × Int32 × Int32 × Int32 × Int32) ⊕ (Int32 × Int32 × (Nat → Int32) × Int32 × Int32 × Int32 × Int32))) = some (.inl (e0, Tn9, Ta9, Wg9, Wz9, Ww9, Wr9)) from hf)
    | succ n57 ih57 =>
      intro Tn Ta Wg Wz Ww Wr x3 x4 hf H locs hP hS ls hl
      have hf : fX8_loadDeBruijn_B57 N (fX8_loadDeBruijn_H57 N n57) Tn Ta Wg Wz Ww Wr x3 x4 = some (.inl (e0, Tn9, Ta9, Wg9, Wz9, Ww9, Wr9)) := hf
      unfold fX8_loadDeBruijn_B57 at hf
      refine lv_iload_n hx hb dX8_loadDeBruijn_57 rfl (lv_at hl 1 rfl) ?_
      refine lv_if_eq (tgt := 93) hx hb dX8_loadDeBruijn_58 (by decide) (fun c_1 => ?_) (fun c_1 => ?_)
      · have hf := (if_pos c_1).symm.trans hf
        exact J93 Tn Ta Wg Wz Ww Wr hf _ _ hP hS _ (lv_sub hl [0] rfl)
      · have hf := (if_neg c_1).symm.trans hf
        refine lv_iload hx hb dX8_loadDeBruijn_61 (lv_at hl 2 rfl) ?_
        refine lv_bipush (v := (64 : Int32)) hx hb dX8_loadDeBruijn_63 (by decide) ?_
        refine lv_icmp_ge (tgt := 93) hx hb dX8_loadDeBruijn_65 (by decide) (fun c_2 => ?_) (fun c_2 => ?_)
        · have hf := (if_pos c_2).symm.trans hf
          exact J93 Tn Ta Wg Wz Ww Wr hf _ _ hP hS _ (lv_sub hl [0] rfl)
        · have hf := (if_neg c_2).symm.trans hf
          refine lv_aload_n hx hb dX8_loadDeBruijn_68 rfl (lv_at hl 0 rfl) ?_
          refine lv_aload_n hx hb dX8_loadDeBruijn_69 rfl (lv_at hl 0 rfl) ?_
          refine va_get (D := D) (ci := 6) (v := .ref (q 13)) (C := RX8) (T := TX8) (N := 6) hx hb hts huX8 hown hE.1 hP 0 rfl rfl 5 (by decide) hk47 (fun _ h9 => h9) rfl dX8_loadDeBruijn_70 ?_
          obtain ⟨r73, hc, hf⟩ := bn_some hf
          try dsimp only at hf
          refine g_call0 (ws' := (w_0_1_2_13 q cI cJ cD Tn Ta Wg Wz Ww Wr)) (st1 := [.int r73, .ref (q 0)]) hq [0, 1, 2, 13] [13] [.inr 0, .inr 1, .inr 2, .inl 0] (va_runV (As := []) (rest := [.ref (q 0)]) ⟨hx, hb, hml, hown, hts⟩ (kX3_root l D cI cJ cD q hq N Wg Wz Ww Wr r73 hc) (cwV 0 hts gX8_loadDeBruijn_X3_root rfl rfl rfl (by decide +kernel) ⟨(Nat.le_of_ble_eq_true rfl), (Nat.le_of_ble_eq_true rfl)⟩) ⟨gP_blind, va_recv hE.1 hP (ci := 3) (q0 := 3) rfl rfl, fun U hU hW => ⟨rfl, by rw [hU]; exact hP.sub (ws' := (w_13 q cI cJ cD Wg Wz Ww Wr)) [3] rfl, gEv.warm hW hE⟩⟩ rfl rfl hl.1 rfl (lv_room (Nat.le_of_ble_eq_true rfl)) dX8_loadDeBruijn_73 ⟨Nat.zero_le _, Nat.zero_le _⟩) hP hS (gSub rfl) rfl rfl rfl rfl rfl (fun H locs hP hS => ?_)
          obtain ⟨⟨Tn76, Ta76⟩, hc, hf⟩ := bn_some hf
          try dsimp only at hf
          refine g_call0 (ws' := (w_0_1_2_13 q cI cJ cD Tn76 Ta76 Wg Wz Ww Wr)) (st1 := []) hq [0, 1, 2, 13] [0, 1, 2, 13] [.inl 0, .inl 1, .inl 2, .inl 3] (va_runV (As := [.int r73]) (rest := []) ⟨hx, hb, hml, hown, hts⟩ (kX8_pushFromWalk l D cI cJ cD q hq N Tn Ta Wg Wz Ww Wr r73 Tn76 Ta76 hc) (cwV 1 hts gX8_loadDeBruijn_X8_pushFromWalk rfl rfl rfl (by decide +kernel) ⟨(Nat.le_of_ble_eq_true rfl), (Nat.le_of_ble_eq_true rfl)⟩) ⟨gP_blind, va_recv hE.1 hP (ci := 6) (q0 := 0) rfl rfl, fun U hU hW => ⟨rfl, by rw [hU]; exact hP.sub (ws' := (w_0_1_2_13 q cI cJ cD Tn Ta Wg Wz Ww Wr)) [0, 1, 2, 3] rfl, gEv.warm hW hE⟩⟩ rfl rfl hl.1 rfl (lv_room (Nat.le_of_ble_eq_true rfl)) dX8_loadDeBruijn_76 ⟨Nat.zero_le _, Nat.zero_le _⟩) hP hS (gSub rfl) rfl rfl rfl rfl rfl (fun H locs hP hS => ?_)
          refine lv_aload_n hx hb dX8_loadDeBruijn_79 rfl (lv_at hl 0 rfl) ?_
          refine va_get (D := D) (ci := 6) (v := .ref (q 13)) (C := RX8) (T := TX8) (N := 6) hx hb hts huX8 hown hE.1 hP 0 rfl rfl 5 (by decide) hk47 (fun _ h9 => h9) rfl dX8_loadDeBruijn_80 ?_
          obtain ⟨⟨r83, Ww83, Wr83⟩, hc, hf⟩ := bn_some hf
          try dsimp only at hf
          refine g_call0 (ws' := (w_0_1_2_13 q cI cJ cD Tn76 Ta76 Wg Wz Ww83 Wr83)) (st1 := [.int r83]) hq [0, 1, 2, 13] [13] [.inr 0, .inr 1, .inr 2, .inl 0] (va_runV (As := []) (rest := []) ⟨hx, hb, hml, hown, hts⟩ (kX3_toNextNecklace l D cI cJ cD q hq N Wg Wz Ww Wr r83 Ww83 Wr83 hc) (cwV 0 hts gX8_loadDeBruijn_X3_toNextNecklace rfl rfl rfl (by decide +kernel) ⟨(Nat.le_of_ble_eq_true rfl), (Nat.le_of_ble_eq_true rfl)⟩) ⟨gP_blind, va_recv hE.1 hP (ci := 3) (q0 := 3) rfl rfl, fun U hU hW => ⟨rfl, by rw [hU]; exact hP.sub (ws' := (w_13 q cI cJ cD Wg Wz Ww Wr)) [3] rfl, gEv.warm hW hE⟩⟩ rfl rfl hl.1 rfl (lv_room (Nat.le_of_ble_eq_true rfl)) dX8_loadDeBruijn_83 ⟨Nat.zero_le _, Nat.zero_le _⟩) hP hS (gSub rfl) rfl rfl rfl rfl rfl (fun H locs hP hS => ?_)
          refine lv_istore_n (lv' := [(3, .int r83), (0, .ref (q 0)), (4, .int x4)]) hx hb dX8_loadDeBruijn_86 rfl hl (by decide) rfl (fun ls hl => ?_)
          refine lv_iinc (v := (x4 + 1)) (lv' := [(4, .int (x4 + 1)), (3, .int r83), (0, .ref (q 0))]) hx hb dX8_loadDeBruijn_87 hl (k := 2) rfl rfl (by decide) rfl (fun ls hl => ?_)
          refine lv_goto (tgt := 57) hx hb dX8_loadDeBruijn_90 (by decide) ?_
          exact ih57 Tn76 Ta76 Wg Wz Ww83 Wr83 r83 (x4 + 1) hf _ _ hP hS _ (lv_sub hl [2, 1, 0] rfl)
  unfold fX8_loadDeBruijn at hf
  refine lv_iload_n hx hb dX8_loadDeBruijn_0 rfl (lv_at hl 1 rfl) ?_
  refine lv_iconst (v := (1 : Int32)) hx hb dX8_loadDeBruijn_1 (by decide) ?_
  refine lv_bipush (v := (8 : Int32)) hx hb dX8_loadDeBruijn_2 (by decide) ?_
  rcases bx_some hf with ⟨e4, hc, hf⟩ | ⟨⟨⟩, hc, hf⟩
  · try dsimp only at hf
    refine g_callX (ws' := (w_0_1_2_13 q cI cJ cD Tn Ta Wg Wz Ww Wr)) hq [0, 1, 2, 13] [] [.inr 0, .inr 1, .inr 2, .inr 3] (vx_runS (As := [.int p1, .int (1 : Int32), .int (8 : Int32)]) (rest := []) ⟨hx, hb, hml, hown, hts⟩ (kX8_checkArgumentx l hlt D cI cJ cD sa q hq N p1 (1 : Int32) (8 : Int32) e4 hc) (va_cwS 3 hts gX8_loadDeBruijn_X8_checkArgument rfl rfl rfl (by decide +kernel) ⟨(Nat.le_of_ble_eq_true rfl), (Nat.le_of_ble_eq_true rfl)⟩) ⟨gPx_blind, fun U hU hW => ⟨rfl, by rw [hU]; exact hP.sub (ws' := (w_0none q cI cJ cD)) [] rfl, gEv.warm hW hE, gXe.go hW hS (gMono rfl) hXe hU⟩⟩ rfl rfl hl.1 rfl (lv_room (Nat.le_of_ble_eq_true rfl)) dX8_loadDeBruijn_4 ⟨(Nat.le_of_ble_eq_true rfl), (Nat.le_of_ble_eq_true rfl)⟩) hP hS (gSub rfl) rfl rfl rfl rfl (fun ce q9 H locs hP hS hce hcv hcl => ?_)
    cases hf
    exact vx_out (fun x9 hx9 => (htab x9 hx9).elim) hlocks hce hcv hcl (fun t ht hv => ⟨rfl, by rw [ht]; exact hP, hS.F ht⟩) hS.2.2 (Nat.le_of_ble_eq_true rfl) (Nat.le_of_ble_eq_true rfl)
  try dsimp only at hf
  refine g_call0 (ws' := (w_0_1_2_13 q cI cJ cD Tn Ta Wg Wz Ww Wr)) (st1 := []) hq [0, 1, 2, 13] [] [.inr 0, .inr 1, .inr 2, .inr 3] (va_runS (As := [.int p1, .int (1 : Int32), .int (8 : Int32)]) (rest := []) ⟨hx, hb, hml, hown, hts⟩ (kX8_checkArgument l D cI cJ cD q hq N p1 (1 : Int32) (8 : Int32) hc) (va_cwS 3 hts gX8_loadDeBruijn_X8_checkArgument rfl rfl rfl (by decide +kernel) ⟨(Nat.le_of_ble_eq_true rfl), (Nat.le_of_ble_eq_true rfl)⟩) ⟨gP_blind, fun U hU hW => ⟨rfl, by rw [hU]; exact hP.sub (ws' := (w_0none q cI cJ cD)) [] rfl, gEv.warm hW hE⟩⟩ rfl rfl hl.1 rfl (lv_room (Nat.le_of_ble_eq_true rfl)) dX8_loadDeBruijn_4 ⟨Nat.zero_le _, Nat.zero_le _⟩) hP hS (gSub rfl) rfl rfl rfl rfl rfl (fun H locs hP hS => ?_)
  refine lv_iload_n hx hb dX8_loadDeBruijn_7 rfl (lv_at hl 2 rfl) ?_
  refine lv_iconst (v := (1 : Int32)) hx hb dX8_loadDeBruijn_8 (by decide) ?_
  refine lv_bipush (v := (6 : Int32)) hx hb dX8_loadDeBruijn_9 (by decide) ?_
  rcases bx_some hf with ⟨e11, hc, hf⟩ | ⟨⟨⟩, hc, hf⟩
  · try dsimp only at hf
    refine g_callX (ws' := (w_0_1_2_13 q cI cJ cD Tn Ta Wg Wz Ww Wr)) hq [0, 1, 2, 13] [] [.inr 0, .inr 1, .inr 2, .inr 3] (vx_runS (As := [.int p2, .int (1 : Int32), .int (6 : Int32)]) (rest := []) ⟨hx, hb, hml, hown, hts⟩ (kX8_checkArgumentx l hlt D cI cJ cD sa q hq N p2 (1 : Int32) (6 : Int32) e11 hc) (va_cwS 3 hts gX8_loadDeBruijn_X8_checkArgument rfl rfl rfl (by decide +kernel) ⟨(Nat.le_of_ble_eq_true rfl), (Nat.le_of_ble_eq_true rfl)⟩) ⟨gPx_blind, fun U hU hW => ⟨rfl, by rw [hU]; exact hP.sub (ws' := (w_0none q cI cJ cD)) [] rfl, gEv.warm hW hE, gXe.go hW hS (gMono rfl) hXe hU⟩⟩ rfl rfl hl.1 rfl (lv_room (Nat.le_of_ble_eq_true rfl)) dX8_loadDeBruijn_11 ⟨(Nat.le_of_ble_eq_true rfl), (Nat.le_of_ble_eq_true rfl)⟩) hP hS (gSub rfl) rfl rfl rfl rfl (fun ce q9 H locs hP hS hce hcv hcl => ?_)
    cases hf
    exact vx_out (fun x9 hx9 => (htab x9 hx9).elim) hlocks hce hcv hcl (fun t ht hv => ⟨rfl, by rw [ht]; exact hP, hS.F ht⟩) hS.2.2 (Nat.le_of_ble_eq_true rfl) (Nat.le_of_ble_eq_true rfl)
  try dsimp only at hf
  refine g_call0 (ws' := (w_0_1_2_13 q cI cJ cD Tn Ta Wg Wz Ww Wr)) (st1 := []) hq [0, 1, 2, 13] [] [.inr 0, .inr 1, .inr 2, .inr 3] (va_runS (As := [.int p2, .int (1 : Int32), .int (6 : Int32)]) (rest := []) ⟨hx, hb, hml, hown, hts⟩ (kX8_checkArgument l D cI cJ cD q hq N p2 (1 : Int32) (6 : Int32) hc) (va_cwS 3 hts gX8_loadDeBruijn_X8_checkArgument rfl rfl rfl (by decide +kernel) ⟨(Nat.le_of_ble_eq_true rfl), (Nat.le_of_ble_eq_true rfl)⟩) ⟨gP_blind, fun U hU hW => ⟨rfl, by rw [hU]; exact hP.sub (ws' := (w_0none q cI cJ cD)) [] rfl, gEv.warm hW hE⟩⟩ rfl rfl hl.1 rfl (lv_room (Nat.le_of_ble_eq_true rfl)) dX8_loadDeBruijn_11 ⟨Nat.zero_le _, Nat.zero_le _⟩) hP hS (gSub rfl) rfl rfl rfl rfl rfl (fun H locs hP hS => ?_)
  refine lv_iload_n hx hb dX8_loadDeBruijn_14 rfl (lv_at hl 1 rfl) ?_
  refine lv_iload_n hx hb dX8_loadDeBruijn_15 rfl (lv_at hl 2 rfl) ?_
  obtain ⟨r16, hc, hf⟩ := bn_some hf
  try dsimp only at hf
  refine g_call0 (ws' := (w_0_1_2_13 q cI cJ cD Tn Ta Wg Wz Ww Wr)) (st1 := [.long r16]) hq [0, 1, 2, 13] [] [.inr 0, .inr 1, .inr 2, .inr 3] (va_runS (As := [.int p1, .int p2]) (rest := []) ⟨hx, hb, hml, hown, hts⟩ (kX4_power l D cI cJ cD q hq N p1 p2 r16 hc) (va_cwS 2 hts gX8_loadDeBruijn_X4_power rfl rfl rfl (by decide +kernel) ⟨(Nat.le_of_ble_eq_true rfl), (Nat.le_of_ble_eq_true rfl)⟩) ⟨gP_blind, fun U hU hW => ⟨rfl, by rw [hU]; exact hP.sub (ws' := (w_0none q cI cJ cD)) [] rfl, gEv.warm hW hE⟩⟩ rfl rfl hl.1 rfl (lv_room (Nat.le_of_ble_eq_true rfl)) dX8_loadDeBruijn_16 ⟨Nat.zero_le _, Nat.zero_le _⟩) hP hS (gSub rfl) rfl rfl rfl rfl rfl (fun H locs hP hS => ?_)
  refine lv_ldc2 (v := (64 : Int64)) hx hb hown (hts (.constantLong RX8 105 (64 : Int64)) (by decide +kernel)) dX8_loadDeBruijn_19 ?_
  refine W.lcmp hx hb dX8_loadDeBruijn_22 ?_
  refine lv_if_le (tgt := 36) hx hb dX8_loadDeBruijn_23 (by decide) (fun c_3 => ?_) (fun c_3 => ?_)
  · have hf := (if_pos c_3).symm.trans hf
    refine lv_aload_n hx hb dX8_loadDeBruijn_36 rfl (lv_at hl 0 rfl) ?_
    refine va_get (D := D) (ci := 6) (v := .ref (q 1)) (C := RX8) (T := TX8) (N := 6) hx hb hts huX8 hown hE.1 hP 0 rfl rfl 0 (by decide) hk10 (fun _ h9 => h9) rfl dX8_loadDeBruijn_37 ?_
    obtain ⟨Tn40, hc, hf⟩ := bn_some hf
    try dsimp only at hf
    refine g_call0 (ws' := (w_0_1_2_13 q cI cJ cD Tn40 Ta Wg Wz Ww Wr)) (st1 := []) hq [0, 1, 2, 13] [1] [.inr 0, .inl 0, .inr 2, .inr 3] (va_runV (As := []) (rest := []) ⟨hx, hb, hml, hown, hts⟩ (kX2_empty l D cI cJ cD q hq N Tn Tn40 hc) (cwV 0 hts gX8_loadDeBruijn_X2_empty rfl rfl rfl (by decide +kernel) ⟨(Nat.le_of_ble_eq_true rfl), (Nat.le_of_ble_eq_true rfl)⟩) ⟨gP_blind, va_recv hE.1 hP (ci := 2) (q0 := 1) rfl rfl, fun U hU hW => ⟨rfl, by rw [hU]; exact hP.sub (ws' := (w_1 q cI cJ cD Tn)) [1] rfl, gEv.warm hW hE⟩⟩ rfl rfl hl.1 rfl (lv_room (Nat.le_of_ble_eq_true rfl)) dX8_loadDeBruijn_40 ⟨Nat.zero_le _, Nat.zero_le _⟩) hP hS (gSub rfl) rfl rfl rfl rfl rfl (fun H locs hP hS => ?_)
    refine lv_aload_n hx hb dX8_loadDeBruijn_43 rfl (lv_at hl 0 rfl) ?_
    refine va_get (D := D) (ci := 6) (v := .ref (q 13)) (C := RX8) (T := TX8) (N := 6) hx hb hts huX8 hown hE.1 hP 0 rfl rfl 5 (by decide) hk47 (fun _ h9 => h9) rfl dX8_loadDeBruijn_44 ?_
    refine lv_iload_n hx hb dX8_loadDeBruijn_47 rfl (lv_at hl 1 rfl) ?_
    refine lv_iload_n hx hb dX8_loadDeBruijn_48 rfl (lv_at hl 2 rfl) ?_
    obtain ⟨⟨Wg49, Wz49, Ww49, Wr49⟩, hc, hf⟩ := bn_some hf
    try dsimp only at hf
    refine g_call0 (ws' := (w_0_1_2_13 q cI cJ cD Tn40 Ta Wg49 Wz49 Ww49 Wr49)) (st1 := []) hq [0, 1, 2, 13] [13] [.inr 0, .inr 1, .inr 2, .inl 0] (va_runV (As := [.int p1, .int p2]) (rest := []) ⟨hx, hb, hml, hown, hts⟩ (kX3_begin l D cI cJ cD q hq N Wg Wz Ww Wr p1 p2 Wg49 Wz49 Ww49 Wr49 hc) (cwV 2 hts gX8_loadDeBruijn_X3_begin rfl rfl rfl (by decide +kernel) ⟨(Nat.le_of_ble_eq_true rfl), (Nat.le_of_ble_eq_true rfl)⟩) ⟨gP_blind, va_recv hE.1 hP (ci := 3) (q0 := 3) rfl rfl, fun U hU hW => ⟨rfl, by rw [hU]; exact hP.sub (ws' := (w_13 q cI cJ cD Wg Wz Ww Wr)) [3] rfl, gEv.warm hW hE⟩⟩ rfl rfl hl.1 rfl (lv_room (Nat.le_of_ble_eq_true rfl)) dX8_loadDeBruijn_49 ⟨Nat.zero_le _, Nat.zero_le _⟩) hP hS (gSub rfl) rfl rfl rfl rfl rfl (fun H locs hP hS => ?_)
    refine lv_iconst (v := (1 : Int32)) hx hb dX8_loadDeBruijn_52 (by decide) ?_
    refine lv_istore_n (lv' := [(3, .int (1 : Int32)), (0, .ref (q 0)), (1, .int p1), (2, .int p2)]) hx hb dX8_loadDeBruijn_53 rfl hl (by decide) rfl (fun ls hl => ?_)
    refine lv_iconst (v := (0 : Int32)) hx hb dX8_loadDeBruijn_54 (by decide) ?_
    refine lv_istore (lv' := [(4, .int (0 : Int32)), (3, .int (1 : Int32)), (0, .ref (q 0)), (1, .int p1), (2, .int p2)]) hx hb dX8_loadDeBruijn_55 hl (by decide) rfl (fun ls hl => ?_)
    exact K57 N Tn40 Ta Wg49 Wz49 Ww49 Wr49 (1 : Int32) (0 : Int32) hf _ _ hP hS _ (lv_sub hl [2, 1, 0] rfl)
  · have hf := (if_neg c_3).symm.trans hf
    cases hf
    exact vx_throwS (own := RX8) (cls := "java/lang/IllegalArgumentException") (text := "the text would have more than 64 letters") (names := ["java/lang/RuntimeException", "java/lang/Exception"]) (ik := 107) (is := 109) (ic := 111) (sa := sa 109) (A := (gA q [0, 1, 2, 13])) hx hb hlt hown (by decide +kernel) (by decide +kernel) (hts (.classLink RX8 107 "java/lang/IllegalArgumentException") (by decide +kernel)) (hts (.initialized "java/lang/IllegalArgumentException") (by decide +kernel)) (hXe.1.1 (109, "the text would have more than 64 letters") (by decide +kernel)) (vx_hat (B := gB "java/lang/IllegalArgumentException") (fun w h => hts w (gw_X8_loadDeBruijn_26 w h)) (gwB_X8_loadDeBruijn_26) (gB_ok hXe.1 (cls := "java/lang/IllegalArgumentException") (by decide +kernel))) (gwg_X8_loadDeBruijn_26) hXe.2.1 hXe.2.2 hS (hl.1.trans hml.symm) dX8_loadDeBruijn_26 dX8_loadDeBruijn_29 dX8_loadDeBruijn_30 dX8_loadDeBruijn_32 dX8_loadDeBruijn_35 (fun x9 hx9 => (htab x9 hx9).elim) (Nat.le_of_ble_eq_true rfl) (Nat.le_of_ble_eq_true rfl) (Nat.le_of_ble_eq_true rfl) (Nat.le_of_ble_eq_true rfl) hlocks (fun t hv hz hk => ⟨rfl, hP.kept (fun k9 x9 hx9 => hk x9.1 ((hP k9 x9 hx9).lt)), ⟨Nat.le_trans hS.1 hz, fun a9 h1 hn => (hk a9 (Nat.lt_of_lt_of_le h1 hS.1)).trans (hS.2.1 a9 h1 hn)⟩⟩) hS.2.2 (Nat.le_of_ble_eq_true rfl) (Nat.le_of_ble_eq_true rfl)
set_option maxHeartbeats 4000000 in
set_option maxRecDepth 100000 in
theorem kX8_loadNecklace (l : Launch) (D : va_G) (cI cJ cD : ClassId) (q : Nat → Nat) (hq : gInj 14 q) (N : Nat) (Tn : Int32) (Ta : (Nat → Int32)) (Wg : Int32) (Wz : Int32) (Ww : Int32) (Wr : Int32) (p1 : Int32) (p2 : Int32) (p3 : Int32) (r0 : Int32) (Tn9 : Int32) (Ta9 : (Nat → Int32)) (Wg9 : Int32) (Wz9 : Int32) (Ww9 : Int32) (Wr9 : Int32) (hf : fX8_loadNecklace N Tn Ta Wg Wz Ww Wr p1 p2 p3 = some (.inr (r0, Tn9, Ta9, Wg9, Wz9, Ww9, Wr9))) : Met l yX8_loadNecklace wsX8_loadNecklace rX8_loadNecklace (gP D cI cJ cD [.ref (q 0), .int p1, .int p2, .int p3] (w_0_1_2_13 q cI cJ cD Tn Ta Wg Wz Ww Wr)) (gQ D (some (.int r0)) (w_0_1_2_13 q cI cJ cD Tn9 Ta9 Wg9 Wz9 Ww9 Wr9) (gA q [0, 1, 2, 13])) 0 0 (gA q [0, 1, 2, 13]) := by
  refine Met.ofW (cc := cX8_loadNecklace) (maxL := 5) (ret := (some .int)) (by decide +kernel) rfl ?_
  intro p e s m args below meth c s₁ B hml hv
  obtain ⟨rfl, hP, hE⟩ := hv
  have hx := B.exec
  have hb := B.bytes
  have hr := B.returns
  have hts := atoms_spec (ws := wsX8_loadNecklace) B.pre
  have hown : s.vm.findClass RX8 = some m.cls := findClass_of_methodNamed B.named
  have hlocks := B.notSynchronized
  have hS : va_S (gA q [0, 1, 2, 13]) s.heap s.heap [] := va_S.rf
  have hl := lv_entry ([.ref (q 0), .int p1, .int p2, .int p3]) (n := 5) (Nat.le_of_ble_eq_true rfl)
  rw [lg_entry_eq]
  generalize (lg_sl ([.ref (q 0), .int p1, .int p2, .int p3]) ++ List.replicate (5 - (lg_sl ([.ref (q 0), .int p1, .int p2, .int p3])).length) Slot.unset).toArray = ls at hl ⊢
  have hl : lv_has ls 5 [(0, .ref (q 0)), (1, .int p1), (2, .int p2), (3, .int p3)] := hl
  have hk47 := hts (.fieldLink RX8 47 "LyndonText" "walk" "LLyndonText$NecklaceWalk;") (by decide +kernel)
  have hk10 := hts (.fieldLink RX8 10 "LyndonText" "text" "LLyndonText$Letters;") (by decide +kernel)
  have huX8 : ∀ w ∈ u_ws RX8 TX8 6, w ∈ wsX8_loadNecklace := by decide +kernel
  have J28 : ∀ (Tn : Int32) (Ta : (Nat → Int32)) (Wg : Int32) (Wz : Int32) (Ww : Int32) (Wr : Int32), fX8_loadNecklace_J28 N Tn Ta Wg Wz Ww Wr = some (.inr (r0, Tn9, Ta9, Wg9, Wz9, Ww9, Wr9)) → ∀ (H : Heap) (locs : List Loc), va_P D vwCl (w_0_1_2_13 q cI cJ cD Tn Ta Wg Wz Ww Wr) H → va_S (gA q [0, 1, 2, 13]) s.heap H locs → ∀ ls : Array Slot, lv_has ls 5 [] → W p l e (headSpec wsX8_loadNecklace rX8_loadNecklace).room s m ([.ref (q 0), .int p1, .int p2, .int p3] : List Value).toArray below meth c H locs 0 0 (MQ below (gQ D (some (.int r0)) (w_0_1_2_13 q cI cJ cD Tn9 Ta9 Wg9 Wz9 Ww9 Wr9) (gA q [0, 1, 2, 13])) ([.ref (q 0), .int p1, .int p2, .int p3] : List Value).toArray s 0 0 (gA q [0, 1, 2, 13])) (F0 m 28 ls []) := by
    intro Tn Ta Wg Wz Ww Wr hf H locs hP hS ls hl
    unfold fX8_loadNecklace_J28 at hf
    exact nomatch hf
  have J70 : ∀ (Tn : Int32) (Ta : (Nat → Int32)) (Wg : Int32) (Wz : Int32) (Ww : Int32) (Wr : Int32) (x2 : Int32), fX8_loadNecklace_J70 N Tn Ta Wg Wz Ww Wr x2 = some (.inr (r0, Tn9, Ta9, Wg9, Wz9, Ww9, Wr9)) → ∀ (H : Heap) (locs : List Loc), va_P D vwCl (w_0_1_2_13 q cI cJ cD Tn Ta Wg Wz Ww Wr) H → va_S (gA q [0, 1, 2, 13]) s.heap H locs → ∀ ls : Array Slot, lv_has ls 5 [(0, .ref (q 0)), (2, .int x2)] → W p l e (headSpec wsX8_loadNecklace rX8_loadNecklace).room s m ([.ref (q 0), .int p1, .int p2, .int p3] : List Value).toArray below meth c H locs 0 0 (MQ below (gQ D (some (.int r0)) (w_0_1_2_13 q cI cJ cD Tn9 Ta9 Wg9 Wz9 Ww9 Wr9) (gA q [0, 1, 2, 13])) ([.ref (q 0), .int p1, .int p2, .int p3] : List Value).toArray s 0 0 (gA q [0, 1, 2, 13])) (F0 m 70 ls []) := by
    intro Tn Ta Wg Wz Ww Wr x2 hf H locs hP hS ls hl
    unfold fX8_loadNecklace_J70 at hf
    refine lv_aload_n hx hb dX8_loadNecklace_70 rfl (lv_at hl 0 rfl) ?_
    refine va_get (D := D) (ci := 6) (v := .ref (q 1)) (C := RX8) (T := TX8) (N := 6) hx hb hts huX8 hown hE.1 hP 0 rfl rfl 0 (by decide) hk10 (fun _ h9 => h9) rfl dX8_loadNecklace_71 ?_
    obtain ⟨Tn74, hc, hf⟩ := bn_some hf
    try dsimp only at hf
    refine g_call0 (ws' := (w_0_1_2_13 q cI cJ cD Tn74 Ta Wg Wz Ww Wr)) (st1 := []) hq [0, 1, 2, 13] [1] [.inr 0, .inl 0, .inr 2, .inr 3] (va_runV (As := []) (rest := []) ⟨hx, hb, hml, hown, hts⟩ (kX2_empty l D cI cJ cD q hq N Tn Tn74 hc) (cwV 0 hts gX8_loadNecklace_X2_empty rfl rfl rfl (by decide +kernel) ⟨(Nat.le_of_ble_eq_true rfl), (Nat.le_of_ble_eq_true rfl)⟩) ⟨gP_blind, va_recv hE.1 hP (ci := 2) (q0 := 1) rfl rfl, fun U hU hW => ⟨rfl, by rw [hU]; exact hP.sub (ws' := (w_1 q cI cJ cD Tn)) [1] rfl, gEv.warm hW hE⟩⟩ rfl rfl hl.1 rfl (lv_room (Nat.le_of_ble_eq_true rfl)) dX8_loadNecklace_74 ⟨Nat.zero_le _, Nat.zero_le _⟩) hP hS (gSub rfl) rfl rfl rfl rfl rfl (fun H locs hP hS => ?_)
    refine lv_aload_n hx hb dX8_loadNecklace_77 rfl (lv_at hl 0 rfl) ?_
    refine lv_iload_n hx hb dX8_loadNecklace_78 rfl (lv_at hl 1 rfl) ?_
    obtain ⟨⟨Tn79, Ta79⟩, hc, hf⟩ := bn_some hf
    try dsimp only at hf
    refine g_call0 (ws' := (w_0_1_2_13 q cI cJ cD Tn79 Ta79 Wg Wz Ww Wr)) (st1 := []) hq [0, 1, 2, 13] [0, 1, 2, 13] [.inl 0, .inl 1, .inl 2, .inl 3] (va_runV (As := [.int x2]) (rest := []) ⟨hx, hb, hml, hown, hts⟩ (kX8_pushFromWalk l D cI cJ cD q hq N Tn74 Ta Wg Wz Ww Wr x2 Tn79 Ta79 hc) (cwV 1 hts gX8_loadNecklace_X8_pushFromWalk rfl rfl rfl (by decide +kernel) ⟨(Nat.le_of_ble_eq_true rfl), (Nat.le_of_ble_eq_true rfl)⟩) ⟨gP_blind, va_recv hE.1 hP (ci := 6) (q0 := 0) rfl rfl, fun U hU hW => ⟨rfl, by rw [hU]; exact hP.sub (ws' := (w_0_1_2_13 q cI cJ cD Tn74 Ta Wg Wz Ww Wr)) [0, 1, 2, 3] rfl, gEv.warm hW hE⟩⟩ rfl rfl hl.1 rfl (lv_room (Nat.le_of_ble_eq_true rfl)) dX8_loadNecklace_79 ⟨Nat.zero_le _, Nat.zero_le _⟩) hP hS (gSub rfl) rfl rfl rfl rfl rfl (fun H locs hP hS => ?_)
    refine lv_aload_n hx hb dX8_loadNecklace_82 rfl (lv_at hl 0 rfl) ?_
    refine va_get (D := D) (ci := 6) (v := .ref (q 13)) (C := RX8) (T := TX8) (N := 6) hx hb hts huX8 hown hE.1 hP 0 rfl rfl 5 (by decide) hk47 (fun _ h9 => h9) rfl dX8_loadNecklace_83 ?_
    obtain ⟨r86, hc, hf⟩ := bn_some hf
    try dsimp only at hf
    refine g_call0 (ws' := (w_0_1_2_13 q cI cJ cD Tn79 Ta79 Wg Wz Ww Wr)) (st1 := [.int r86]) hq [0, 1, 2, 13] [13] [.inr 0, .inr 1, .inr 2, .inl 0] (va_runV (As := []) (rest := []) ⟨hx, hb, hml, hown, hts⟩ (kX3_root l D cI cJ cD q hq N Wg Wz Ww Wr r86 hc) (cwV 0 hts gX8_loadNecklace_X3_root rfl rfl rfl (by decide +kernel) ⟨(Nat.le_of_ble_eq_true rfl), (Nat.le_of_ble_eq_true rfl)⟩) ⟨gP_blind, va_recv hE.1 hP (ci := 3) (q0 := 3) rfl rfl, fun U hU hW => ⟨rfl, by rw [hU]; exact hP.sub (ws' := (w_13 q cI cJ cD Wg Wz Ww Wr)) [3] rfl, gEv.warm hW hE⟩⟩ rfl rfl hl.1 rfl (lv_room (Nat.le_of_ble_eq_true rfl)) dX8_loadNecklace_86 ⟨Nat.zero_le _, Nat.zero_le _⟩) hP hS (gSub rfl) rfl rfl rfl rfl rfl (fun H locs hP hS => ?_)
    cases hf
    exact W.iret hx hb hr (fun t ht hW => ⟨⟨rfl, by rw [ht]; exact hP⟩, hS.F ht⟩) hS.2.2 dX8_loadNecklace_89
  have K50 : ∀ (n50 : Nat) (Tn : Int32) (Ta : (Nat → Int32)) (Wg : Int32) (Wz : Int32) (Ww : Int32) (Wr : Int32) (x2 : Int32) (x3 : Int32) (x4 : Int32), fX8_loadNecklace_H50 N n50 Tn Ta Wg Wz Ww Wr x2 x3 x4 = some (.inr (r0, Tn9, Ta9, Wg9, Wz9, Ww9, Wr9)) → ∀ (H : Heap) (locs : List Loc), va_P D vwCl (w_0_1_2_13 q cI cJ cD Tn Ta Wg Wz Ww Wr) H → va_S (gA q [0, 1, 2, 13]) s.heap H locs → ∀ ls : Array Slot, lv_has ls 5 [(0, .ref (q 0)), (2, .int x2), (3, .int x3), (4, .int x4)] → W p l e (headSpec wsX8_loadNecklace rX8_loadNecklace).room s m ([.ref (q 0), .int p1, .int p2, .int p3] : List Value).toArray below meth c H locs 0 0 (MQ below (gQ D (some (.int r0)) (w_0_1_2_13 q cI cJ cD Tn9 Ta9 Wg9 Wz9 Ww9 Wr9) (gA q [0, 1, 2, 13])) ([.ref (q 0), .int p1, .int p2, .int p3] : List Value).toArray s 0 0 (gA q [0, 1, 2, 13])) (F0 m 50 ls []) := by
    intro n50
    induction n50 with
    | zero =>
      intro Tn Ta Wg Wz Ww Wr x2 x3 x4 hf
      exact nomatch (show (none : Option ((Nat × Int32 × (Nat → Int32) × Int32 × Int32 × Int32 × Int32) ⊕ (Int32 × Int32 × (Nat → Int32) × Int32 × Int32 × Int32 × Int32))) = some (.inr (r0, Tn9, Ta9, Wg9, Wz9, Ww9, Wr9)) from hf)
    | succ n50 ih50 =>
      intro Tn Ta Wg Wz Ww Wr x2 x3 x4 hf H locs hP hS ls hl
      have hf : fX8_loadNecklace_B50 N (fX8_loadNecklace_H50 N n50) Tn Ta Wg Wz Ww Wr x2 x3 x4 = some (.inr (r0, Tn9, Ta9, Wg9, Wz9, Ww9, Wr9)) := hf
      unfold fX8_loadNecklace_B50 at hf
      refine lv_iload hx hb dX8_loadNecklace_50 (lv_at hl 3 rfl) ?_
      refine lv_iload_n hx hb dX8_loadNecklace_52 rfl (lv_at hl 2 rfl) ?_
      refine lv_icmp_ge (tgt := 70) hx hb dX8_loadNecklace_53 (by decide) (fun c_1 => ?_) (fun c_1 => ?_)
      · have hf := (if_pos c_1).symm.trans hf
        exact J70 Tn Ta Wg Wz Ww Wr x2 hf _ _ hP hS _ (lv_sub hl [0, 1] rfl)
      · have hf := (if_neg c_1).symm.trans hf
        refine lv_aload_n hx hb dX8_loadNecklace_56 rfl (lv_at hl 0 rfl) ?_
        refine va_get (D := D) (ci := 6) (v := .ref (q 13)) (C := RX8) (T := TX8) (N := 6) hx hb hts huX8 hown hE.1 hP 0 rfl rfl 5 (by decide) hk47 (fun _ h9 => h9) rfl dX8_loadNecklace_57 ?_
        obtain ⟨⟨r60, Ww60, Wr60⟩, hc, hf⟩ := bn_some hf
        try dsimp only at hf
        refine g_call0 (ws' := (w_0_1_2_13 q cI cJ cD Tn Ta Wg Wz Ww60 Wr60)) (st1 := [.int r60]) hq [0, 1, 2, 13] [13] [.inr 0, .inr 1, .inr 2, .inl 0] (va_runV (As := []) (rest := []) ⟨hx, hb, hml, hown, hts⟩ (kX3_toNextNecklace l D cI cJ cD q hq N Wg Wz Ww Wr r60 Ww60 Wr60 hc) (cwV 0 hts gX8_loadNecklace_X3_toNextNecklace rfl rfl rfl (by decide +kernel) ⟨(Nat.le_of_ble_eq_true rfl), (Nat.le_of_ble_eq_true rfl)⟩) ⟨gP_blind, va_recv hE.1 hP (ci := 3) (q0 := 3) rfl rfl, fun U hU hW => ⟨rfl, by rw [hU]; exact hP.sub (ws' := (w_13 q cI cJ cD Wg Wz Ww Wr)) [3] rfl, gEv.warm hW hE⟩⟩ rfl rfl hl.1 rfl (lv_room (Nat.le_of_ble_eq_true rfl)) dX8_loadNecklace_60 ⟨Nat.zero_le _, Nat.zero_le _⟩) hP hS (gSub rfl) rfl rfl rfl rfl rfl (fun H locs hP hS => ?_)
        refine lv_pop hx hb dX8_loadNecklace_63 rfl ?_
        refine lv_iinc (v := (x4 + 1)) (lv' := [(4, .int (x4 + 1)), (0, .ref (q 0)), (2, .int x2), (3, .int x3)]) hx hb dX8_loadNecklace_64 hl (k := 3) rfl rfl (by decide) rfl (fun ls hl => ?_)
        refine lv_goto (tgt := 50) hx hb dX8_loadNecklace_67 (by decide) ?_
        exact ih50 Tn Ta Wg Wz Ww60 Wr60 x2 x3 (x4 + 1) hf _ _ hP hS _ (lv_sub hl [1, 2, 3, 0] rfl)
  unfold fX8_loadNecklace at hf
  refine lv_iload_n hx hb dX8_loadNecklace_0 rfl (lv_at hl 1 rfl) ?_
  refine lv_iconst (v := (1 : Int32)) hx hb dX8_loadNecklace_1 (by decide) ?_
  refine lv_iconst (v := (4 : Int32)) hx hb dX8_loadNecklace_2 (by decide) ?_
  rcases bx_some hf with ⟨e3, hc, hf⟩ | ⟨⟨⟩, hc, hf⟩
  · exact nomatch hf
  try dsimp only at hf
  refine g_call0 (ws' := (w_0_1_2_13 q cI cJ cD Tn Ta Wg Wz Ww Wr)) (st1 := []) hq [0, 1, 2, 13] [] [.inr 0, .inr 1, .inr 2, .inr 3] (va_runS (As := [.int p1, .int (1 : Int32), .int (4 : Int32)]) (rest := []) ⟨hx, hb, hml, hown, hts⟩ (kX8_checkArgument l D cI cJ cD q hq N p1 (1 : Int32) (4 : Int32) hc) (va_cwS 3 hts gX8_loadNecklace_X8_checkArgument rfl rfl rfl (by decide +kernel) ⟨(Nat.le_of_ble_eq_true rfl), (Nat.le_of_ble_eq_true rfl)⟩) ⟨gP_blind, fun U hU hW => ⟨rfl, by rw [hU]; exact hP.sub (ws' := (w_0none q cI cJ cD)) [] rfl, gEv.warm hW hE⟩⟩ rfl rfl hl.1 rfl (lv_room (Nat.le_of_ble_eq_true rfl)) dX8_loadNecklace_3 ⟨Nat.zero_le _, Nat.zero_le _⟩) hP hS (gSub rfl) rfl rfl rfl rfl rfl (fun H locs hP hS => ?_)
  refine lv_iload_n hx hb dX8_loadNecklace_6 rfl (lv_at hl 2 rfl) ?_
  refine lv_iconst (v := (1 : Int32)) hx hb dX8_loadNecklace_7 (by decide) ?_
  refine lv_bipush (v := (8 : Int32)) hx hb dX8_loadNecklace_8 (by decide) ?_
  rcases bx_some hf with ⟨e10, hc, hf⟩ | ⟨⟨⟩, hc, hf⟩
  · exact nomatch hf
  try dsimp only at hf
  refine g_call0 (ws' := (w_0_1_2_13 q cI cJ cD Tn Ta Wg Wz Ww Wr)) (st1 := []) hq [0, 1, 2, 13] [] [.inr 0, .inr 1, .inr 2, .inr 3] (va_runS (As := [.int p2, .int (1 : Int32), .int (8 : Int32)]) (rest := []) ⟨hx, hb, hml, hown, hts⟩ (kX8_checkArgument l D cI cJ cD q hq N p2 (1 : Int32) (8 : Int32) hc) (va_cwS 3 hts gX8_loadNecklace_X8_checkArgument rfl rfl rfl (by decide +kernel) ⟨(Nat.le_of_ble_eq_true rfl), (Nat.le_of_ble_eq_true rfl)⟩) ⟨gP_blind, fun U hU hW => ⟨rfl, by rw [hU]; exact hP.sub (ws' := (w_0none q cI cJ cD)) [] rfl, gEv.warm hW hE⟩⟩ rfl rfl hl.1 rfl (lv_room (Nat.le_of_ble_eq_true rfl)) dX8_loadNecklace_10 ⟨Nat.zero_le _, Nat.zero_le _⟩) hP hS (gSub rfl) rfl rfl rfl rfl rfl (fun H locs hP hS => ?_)
  refine lv_iload_n hx hb dX8_loadNecklace_13 rfl (lv_at hl 3 rfl) ?_
  refine lv_if_lt (tgt := 28) hx hb dX8_loadNecklace_14 (by decide) (fun c_2 => ?_) (fun c_2 => ?_)
  · have hf := (if_pos c_2).symm.trans hf
    exact J28 Tn Ta Wg Wz Ww Wr hf _ _ hP hS _ (lv_sub hl [] rfl)
  · have hf := (if_neg c_2).symm.trans hf
    refine lv_iload_n hx hb dX8_loadNecklace_17 rfl (lv_at hl 3 rfl) ?_
    refine lv_i2l (v := (p3).toInt64) hx hb dX8_loadNecklace_18 rfl ?_
    refine lv_iload_n hx hb dX8_loadNecklace_19 rfl (lv_at hl 1 rfl) ?_
    refine lv_iload_n hx hb dX8_loadNecklace_20 rfl (lv_at hl 2 rfl) ?_
    obtain ⟨r21, hc, hf⟩ := bn_some hf
    try dsimp only at hf
    refine g_call0 (ws' := (w_0_1_2_13 q cI cJ cD Tn Ta Wg Wz Ww Wr)) (st1 := [.long r21, .long ((p3).toInt64)]) hq [0, 1, 2, 13] [] [.inr 0, .inr 1, .inr 2, .inr 3] (va_runS (As := [.int p1, .int p2]) (rest := [.long ((p3).toInt64)]) ⟨hx, hb, hml, hown, hts⟩ (kX4_necklaceCount l D cI cJ cD q hq N p1 p2 r21 hc) (va_cwS 2 hts gX8_loadNecklace_X4_necklaceCount rfl rfl rfl (by decide +kernel) ⟨(Nat.le_of_ble_eq_true rfl), (Nat.le_of_ble_eq_true rfl)⟩) ⟨gP_blind, fun U hU hW => ⟨rfl, by rw [hU]; exact hP.sub (ws' := (w_0none q cI cJ cD)) [] rfl, gEv.warm hW hE⟩⟩ rfl rfl hl.1 rfl (lv_room (Nat.le_of_ble_eq_true rfl)) dX8_loadNecklace_21 ⟨Nat.zero_le _, Nat.zero_le _⟩) hP hS (gSub rfl) rfl rfl rfl rfl rfl (fun H locs hP hS => ?_)
    refine W.lcmp hx hb dX8_loadNecklace_24 ?_
    refine lv_if_lt (tgt := 38) hx hb dX8_loadNecklace_25 (by decide) (fun c_3 => ?_) (fun c_3 => ?_)
    · have hf := (if_pos c_3).symm.trans hf
      refine lv_aload_n hx hb dX8_loadNecklace_38 rfl (lv_at hl 0 rfl) ?_
      refine va_get (D := D) (ci := 6) (v := .ref (q 13)) (C := RX8) (T := TX8) (N := 6) hx hb hts huX8 hown hE.1 hP 0 rfl rfl 5 (by decide) hk47 (fun _ h9 => h9) rfl dX8_loadNecklace_39 ?_
      refine lv_iload_n hx hb dX8_loadNecklace_42 rfl (lv_at hl 1 rfl) ?_
      refine lv_iload_n hx hb dX8_loadNecklace_43 rfl (lv_at hl 2 rfl) ?_
      obtain ⟨⟨Wg44, Wz44, Ww44, Wr44⟩, hc, hf⟩ := bn_some hf
      try dsimp only at hf
      refine g_call0 (ws' := (w_0_1_2_13 q cI cJ cD Tn Ta Wg44 Wz44 Ww44 Wr44)) (st1 := []) hq [0, 1, 2, 13] [13] [.inr 0, .inr 1, .inr 2, .inl 0] (va_runV (As := [.int p1, .int p2]) (rest := []) ⟨hx, hb, hml, hown, hts⟩ (kX3_begin l D cI cJ cD q hq N Wg Wz Ww Wr p1 p2 Wg44 Wz44 Ww44 Wr44 hc) (cwV 2 hts gX8_loadNecklace_X3_begin rfl rfl rfl (by decide +kernel) ⟨(Nat.le_of_ble_eq_true rfl), (Nat.le_of_ble_eq_true rfl)⟩) ⟨gP_blind, va_recv hE.1 hP (ci := 3) (q0 := 3) rfl rfl, fun U hU hW => ⟨rfl, by rw [hU]; exact hP.sub (ws' := (w_13 q cI cJ cD Wg Wz Ww Wr)) [3] rfl, gEv.warm hW hE⟩⟩ rfl rfl hl.1 rfl (lv_room (Nat.le_of_ble_eq_true rfl)) dX8_loadNecklace_44 ⟨Nat.zero_le _, Nat.zero_le _⟩) hP hS (gSub rfl) rfl rfl rfl rfl rfl (fun H locs hP hS => ?_)
      refine lv_iconst (v := (0 : Int32)) hx hb dX8_loadNecklace_47 (by decide) ?_
      refine lv_istore (lv' := [(4, .int (0 : Int32)), (0, .ref (q 0)), (1, .int p1), (2, .int p2), (3, .int p3)]) hx hb dX8_loadNecklace_48 hl (by decide) rfl (fun ls hl => ?_)
      exact K50 N Tn Ta Wg44 Wz44 Ww44 Wr44 p2 p3 (0 : Int32) hf _ _ hP hS _ (lv_sub hl [1, 3, 4, 0] rfl)
    · have hf := (if_neg c_3).symm.trans hf
      exact J28 Tn Ta Wg Wz Ww Wr hf _ _ hP hS _ (lv_sub hl [] rfl)
set_option maxHeartbeats 4000000 in
set_option maxRecDepth 100000 in
theorem kX8_loadNecklacex (l : Launch) (hlt : l.stackTraces = false) (D : va_G) (cI cJ cD : ClassId) (sa : Nat → Nat) (q : Nat → Nat) (hq : gInj 14 q) (N : Nat) (Tn : Int32) (Ta : (Nat → Int32)) (Wg : Int32) (Wz : Int32) (Ww : Int32) (Wr : Int32) (p1 : Int32) (p2 : Int32) (p3 : Int32) (e0 : Nat) (Tn9 : Int32) (Ta9 : (Nat → Int32)) (Wg9 : Int32) (Wz9 : Int32) (Ww9 : Int32) (Wr9 : Int32) (hf : fX8_loadNecklace N Tn Ta Wg Wz Ww Wr p1 p2 p3 = some (.inl (e0, Tn9, Ta9, Wg9, Wz9, Ww9, Wr9))) : vx_Met l yX8_loadNecklace wsX8_loadNecklace rX8_loadNecklacex (gPx D cI cJ cD sa (gA q [0, 1, 2, 13]) [.ref (q 0), .int p1, .int p2, .int p3] (w_0_1_2_13 q cI cJ cD Tn Ta Wg Wz Ww Wr)) (fun _ _ _ _ => False) (gX D (gEn e0) (w_0_1_2_13 q cI cJ cD Tn9 Ta9 Wg9 Wz9 Ww9 Wr9) (gA q [0, 1, 2, 13])) 1 6 (gA q [0, 1, 2, 13]) := by
  refine vx_ofW (cc := cX8_loadNecklace) (maxL := 5) (ret := (some .int)) (by decide +kernel) rfl ?_
  intro p e s m args below meth c s₁ B hml htab hv
  obtain ⟨rfl, hP, hE, hXe⟩ := hv
  have hx := B.exec
  have hb := B.bytes
  have hr := B.returns
  have hts := atoms_spec (ws := wsX8_loadNecklace) B.pre
  have hown : s.vm.findClass RX8 = some m.cls := findClass_of_methodNamed B.named
  have hlocks := B.notSynchronized
  have hS : va_S (gA q [0, 1, 2, 13]) s.heap s.heap [] := va_S.rf
  have hl := lv_entry ([.ref (q 0), .int p1, .int p2, .int p3]) (n := 5) (Nat.le_of_ble_eq_true rfl)
  rw [lg_entry_eq]
  generalize (lg_sl ([.ref (q 0), .int p1, .int p2, .int p3]) ++ List.replicate (5 - (lg_sl ([.ref (q 0), .int p1, .int p2, .int p3])).length) Slot.unset).toArray = ls at hl ⊢
  have hl : lv_has ls 5 [(0, .ref (q 0)), (1, .int p1), (2, .int p2), (3, .int p3)] := hl
  have hk47 := hts (.fieldLink RX8 47 "LyndonText" "walk" "LLyndonText$NecklaceWalk;") (by decide +kernel)
  have hk10 := hts (.fieldLink RX8 10 "LyndonText" "text" "LLyndonText$Letters;") (by decide +kernel)
  have huX8 : ∀ w ∈ u_ws RX8 TX8 6, w ∈ wsX8_loadNecklace := by decide +kernel
  have J28 : ∀ (Tn : Int32) (Ta : (Nat → Int32)) (Wg : Int32) (Wz : Int32) (Ww : Int32) (Wr : Int32), fX8_loadNecklace_J28 N Tn Ta Wg Wz Ww Wr = some (.inl (e0, Tn9, Ta9, Wg9, Wz9, Ww9, Wr9)) → ∀ (H : Heap) (locs : List Loc), va_P D vwCl (w_0_1_2_13 q cI cJ cD Tn Ta Wg Wz Ww Wr) H → va_S (gA q [0, 1, 2, 13]) s.heap H locs → ∀ ls : Array Slot, lv_has ls 5 [] → W p l e (headSpec wsX8_loadNecklace rX8_loadNecklacex).room s m ([.ref (q 0), .int p1, .int p2, .int p3] : List Value).toArray below meth c H locs 0 0 (vx_MQ below (fun _ _ _ _ => False) (gX D (gEn e0) (w_0_1_2_13 q cI cJ cD Tn9 Ta9 Wg9 Wz9 Ww9 Wr9) (gA q [0, 1, 2, 13])) ([.ref (q 0), .int p1, .int p2, .int p3] : List Value).toArray s 1 6 (gA q [0, 1, 2, 13])) (F0 m 28 ls []) := by
    intro Tn Ta Wg Wz Ww Wr hf H locs hP hS ls hl
    unfold fX8_loadNecklace_J28 at hf
    cases hf
    exact vx_throwS (own := RX8) (cls := "java/lang/IllegalArgumentException") (text := "there is no necklace with this number") (names := ["java/lang/RuntimeException", "java/lang/Exception"]) (ik := 107) (is := 128) (ic := 111) (sa := sa 128) (A := (gA q [0, 1, 2, 13])) hx hb hlt hown (by decide +kernel) (by decide +kernel) (hts (.classLink RX8 107 "java/lang/IllegalArgumentException") (by decide +kernel)) (hts (.initialized "java/lang/IllegalArgumentException") (by decide +kernel)) (hXe.1.1 (128, "there is no necklace with this number") (by decide +kernel)) (vx_hat (B := gB "java/lang/IllegalArgumentException") (fun w h => hts w (gw_X8_loadNecklace_28 w h)) (gwB_X8_loadNecklace_28) (gB_ok hXe.1 (cls := "java/lang/IllegalArgumentException") (by decide +kernel))) (gwg_X8_loadNecklace_28) hXe.2.1 hXe.2.2 hS (hl.1.trans hml.symm) dX8_loadNecklace_28 dX8_loadNecklace_31 dX8_loadNecklace_32 dX8_loadNecklace_34 dX8_loadNecklace_37 (fun x9 hx9 => (htab x9 hx9).elim) (Nat.le_of_ble_eq_true rfl) (Nat.le_of_ble_eq_true rfl) (Nat.le_of_ble_eq_true rfl) (Nat.le_of_ble_eq_true rfl) hlocks (fun t hv hz hk => ⟨rfl, hP.kept (fun k9 x9 hx9 => hk x9.1 ((hP k9 x9 hx9).lt)), ⟨Nat.le_trans hS.1 hz, fun a9 h1 hn => (hk a9 (Nat.lt_of_lt_of_le h1 hS.1)).trans (hS.2.1 a9 h1 hn)⟩⟩) hS.2.2 (Nat.le_of_ble_eq_true rfl) (Nat.le_of_ble_eq_true rfl)
  have J70 : ∀ (Tn : Int32) (Ta : (Nat → Int32)) (Wg : Int32) (Wz : Int32) (Ww : Int32) (Wr : Int32) (x2 : Int32), fX8_loadNecklace_J70 N Tn Ta Wg Wz Ww Wr x2 = some (.inl (e0, Tn9, Ta9, Wg9, Wz9, Ww9, Wr9)) → ∀ (H : Heap) (locs : List Loc), va_P D vwCl (w_0_1_2_13 q cI cJ cD Tn Ta Wg Wz Ww Wr) H → va_S (gA q [0, 1, 2, 13]) s.heap H locs → ∀ ls : Array Slot, lv_has ls 5 [(0, .ref (q 0)), (2, .int x2)] → W p l e (headSpec wsX8_loadNecklace rX8_loadNecklacex).room s m ([.ref (q 0), .int p1, .int p2, .int p3] : List Value).toArray below meth c H locs 0 0 (vx_MQ below (fun _ _ _ _ => False) (gX D (gEn e0) (w_0_1_2_13 q cI cJ cD Tn9 Ta9 Wg9 Wz9 Ww9 Wr9) (gA q [0, 1, 2, 13])) ([.ref (q 0), .int p1, .int p2, .int p3] : List Value).toArray s 1 6 (gA q [0, 1, 2, 13])) (F0 m 70 ls []) := by
    intro Tn Ta Wg Wz Ww Wr x2 hf H locs hP hS ls hl
    unfold fX8_loadNecklace_J70 at hf
    refine lv_aload_n hx hb dX8_loadNecklace_70 rfl (lv_at hl 0 rfl) ?_
    refine va_get (D := D) (ci := 6) (v := .ref (q 1)) (C := RX8) (T := TX8) (N := 6) hx hb hts huX8 hown hE.1 hP 0 rfl rfl 0 (by decide) hk10 (fun _ h9 => h9) rfl dX8_loadNecklace_71 ?_
    obtain ⟨Tn74, hc, hf⟩ := bn_some hf
    try dsimp only at hf
    refine g_call0 (ws' := (w_0_1_2_13 q cI cJ cD Tn74 Ta Wg Wz Ww Wr)) (st1 := []) hq [0, 1, 2, 13] [1] [.inr 0, .inl 0, .inr 2, .inr 3] (va_runV (As := []) (rest := []) ⟨hx, hb, hml, hown, hts⟩ (kX2_empty l D cI cJ cD q hq N Tn Tn74 hc) (cwV 0 hts gX8_loadNecklace_X2_empty rfl rfl rfl (by decide +kernel) ⟨(Nat.le_of_ble_eq_true rfl), (Nat.le_of_ble_eq_true rfl)⟩) ⟨gP_blind, va_recv hE.1 hP (ci := 2) (q0 := 1) rfl rfl, fun U hU hW => ⟨rfl, by rw [hU]; exact hP.sub (ws' := (w_1 q cI cJ cD Tn)) [1] rfl, gEv.warm hW hE⟩⟩ rfl rfl hl.1 rfl (lv_room (Nat.le_of_ble_eq_true rfl)) dX8_loadNecklace_74 ⟨Nat.zero_le _, Nat.zero_le _⟩) hP hS (gSub rfl) rfl rfl rfl rfl rfl (fun H locs hP hS => ?_)
    refine lv_aload_n hx hb dX8_loadNecklace_77 rfl (lv_at hl 0 rfl) ?_
    refine lv_iload_n hx hb dX8_loadNecklace_78 rfl (lv_at hl 1 rfl) ?_
    obtain ⟨⟨Tn79, Ta79⟩, hc, hf⟩ := bn_some hf
    try dsimp only at hf
    refine g_call0 (ws' := (w_0_1_2_13 q cI cJ cD Tn79 Ta79 Wg Wz Ww Wr)) (st1 := []) hq [0, 1, 2, 13] [0, 1, 2, 13] [.inl 0, .inl 1, .inl 2, .inl 3] (va_runV (As := [.int x2]) (rest := []) ⟨hx, hb, hml, hown, hts⟩ (kX8_pushFromWalk l D cI cJ cD q hq N Tn74 Ta Wg Wz Ww Wr x2 Tn79 Ta79 hc) (cwV 1 hts gX8_loadNecklace_X8_pushFromWalk rfl rfl rfl (by decide +kernel) ⟨(Nat.le_of_ble_eq_true rfl), (Nat.le_of_ble_eq_true rfl)⟩) ⟨gP_blind, va_recv hE.1 hP (ci := 6) (q0 := 0) rfl rfl, fun U hU hW => ⟨rfl, by rw [hU]; exact hP.sub (ws' := (w_0_1_2_13 q cI cJ cD Tn74 Ta Wg Wz Ww Wr)) [0, 1, 2, 3] rfl, gEv.warm hW hE⟩⟩ rfl rfl hl.1 rfl (lv_room (Nat.le_of_ble_eq_true rfl)) dX8_loadNecklace_79 ⟨Nat.zero_le _, Nat.zero_le _⟩) hP hS (gSub rfl) rfl rfl rfl rfl rfl (fun H locs hP hS => ?_)
    refine lv_aload_n hx hb dX8_loadNecklace_82 rfl (lv_at hl 0 rfl) ?_
    refine va_get (D := D) (ci := 6) (v := .ref (q 13)) (C := RX8) (T := TX8) (N := 6) hx hb hts huX8 hown hE.1 hP 0 rfl rfl 5 (by decide) hk47 (fun _ h9 => h9) rfl dX8_loadNecklace_83 ?_
    obtain ⟨r86, hc, hf⟩ := bn_some hf
    try dsimp only at hf
    refine g_call0 (ws' := (w_0_1_2_13 q cI cJ cD Tn79 Ta79 Wg Wz Ww Wr)) (st1 := [.int r86]) hq [0, 1, 2, 13] [13] [.inr 0, .inr 1, .inr 2, .inl 0] (va_runV (As := []) (rest := []) ⟨hx, hb, hml, hown, hts⟩ (kX3_root l D cI cJ cD q hq N Wg Wz Ww Wr r86 hc) (cwV 0 hts gX8_loadNecklace_X3_root rfl rfl rfl (by decide +kernel) ⟨(Nat.le_of_ble_eq_true rfl), (Nat.le_of_ble_eq_true rfl)⟩) ⟨gP_blind, va_recv hE.1 hP (ci := 3) (q0 := 3) rfl rfl, fun U hU hW => ⟨rfl, by rw [hU]; exact hP.sub (ws' := (w_13 q cI cJ cD Wg Wz Ww Wr)) [3] rfl, gEv.warm hW hE⟩⟩ rfl rfl hl.1 rfl (lv_room (Nat.le_of_ble_eq_true rfl)) dX8_loadNecklace_86 ⟨Nat.zero_le _, Nat.zero_le _⟩) hP hS (gSub rfl) rfl rfl rfl rfl rfl (fun H locs hP hS => ?_)
    exact nomatch hf
  have K50 : ∀ (n50 : Nat) (Tn : Int32) (Ta : (Nat → Int32)) (Wg : Int32) (Wz : Int32) (Ww : Int32) (Wr : Int32) (x2 : Int32) (x3 : Int32) (x4 : Int32), fX8_loadNecklace_H50 N n50 Tn Ta Wg Wz Ww Wr x2 x3 x4 = some (.inl (e0, Tn9, Ta9, Wg9, Wz9, Ww9, Wr9)) → ∀ (H : Heap) (locs : List Loc), va_P D vwCl (w_0_1_2_13 q cI cJ cD Tn Ta Wg Wz Ww Wr) H → va_S (gA q [0, 1, 2, 13]) s.heap H locs → ∀ ls : Array Slot, lv_has ls 5 [(0, .ref (q 0)), (2, .int x2), (3, .int x3), (4, .int x4)] → W p l e (headSpec wsX8_loadNecklace rX8_loadNecklacex).room s m ([.ref (q 0), .int p1, .int p2, .int p3] : List Value).toArray below meth c H locs 0 0 (vx_MQ below (fun _ _ _ _ => False) (gX D (gEn e0) (w_0_1_2_13 q cI cJ cD Tn9 Ta9 Wg9 Wz9 Ww9 Wr9) (gA q [0, 1, 2, 13])) ([.ref (q 0), .int p1, .int p2, .int p3] : List Value).toArray s 1 6 (gA q [0, 1, 2, 13])) (F0 m 50 ls []) := by
    intro n50
    induction n50 with
    | zero =>
      intro Tn Ta Wg Wz Ww Wr x2 x3 x4 hf
      exact nomatch (show (none : Option ((Nat × Int32 × (Nat → Int32) × Int32 × Int32 × Int32 × Int32) ⊕ (Int32 × Int32 × (Nat → Int32) × Int32 × Int32 × Int32 × Int32))) = some (.inl (e0, Tn9, Ta9, Wg9, Wz9, Ww9, Wr9)) from hf)
    | succ n50 ih50 =>
      intro Tn Ta Wg Wz Ww Wr x2 x3 x4 hf H locs hP hS ls hl
      have hf : fX8_loadNecklace_B50 N (fX8_loadNecklace_H50 N n50) Tn Ta Wg Wz Ww Wr x2 x3 x4 = some (.inl (e0, Tn9, Ta9, Wg9, Wz9, Ww9, Wr9)) := hf
      unfold fX8_loadNecklace_B50 at hf
      refine lv_iload hx hb dX8_loadNecklace_50 (lv_at hl 3 rfl) ?_
      refine lv_iload_n hx hb dX8_loadNecklace_52 rfl (lv_at hl 2 rfl) ?_
      refine lv_icmp_ge (tgt := 70) hx hb dX8_loadNecklace_53 (by decide) (fun c_1 => ?_) (fun c_1 => ?_)
      · have hf := (if_pos c_1).symm.trans hf
        exact J70 Tn Ta Wg Wz Ww Wr x2 hf _ _ hP hS _ (lv_sub hl [0, 1] rfl)
      · have hf := (if_neg c_1).symm.trans hf
        refine lv_aload_n hx hb dX8_loadNecklace_56 rfl (lv_at hl 0 rfl) ?_
        refine va_get (D := D) (ci := 6) (v := .ref (q 13)) (C := RX8) (T := TX8) (N := 6) hx hb hts huX8 hown hE.1 hP 0 rfl rfl 5 (by decide) hk47 (fun _ h9 => h9) rfl dX8_loadNecklace_57 ?_
        obtain ⟨⟨r60, Ww60, Wr60⟩, hc, hf⟩ := bn_some hf
        try dsimp only at hf
        refine g_call0 (ws' := (w_0_1_2_13 q cI cJ cD Tn Ta Wg Wz Ww60 Wr60)) (st1 := [.int r60]) hq [0, 1, 2, 13] [13] [.inr 0, .inr 1, .inr 2, .inl 0] (va_runV (As := []) (rest := []) ⟨hx, hb, hml, hown, hts⟩ (kX3_toNextNecklace l D cI cJ cD q hq N Wg Wz Ww Wr r60 Ww60 Wr60 hc) (cwV 0 hts gX8_loadNecklace_X3_toNextNecklace rfl rfl rfl (by decide +kernel) ⟨(Nat.le_of_ble_eq_true rfl), (Nat.le_of_ble_eq_true rfl)⟩) ⟨gP_blind, va_recv hE.1 hP (ci := 3) (q0 := 3) rfl rfl, fun U hU hW => ⟨rfl, by rw [hU]; exact hP.sub (ws' := (w_13 q cI cJ cD Wg Wz Ww Wr)) [3] rfl, gEv.warm hW hE⟩⟩ rfl rfl hl.1 rfl (lv_room (Nat.le_of_ble_eq_true rfl)) dX8_loadNecklace_60 ⟨Nat.zero_le _, Nat.zero_le _⟩) hP hS (gSub rfl) rfl rfl rfl rfl rfl (fun H locs hP hS => ?_)
        refine lv_pop hx hb dX8_loadNecklace_63 rfl ?_
        refine lv_iinc (v := (x4 + 1)) (lv' := [(4, .int (x4 + 1)), (0, .ref (q 0)), (2, .int x2), (3, .int x3)]) hx hb dX8_loadNecklace_64 hl (k := 3) rfl rfl (by decide) rfl (fun ls hl => ?_)
        refine lv_goto (tgt := 50) hx hb dX8_loadNecklace_67 (by decide) ?_
        exact ih50 Tn Ta Wg Wz Ww60 Wr60 x2 x3 (x4 + 1) hf _ _ hP hS _ (lv_sub hl [1, 2, 3, 0] rfl)
  unfold fX8_loadNecklace at hf
  refine lv_iload_n hx hb dX8_loadNecklace_0 rfl (lv_at hl 1 rfl) ?_
  refine lv_iconst (v := (1 : Int32)) hx hb dX8_loadNecklace_1 (by decide) ?_
  refine lv_iconst (v := (4 : Int32)) hx hb dX8_loadNecklace_2 (by decide) ?_
  rcases bx_some hf with ⟨e3, hc, hf⟩ | ⟨⟨⟩, hc, hf⟩
  · try dsimp only at hf
    refine g_callX (ws' := (w_0_1_2_13 q cI cJ cD Tn Ta Wg Wz Ww Wr)) hq [0, 1, 2, 13] [] [.inr 0, .inr 1, .inr 2, .inr 3] (vx_runS (As := [.int p1, .int (1 : Int32), .int (4 : Int32)]) (rest := []) ⟨hx, hb, hml, hown, hts⟩ (kX8_checkArgumentx l hlt D cI cJ cD sa q hq N p1 (1 : Int32) (4 : Int32) e3 hc) (va_cwS 3 hts gX8_loadNecklace_X8_checkArgument rfl rfl rfl (by decide +kernel) ⟨(Nat.le_of_ble_eq_true rfl), (Nat.le_of_ble_eq_true rfl)⟩) ⟨gPx_blind, fun U hU hW => ⟨rfl, by rw [hU]; exact hP.sub (ws' := (w_0none q cI cJ cD)) [] rfl, gEv.warm hW hE, gXe.go hW hS (gMono rfl) hXe hU⟩⟩ rfl rfl hl.1 rfl (lv_room (Nat.le_of_ble_eq_true rfl)) dX8_loadNecklace_3 ⟨(Nat.le_of_ble_eq_true rfl), (Nat.le_of_ble_eq_true rfl)⟩) hP hS (gSub rfl) rfl rfl rfl rfl (fun ce q9 H locs hP hS hce hcv hcl => ?_)
    cases hf
    exact vx_out (fun x9 hx9 => (htab x9 hx9).elim) hlocks hce hcv hcl (fun t ht hv => ⟨rfl, by rw [ht]; exact hP, hS.F ht⟩) hS.2.2 (Nat.le_of_ble_eq_true rfl) (Nat.le_of_ble_eq_true rfl)
  try dsimp only at hf
  refine g_call0 (ws' := (w_0_1_2_13 q cI cJ cD Tn Ta Wg Wz Ww Wr)) (st1 := []) hq [0, 1, 2, 13] [] [.inr 0, .inr 1, .inr 2, .inr 3] (va_runS (As := [.int p1, .int (1 : Int32), .int (4 : Int32)]) (rest := []) ⟨hx, hb, hml, hown, hts⟩ (kX8_checkArgument l D cI cJ cD q hq N p1 (1 : Int32) (4 : Int32) hc) (va_cwS 3 hts gX8_loadNecklace_X8_checkArgument rfl rfl rfl (by decide +kernel) ⟨(Nat.le_of_ble_eq_true rfl), (Nat.le_of_ble_eq_true rfl)⟩) ⟨gP_blind, fun U hU hW => ⟨rfl, by rw [hU]; exact hP.sub (ws' := (w_0none q cI cJ cD)) [] rfl, gEv.warm hW hE⟩⟩ rfl rfl hl.1 rfl (lv_room (Nat.le_of_ble_eq_true rfl)) dX8_loadNecklace_3 ⟨Nat.zero_le _, Nat.zero_le _⟩) hP hS (gSub rfl) rfl rfl rfl rfl rfl (fun H locs hP hS => ?_)
  refine lv_iload_n hx hb dX8_loadNecklace_6 rfl (lv_at hl 2 rfl) ?_
  refine lv_iconst (v := (1 : Int32)) hx hb dX8_loadNecklace_7 (by decide) ?_
  refine lv_bipush (v := (8 : Int32)) hx hb dX8_loadNecklace_8 (by decide) ?_
  rcases bx_some hf with ⟨e10, hc, hf⟩ | ⟨⟨⟩, hc, hf⟩
  · try dsimp only at hf
    refine g_callX (ws' := (w_0_1_2_13 q cI cJ cD Tn Ta Wg Wz Ww Wr)) hq [0, 1, 2, 13] [] [.inr 0, .inr 1, .inr 2, .inr 3] (vx_runS (As := [.int p2, .int (1 : Int32), .int (8 : Int32)]) (rest := []) ⟨hx, hb, hml, hown, hts⟩ (kX8_checkArgumentx l hlt D cI cJ cD sa q hq N p2 (1 : Int32) (8 : Int32) e10 hc) (va_cwS 3 hts gX8_loadNecklace_X8_checkArgument rfl rfl rfl (by decide +kernel) ⟨(Nat.le_of_ble_eq_true rfl), (Nat.le_of_ble_eq_true rfl)⟩) ⟨gPx_blind, fun U hU hW => ⟨rfl, by rw [hU]; exact hP.sub (ws' := (w_0none q cI cJ cD)) [] rfl, gEv.warm hW hE, gXe.go hW hS (gMono rfl) hXe hU⟩⟩ rfl rfl hl.1 rfl (lv_room (Nat.le_of_ble_eq_true rfl)) dX8_loadNecklace_10 ⟨(Nat.le_of_ble_eq_true rfl), (Nat.le_of_ble_eq_true rfl)⟩) hP hS (gSub rfl) rfl rfl rfl rfl (fun ce q9 H locs hP hS hce hcv hcl => ?_)
    cases hf
    exact vx_out (fun x9 hx9 => (htab x9 hx9).elim) hlocks hce hcv hcl (fun t ht hv => ⟨rfl, by rw [ht]; exact hP, hS.F ht⟩) hS.2.2 (Nat.le_of_ble_eq_true rfl) (Nat.le_of_ble_eq_true rfl)
  try dsimp only at hf
  refine g_call0 (ws' := (w_0_1_2_13 q cI cJ cD Tn Ta Wg Wz Ww Wr)) (st1 := []) hq [0, 1, 2, 13] [] [.inr 0, .inr 1, .inr 2, .inr 3] (va_runS (As := [.int p2, .int (1 : Int32), .int (8 : Int32)]) (rest := []) ⟨hx, hb, hml, hown, hts⟩ (kX8_checkArgument l D cI cJ cD q hq N p2 (1 : Int32) (8 : Int32) hc) (va_cwS 3 hts gX8_loadNecklace_X8_checkArgument rfl rfl rfl (by decide +kernel) ⟨(Nat.le_of_ble_eq_true rfl), (Nat.le_of_ble_eq_true rfl)⟩) ⟨gP_blind, fun U hU hW => ⟨rfl, by rw [hU]; exact hP.sub (ws' := (w_0none q cI cJ cD)) [] rfl, gEv.warm hW hE⟩⟩ rfl rfl hl.1 rfl (lv_room (Nat.le_of_ble_eq_true rfl)) dX8_loadNecklace_10 ⟨Nat.zero_le _, Nat.zero_le _⟩) hP hS (gSub rfl) rfl rfl rfl rfl rfl (fun H locs hP hS => ?_)
  refine lv_iload_n hx hb dX8_loadNecklace_13 rfl (lv_at hl 3 rfl) ?_
  refine lv_if_lt (tgt := 28) hx hb dX8_loadNecklace_14 (by decide) (fun c_2 => ?_) (fun c_2 => ?_)
  · have hf := (if_pos c_2).symm.trans hf
    exact J28 Tn Ta Wg Wz Ww Wr hf _ _ hP hS _ (lv_sub hl [] rfl)
  · have hf := (if_neg c_2).symm.trans hf
    refine lv_iload_n hx hb dX8_loadNecklace_17 rfl (lv_at hl 3 rfl) ?_
    refine lv_i2l (v := (p3).toInt64) hx hb dX8_loadNecklace_18 rfl ?_
    refine lv_iload_n hx hb dX8_loadNecklace_19 rfl (lv_at hl 1 rfl) ?_
    refine lv_iload_n hx hb dX8_loadNecklace_20 rfl (lv_at hl 2 rfl) ?_
    obtain ⟨r21, hc, hf⟩ := bn_some hf
    try dsimp only at hf
    refine g_call0 (ws' := (w_0_1_2_13 q cI cJ cD Tn Ta Wg Wz Ww Wr)) (st1 := [.long r21, .long ((p3).toInt64)]) hq [0, 1, 2, 13] [] [.inr 0, .inr 1, .inr 2, .inr 3] (va_runS (As := [.int p1, .int p2]) (rest := [.long ((p3).toInt64)]) ⟨hx, hb, hml, hown, hts⟩ (kX4_necklaceCount l D cI cJ cD q hq N p1 p2 r21 hc) (va_cwS 2 hts gX8_loadNecklace_X4_necklaceCount rfl rfl rfl (by decide +kernel) ⟨(Nat.le_of_ble_eq_true rfl), (Nat.le_of_ble_eq_true rfl)⟩) ⟨gP_blind, fun U hU hW => ⟨rfl, by rw [hU]; exact hP.sub (ws' := (w_0none q cI cJ cD)) [] rfl, gEv.warm hW hE⟩⟩ rfl rfl hl.1 rfl (lv_room (Nat.le_of_ble_eq_true rfl)) dX8_loadNecklace_21 ⟨Nat.zero_le _, Nat.zero_le _⟩) hP hS (gSub rfl) rfl rfl rfl rfl rfl (fun H locs hP hS => ?_)
    refine W.lcmp hx hb dX8_loadNecklace_24 ?_
    refine lv_if_lt (tgt := 38) hx hb dX8_loadNecklace_25 (by decide) (fun c_3 => ?_) (fun c_3 => ?_)
    · have hf := (if_pos c_3).symm.trans hf
      refine lv_aload_n hx hb dX8_loadNecklace_38 rfl (lv_at hl 0 rfl) ?_
      refine va_get (D := D) (ci := 6) (v := .ref (q 13)) (C := RX8) (T := TX8) (N := 6) hx hb hts huX8 hown hE.1 hP 0 rfl rfl 5 (by decide) hk47 (fun _ h9 => h9) rfl dX8_loadNecklace_39 ?_
      refine lv_iload_n hx hb dX8_loadNecklace_42 rfl (lv_at hl 1 rfl) ?_
      refine lv_iload_n hx hb dX8_loadNecklace_43 rfl (lv_at hl 2 rfl) ?_
      obtain ⟨⟨Wg44, Wz44, Ww44, Wr44⟩, hc, hf⟩ := bn_some hf
      try dsimp only at hf
      refine g_call0 (ws' := (w_0_1_2_13 q cI cJ cD Tn Ta Wg44 Wz44 Ww44 Wr44)) (st1 := []) hq [0, 1, 2, 13] [13] [.inr 0, .inr 1, .inr 2, .inl 0] (va_runV (As := [.int p1, .int p2]) (rest := []) ⟨hx, hb, hml, hown, hts⟩ (kX3_begin l D cI cJ cD q hq N Wg Wz Ww Wr p1 p2 Wg44 Wz44 Ww44 Wr44 hc) (cwV 2 hts gX8_loadNecklace_X3_begin rfl rfl rfl (by decide +kernel) ⟨(Nat.le_of_ble_eq_true rfl), (Nat.le_of_ble_eq_true rfl)⟩) ⟨gP_blind, va_recv hE.1 hP (ci := 3) (q0 := 3) rfl rfl, fun U hU hW => ⟨rfl, by rw [hU]; exact hP.sub (ws' := (w_13 q cI cJ cD Wg Wz Ww Wr)) [3] rfl, gEv.warm hW hE⟩⟩ rfl rfl hl.1 rfl (lv_room (Nat.le_of_ble_eq_true rfl)) dX8_loadNecklace_44 ⟨Nat.zero_le _, Nat.zero_le _⟩) hP hS (gSub rfl) rfl rfl rfl rfl rfl (fun H locs hP hS => ?_)
      refine lv_iconst (v := (0 : Int32)) hx hb dX8_loadNecklace_47 (by decide) ?_
      refine lv_istore (lv' := [(4, .int (0 : Int32)), (0, .ref (q 0)), (1, .int p1), (2, .int p2), (3, .int p3)]) hx hb dX8_loadNecklace_48 hl (by decide) rfl (fun ls hl => ?_)
      exact K50 N Tn Ta Wg44 Wz44 Ww44 Wr44 p2 p3 (0 : Int32) hf _ _ hP hS _ (lv_sub hl [1, 3, 4, 0] rfl)
    · have hf := (if_neg c_3).symm.trans hf
      exact J28 Tn Ta Wg Wz Ww Wr hf _ _ hP hS _ (lv_sub hl [] rfl)
set_option maxHeartbeats 4000000 in
set_option maxRecDepth 100000 in
theorem kX8_length (l : Launch) (D : va_G) (cI cJ cD : ClassId) (q : Nat → Nat) (hq : gInj 14 q) (N : Nat) (Tn : Int32) (r0 : Int32) (hf : fX8_length N Tn = some r0) : Met l yX8_length wsX8_length rX8_length (gP D cI cJ cD [.ref (q 0)] (w_0_1 q cI cJ cD Tn)) (gQ D (some (.int r0)) (w_0_1 q cI cJ cD Tn) (gA q [0, 1])) 0 0 (gA q [0, 1]) := by
  refine Met.ofW (cc := cX8_length) (maxL := 1) (ret := (some .int)) (by decide +kernel) rfl ?_
  intro p e s m args below meth c s₁ B hml hv
  obtain ⟨rfl, hP, hE⟩ := hv
  have hx := B.exec
  have hb := B.bytes
  have hr := B.returns
  have hts := atoms_spec (ws := wsX8_length) B.pre
  have hown : s.vm.findClass RX8 = some m.cls := findClass_of_methodNamed B.named
  have hlocks := B.notSynchronized
  have hS : va_S (gA q [0, 1]) s.heap s.heap [] := va_S.rf
  have hl := lv_entry ([.ref (q 0)]) (n := 1) (Nat.le_of_ble_eq_true rfl)
  rw [lg_entry_eq]
  generalize (lg_sl ([.ref (q 0)]) ++ List.replicate (1 - (lg_sl ([.ref (q 0)])).length) Slot.unset).toArray = ls at hl ⊢
  have hl : lv_has ls 1 [(0, .ref (q 0))] := hl
  have hk10 := hts (.fieldLink RX8 10 "LyndonText" "text" "LLyndonText$Letters;") (by decide +kernel)
  have huX8 : ∀ w ∈ u_ws RX8 TX8 6, w ∈ wsX8_length := by decide +kernel
  unfold fX8_length at hf
  refine lv_aload_n hx hb dX8_length_0 rfl (lv_at hl 0 rfl) ?_
  refine va_get (D := D) (ci := 6) (v := .ref (q 1)) (C := RX8) (T := TX8) (N := 6) hx hb hts huX8 hown hE.1 hP 0 rfl rfl 0 (by decide) hk10 (fun _ h9 => h9) rfl dX8_length_1 ?_
  obtain ⟨r4, hc, hf⟩ := bn_some hf
  try dsimp only at hf
  refine g_call0 (ws' := (w_0_1 q cI cJ cD Tn)) (st1 := [.int r4]) hq [0, 1] [1] [.inr 0, .inl 0] (va_runV (As := []) (rest := []) ⟨hx, hb, hml, hown, hts⟩ (kX2_count l D cI cJ cD q hq N Tn r4 hc) (cwV 0 hts gX8_length_X2_count rfl rfl rfl (by decide +kernel) ⟨(Nat.le_of_ble_eq_true rfl), (Nat.le_of_ble_eq_true rfl)⟩) ⟨gP_blind, va_recv hE.1 hP (ci := 2) (q0 := 1) rfl rfl, fun U hU hW => ⟨rfl, by rw [hU]; exact hP.sub (ws' := (w_1 q cI cJ cD Tn)) [1] rfl, gEv.warm hW hE⟩⟩ rfl rfl hl.1 rfl (lv_room (Nat.le_of_ble_eq_true rfl)) dX8_length_4 ⟨Nat.zero_le _, Nat.zero_le _⟩) hP hS (gSub rfl) rfl rfl rfl rfl rfl (fun H locs hP hS => ?_)
  cases hf
  exact W.iret hx hb hr (fun t ht hW => ⟨⟨rfl, by rw [ht]; exact hP⟩, hS.F ht⟩) hS.2.2 dX8_length_7
set_option maxHeartbeats 4000000 in
set_option maxRecDepth 100000 in
theorem kX8_letterAt (l : Launch) (D : va_G) (cI cJ cD : ClassId) (q : Nat → Nat) (hq : gInj 14 q) (N : Nat) (Tn : Int32) (Ta : (Nat → Int32)) (p1 : Int32) (r0 : Int32) (hf : fX8_letterAt N Tn Ta p1 = some (.inr r0)) : Met l yX8_letterAt wsX8_letterAt rX8_letterAt (gP D cI cJ cD [.ref (q 0), .int p1] (w_0_1_2 q cI cJ cD Tn Ta)) (gQ D (some (.int r0)) (w_0_1_2 q cI cJ cD Tn Ta) (gA q [0, 1, 2])) 0 0 (gA q [0, 1, 2]) := by
  refine Met.ofW (cc := cX8_letterAt) (maxL := 2) (ret := (some .int)) (by decide +kernel) rfl ?_
  intro p e s m args below meth c s₁ B hml hv
  obtain ⟨rfl, hP, hE⟩ := hv
  have hx := B.exec
  have hb := B.bytes
  have hr := B.returns
  have hts := atoms_spec (ws := wsX8_letterAt) B.pre
  have hown : s.vm.findClass RX8 = some m.cls := findClass_of_methodNamed B.named
  have hlocks := B.notSynchronized
  have hS : va_S (gA q [0, 1, 2]) s.heap s.heap [] := va_S.rf
  have hl := lv_entry ([.ref (q 0), .int p1]) (n := 2) (Nat.le_of_ble_eq_true rfl)
  rw [lg_entry_eq]
  generalize (lg_sl ([.ref (q 0), .int p1]) ++ List.replicate (2 - (lg_sl ([.ref (q 0), .int p1])).length) Slot.unset).toArray = ls at hl ⊢
  have hl : lv_has ls 2 [(0, .ref (q 0)), (1, .int p1)] := hl
  have hk10 := hts (.fieldLink RX8 10 "LyndonText" "text" "LLyndonText$Letters;") (by decide +kernel)
  have huX8 : ∀ w ∈ u_ws RX8 TX8 6, w ∈ wsX8_letterAt := by decide +kernel
  unfold fX8_letterAt at hf
  refine lv_iload_n hx hb dX8_letterAt_0 rfl (lv_at hl 1 rfl) ?_
  refine lv_aload_n hx hb dX8_letterAt_1 rfl (lv_at hl 0 rfl) ?_
  refine va_get (D := D) (ci := 6) (v := .ref (q 1)) (C := RX8) (T := TX8) (N := 6) hx hb hts huX8 hown hE.1 hP 0 rfl rfl 0 (by decide) hk10 (fun _ h9 => h9) rfl dX8_letterAt_2 ?_
  obtain ⟨r5, hc, hf⟩ := bn_some hf
  try dsimp only at hf
  refine g_call0 (ws' := (w_0_1_2 q cI cJ cD Tn Ta)) (st1 := [.int r5, .int p1]) hq [0, 1, 2] [1] [.inr 0, .inl 0, .inr 2] (va_runV (As := []) (rest := [.int p1]) ⟨hx, hb, hml, hown, hts⟩ (kX2_count l D cI cJ cD q hq N Tn r5 hc) (cwV 0 hts gX8_letterAt_X2_count rfl rfl rfl (by decide +kernel) ⟨(Nat.le_of_ble_eq_true rfl), (Nat.le_of_ble_eq_true rfl)⟩) ⟨gP_blind, va_recv hE.1 hP (ci := 2) (q0 := 1) rfl rfl, fun U hU hW => ⟨rfl, by rw [hU]; exact hP.sub (ws' := (w_1 q cI cJ cD Tn)) [1] rfl, gEv.warm hW hE⟩⟩ rfl rfl hl.1 rfl (lv_room (Nat.le_of_ble_eq_true rfl)) dX8_letterAt_5 ⟨Nat.zero_le _, Nat.zero_le _⟩) hP hS (gSub rfl) rfl rfl rfl rfl rfl (fun H locs hP hS => ?_)
  rcases bx_some hf with ⟨e8, hc, hf⟩ | ⟨⟨⟩, hc, hf⟩
  · exact nomatch hf
  try dsimp only at hf
  refine g_call0 (ws' := (w_0_1_2 q cI cJ cD Tn Ta)) (st1 := []) hq [0, 1, 2] [] [.inr 0, .inr 1, .inr 2] (va_runS (As := [.int p1, .int r5]) (rest := []) ⟨hx, hb, hml, hown, hts⟩ (kX8_checkIndex l D cI cJ cD q hq N p1 r5 hc) (va_cwS 2 hts gX8_letterAt_X8_checkIndex rfl rfl rfl (by decide +kernel) ⟨(Nat.le_of_ble_eq_true rfl), (Nat.le_of_ble_eq_true rfl)⟩) ⟨gP_blind, fun U hU hW => ⟨rfl, by rw [hU]; exact hP.sub (ws' := (w_0none q cI cJ cD)) [] rfl, gEv.warm hW hE⟩⟩ rfl rfl hl.1 rfl (lv_room (Nat.le_of_ble_eq_true rfl)) dX8_letterAt_8 ⟨Nat.zero_le _, Nat.zero_le _⟩) hP hS (gSub rfl) rfl rfl rfl rfl rfl (fun H locs hP hS => ?_)
  refine lv_aload_n hx hb dX8_letterAt_11 rfl (lv_at hl 0 rfl) ?_
  refine va_get (D := D) (ci := 6) (v := .ref (q 1)) (C := RX8) (T := TX8) (N := 6) hx hb hts huX8 hown hE.1 hP 0 rfl rfl 0 (by decide) hk10 (fun _ h9 => h9) rfl dX8_letterAt_12 ?_
  refine lv_iload_n hx hb dX8_letterAt_15 rfl (lv_at hl 1 rfl) ?_
  obtain ⟨r16, hc, hf⟩ := bn_some hf
  try dsimp only at hf
  refine g_call0 (ws' := (w_0_1_2 q cI cJ cD Tn Ta)) (st1 := [.int r16]) hq [0, 1, 2] [1, 2] [.inr 0, .inl 0, .inl 1] (va_runV (As := [.int p1]) (rest := []) ⟨hx, hb, hml, hown, hts⟩ (kX2_letter l D cI cJ cD q hq N Tn Ta p1 r16 hc) (cwV 1 hts gX8_letterAt_X2_letter rfl rfl rfl (by decide +kernel) ⟨(Nat.le_of_ble_eq_true rfl), (Nat.le_of_ble_eq_true rfl)⟩) ⟨gP_blind, va_recv hE.1 hP (ci := 2) (q0 := 1) rfl rfl, fun U hU hW => ⟨rfl, by rw [hU]; exact hP.sub (ws' := (w_1_2 q cI cJ cD Tn Ta)) [1, 2] rfl, gEv.warm hW hE⟩⟩ rfl rfl hl.1 rfl (lv_room (Nat.le_of_ble_eq_true rfl)) dX8_letterAt_16 ⟨Nat.zero_le _, Nat.zero_le _⟩) hP hS (gSub rfl) rfl rfl rfl rfl rfl (fun H locs hP hS => ?_)
  cases hf
  exact W.iret hx hb hr (fun t ht hW => ⟨⟨rfl, by rw [ht]; exact hP⟩, hS.F ht⟩) hS.2.2 dX8_letterAt_19
set_option maxHeartbeats 4000000 in
set_option maxRecDepth 100000 in
theorem kX8_letterAtx (l : Launch) (hlt : l.stackTraces = false) (D : va_G) (cI cJ cD : ClassId) (sa : Nat → Nat) (q : Nat → Nat) (hq : gInj 14 q) (N : Nat) (Tn : Int32) (Ta : (Nat → Int32)) (p1 : Int32) (e0 : Nat) (hf : fX8_letterAt N Tn Ta p1 = some (.inl e0)) : vx_Met l yX8_letterAt wsX8_letterAt rX8_letterAtx (gPx D cI cJ cD sa (gA q [0, 1, 2]) [.ref (q 0), .int p1] (w_0_1_2 q cI cJ cD Tn Ta)) (fun _ _ _ _ => False) (gX D (gEn e0) (w_0_1_2 q cI cJ cD Tn Ta) (gA q [0, 1, 2])) 1 6 (gA q [0, 1, 2]) := by
  refine vx_ofW (cc := cX8_letterAt) (maxL := 2) (ret := (some .int)) (by decide +kernel) rfl ?_
  intro p e s m args below meth c s₁ B hml htab hv
  obtain ⟨rfl, hP, hE, hXe⟩ := hv
  have hx := B.exec
  have hb := B.bytes
  have hr := B.returns
  have hts := atoms_spec (ws := wsX8_letterAt) B.pre
  have hown : s.vm.findClass RX8 = some m.cls := findClass_of_methodNamed B.named
  have hlocks := B.notSynchronized
  have hS : va_S (gA q [0, 1, 2]) s.heap s.heap [] := va_S.rf
  have hl := lv_entry ([.ref (q 0), .int p1]) (n := 2) (Nat.le_of_ble_eq_true rfl)
  rw [lg_entry_eq]
  generalize (lg_sl ([.ref (q 0), .int p1]) ++ List.replicate (2 - (lg_sl ([.ref (q 0), .int p1])).length) Slot.unset).toArray = ls at hl ⊢
  have hl : lv_has ls 2 [(0, .ref (q 0)), (1, .int p1)] := hl
  have hk10 := hts (.fieldLink RX8 10 "LyndonText" "text" "LLyndonText$Letters;") (by decide +kernel)
  have huX8 : ∀ w ∈ u_ws RX8 TX8 6, w ∈ wsX8_letterAt := by decide +kernel
  unfold fX8_letterAt at hf
  refine lv_iload_n hx hb dX8_letterAt_0 rfl (lv_at hl 1 rfl) ?_
  refine lv_aload_n hx hb dX8_letterAt_1 rfl (lv_at hl 0 rfl) ?_
  refine va_get (D := D) (ci := 6) (v := .ref (q 1)) (C := RX8) (T := TX8) (N := 6) hx hb hts huX8 hown hE.1 hP 0 rfl rfl 0 (by decide) hk10 (fun _ h9 => h9) rfl dX8_letterAt_2 ?_
  obtain ⟨r5, hc, hf⟩ := bn_some hf
  try dsimp only at hf
  refine g_call0 (ws' := (w_0_1_2 q cI cJ cD Tn Ta)) (st1 := [.int r5, .int p1]) hq [0, 1, 2] [1] [.inr 0, .inl 0, .inr 2] (va_runV (As := []) (rest := [.int p1]) ⟨hx, hb, hml, hown, hts⟩ (kX2_count l D cI cJ cD q hq N Tn r5 hc) (cwV 0 hts gX8_letterAt_X2_count rfl rfl rfl (by decide +kernel) ⟨(Nat.le_of_ble_eq_true rfl), (Nat.le_of_ble_eq_true rfl)⟩) ⟨gP_blind, va_recv hE.1 hP (ci := 2) (q0 := 1) rfl rfl, fun U hU hW => ⟨rfl, by rw [hU]; exact hP.sub (ws' := (w_1 q cI cJ cD Tn)) [1] rfl, gEv.warm hW hE⟩⟩ rfl rfl hl.1 rfl (lv_room (Nat.le_of_ble_eq_true rfl)) dX8_letterAt_5 ⟨Nat.zero_le _, Nat.zero_le _⟩) hP hS (gSub rfl) rfl rfl rfl rfl rfl (fun H locs hP hS => ?_)
  rcases bx_some hf with ⟨e8, hc, hf⟩ | ⟨⟨⟩, hc, hf⟩
  · try dsimp only at hf
    refine g_callX (ws' := (w_0_1_2 q cI cJ cD Tn Ta)) hq [0, 1, 2] [] [.inr 0, .inr 1, .inr 2] (vx_runS (As := [.int p1, .int r5]) (rest := []) ⟨hx, hb, hml, hown, hts⟩ (kX8_checkIndexx l hlt D cI cJ cD sa q hq N p1 r5 e8 hc) (va_cwS 2 hts gX8_letterAt_X8_checkIndex rfl rfl rfl (by decide +kernel) ⟨(Nat.le_of_ble_eq_true rfl), (Nat.le_of_ble_eq_true rfl)⟩) ⟨gPx_blind, fun U hU hW => ⟨rfl, by rw [hU]; exact hP.sub (ws' := (w_0none q cI cJ cD)) [] rfl, gEv.warm hW hE, gXe.go hW hS (gMono rfl) hXe hU⟩⟩ rfl rfl hl.1 rfl (lv_room (Nat.le_of_ble_eq_true rfl)) dX8_letterAt_8 ⟨(Nat.le_of_ble_eq_true rfl), (Nat.le_of_ble_eq_true rfl)⟩) hP hS (gSub rfl) rfl rfl rfl rfl (fun ce q9 H locs hP hS hce hcv hcl => ?_)
    cases hf
    exact vx_out (fun x9 hx9 => (htab x9 hx9).elim) hlocks hce hcv hcl (fun t ht hv => ⟨rfl, by rw [ht]; exact hP, hS.F ht⟩) hS.2.2 (Nat.le_of_ble_eq_true rfl) (Nat.le_of_ble_eq_true rfl)
  try dsimp only at hf
  refine g_call0 (ws' := (w_0_1_2 q cI cJ cD Tn Ta)) (st1 := []) hq [0, 1, 2] [] [.inr 0, .inr 1, .inr 2] (va_runS (As := [.int p1, .int r5]) (rest := []) ⟨hx, hb, hml, hown, hts⟩ (kX8_checkIndex l D cI cJ cD q hq N p1 r5 hc) (va_cwS 2 hts gX8_letterAt_X8_checkIndex rfl rfl rfl (by decide +kernel) ⟨(Nat.le_of_ble_eq_true rfl), (Nat.le_of_ble_eq_true rfl)⟩) ⟨gP_blind, fun U hU hW => ⟨rfl, by rw [hU]; exact hP.sub (ws' := (w_0none q cI cJ cD)) [] rfl, gEv.warm hW hE⟩⟩ rfl rfl hl.1 rfl (lv_room (Nat.le_of_ble_eq_true rfl)) dX8_letterAt_8 ⟨Nat.zero_le _, Nat.zero_le _⟩) hP hS (gSub rfl) rfl rfl rfl rfl rfl (fun H locs hP hS => ?_)
  refine lv_aload_n hx hb dX8_letterAt_11 rfl (lv_at hl 0 rfl) ?_
  refine va_get (D := D) (ci := 6) (v := .ref (q 1)) (C := RX8) (T := TX8) (N := 6) hx hb hts huX8 hown hE.1 hP 0 rfl rfl 0 (by decide) hk10 (fun _ h9 => h9) rfl dX8_letterAt_12 ?_
  refine lv_iload_n hx hb dX8_letterAt_15 rfl (lv_at hl 1 rfl) ?_
  obtain ⟨r16, hc, hf⟩ := bn_some hf
  try dsimp only at hf
  refine g_call0 (ws' := (w_0_1_2 q cI cJ cD Tn Ta)) (st1 := [.int r16]) hq [0, 1, 2] [1, 2] [.inr 0, .inl 0, .inl 1] (va_runV (As := [.int p1]) (rest := []) ⟨hx, hb, hml, hown, hts⟩ (kX2_letter l D cI cJ cD q hq N Tn Ta p1 r16 hc) (cwV 1 hts gX8_letterAt_X2_letter rfl rfl rfl (by decide +kernel) ⟨(Nat.le_of_ble_eq_true rfl), (Nat.le_of_ble_eq_true rfl)⟩) ⟨gP_blind, va_recv hE.1 hP (ci := 2) (q0 := 1) rfl rfl, fun U hU hW => ⟨rfl, by rw [hU]; exact hP.sub (ws' := (w_1_2 q cI cJ cD Tn Ta)) [1, 2] rfl, gEv.warm hW hE⟩⟩ rfl rfl hl.1 rfl (lv_room (Nat.le_of_ble_eq_true rfl)) dX8_letterAt_16 ⟨Nat.zero_le _, Nat.zero_le _⟩) hP hS (gSub rfl) rfl rfl rfl rfl rfl (fun H locs hP hS => ?_)
  exact nomatch hf
set_option maxHeartbeats 4000000 in
set_option maxRecDepth 100000 in
theorem kX8_compare (l : Launch) (D : va_G) (cI cJ cD : ClassId) (q : Nat → Nat) (hq : gInj 14 q) (N : Nat) (Tn : Int32) (Ta : (Nat → Int32)) (p1 : Int32) (p2 : Int32) (p3 : Int32) (p4 : Int32) (r0 : Int32) (hf : fX8_compare N Tn Ta p1 p2 p3 p4 = some (.inr r0)) : Met l yX8_compare wsX8_compare rX8_compare (gP D cI cJ cD [.ref (q 0), .int p1, .int p2, .int p3, .int p4] (w_0_1_2 q cI cJ cD Tn Ta)) (gQ D (some (.int r0)) (w_0_1_2 q cI cJ cD Tn Ta) (gA q [0, 1, 2])) 0 0 (gA q [0, 1, 2]) := by
  refine Met.ofW (cc := cX8_compare) (maxL := 7) (ret := (some .int)) (by decide +kernel) rfl ?_
  intro p e s m args below meth c s₁ B hml hv
  obtain ⟨rfl, hP, hE⟩ := hv
  have hx := B.exec
  have hb := B.bytes
  have hr := B.returns
  have hts := atoms_spec (ws := wsX8_compare) B.pre
  have hown : s.vm.findClass RX8 = some m.cls := findClass_of_methodNamed B.named
  have hlocks := B.notSynchronized
  have hS : va_S (gA q [0, 1, 2]) s.heap s.heap [] := va_S.rf
  have hl := lv_entry ([.ref (q 0), .int p1, .int p2, .int p3, .int p4]) (n := 7) (Nat.le_of_ble_eq_true rfl)
  rw [lg_entry_eq]
  generalize (lg_sl ([.ref (q 0), .int p1, .int p2, .int p3, .int p4]) ++ List.replicate (7 - (lg_sl ([.ref (q 0), .int p1, .int p2, .int p3, .int p4])).length) Slot.unset).toArray = ls at hl ⊢
  have hl : lv_has ls 7 [(0, .ref (q 0)), (1, .int p1), (2, .int p2), (3, .int p3), (4, .int p4)] := hl
  have hk10 := hts (.fieldLink RX8 10 "LyndonText" "text" "LLyndonText$Letters;") (by decide +kernel)
  have huX8 : ∀ w ∈ u_ws RX8 TX8 6, w ∈ wsX8_compare := by decide +kernel
  unfold fX8_compare at hf
  refine lv_aload_n hx hb dX8_compare_0 rfl (lv_at hl 0 rfl) ?_
  refine lv_iload_n hx hb dX8_compare_1 rfl (lv_at hl 1 rfl) ?_
  refine lv_iload_n hx hb dX8_compare_2 rfl (lv_at hl 2 rfl) ?_
  rcases bx_some hf with ⟨e3, hc, hf⟩ | ⟨⟨⟩, hc, hf⟩
  · exact nomatch hf
  try dsimp only at hf
  refine g_call0 (ws' := (w_0_1_2 q cI cJ cD Tn Ta)) (st1 := []) hq [0, 1, 2] [0, 1] [.inl 0, .inl 1, .inr 2] (va_runV (As := [.int p1, .int p2]) (rest := []) ⟨hx, hb, hml, hown, hts⟩ (kX8_checkPart l D cI cJ cD q hq N Tn p1 p2 hc) (cwV 2 hts gX8_compare_X8_checkPart rfl rfl rfl (by decide +kernel) ⟨(Nat.le_of_ble_eq_true rfl), (Nat.le_of_ble_eq_true rfl)⟩) ⟨gP_blind, va_recv hE.1 hP (ci := 6) (q0 := 0) rfl rfl, fun U hU hW => ⟨rfl, by rw [hU]; exact hP.sub (ws' := (w_0_1 q cI cJ cD Tn)) [0, 1] rfl, gEv.warm hW hE⟩⟩ rfl rfl hl.1 rfl (lv_room (Nat.le_of_ble_eq_true rfl)) dX8_compare_3 ⟨Nat.zero_le _, Nat.zero_le _⟩) hP hS (gSub rfl) rfl rfl rfl rfl rfl (fun H locs hP hS => ?_)
  refine lv_aload_n hx hb dX8_compare_6 rfl (lv_at hl 0 rfl) ?_
  refine lv_iload_n hx hb dX8_compare_7 rfl (lv_at hl 3 rfl) ?_
  refine lv_iload hx hb dX8_compare_8 (lv_at hl 4 rfl) ?_
  rcases bx_some hf with ⟨e10, hc, hf⟩ | ⟨⟨⟩, hc, hf⟩
  · exact nomatch hf
  try dsimp only at hf
  refine g_call0 (ws' := (w_0_1_2 q cI cJ cD Tn Ta)) (st1 := []) hq [0, 1, 2] [0, 1] [.inl 0, .inl 1, .inr 2] (va_runV (As := [.int p3, .int p4]) (rest := []) ⟨hx, hb, hml, hown, hts⟩ (kX8_checkPart l D cI cJ cD q hq N Tn p3 p4 hc) (cwV 2 hts gX8_compare_X8_checkPart rfl rfl rfl (by decide +kernel) ⟨(Nat.le_of_ble_eq_true rfl), (Nat.le_of_ble_eq_true rfl)⟩) ⟨gP_blind, va_recv hE.1 hP (ci := 6) (q0 := 0) rfl rfl, fun U hU hW => ⟨rfl, by rw [hU]; exact hP.sub (ws' := (w_0_1 q cI cJ cD Tn)) [0, 1] rfl, gEv.warm hW hE⟩⟩ rfl rfl hl.1 rfl (lv_room (Nat.le_of_ble_eq_true rfl)) dX8_compare_10 ⟨Nat.zero_le _, Nat.zero_le _⟩) hP hS (gSub rfl) rfl rfl rfl rfl rfl (fun H locs hP hS => ?_)
  refine lv_iload_n hx hb dX8_compare_13 rfl (lv_at hl 2 rfl) ?_
  refine lv_iload_n hx hb dX8_compare_14 rfl (lv_at hl 1 rfl) ?_
  refine lv_isub hx hb dX8_compare_15 ?_
  refine lv_iload hx hb dX8_compare_16 (lv_at hl 4 rfl) ?_
  refine lv_iload_n hx hb dX8_compare_18 rfl (lv_at hl 3 rfl) ?_
  refine lv_isub hx hb dX8_compare_19 ?_
  refine va_mmin hx hb (hml.trans hl.1.symm) hown (hts (.methodLink RX8 130 Lib.Math.min.name) (by decide +kernel)) (hts (.static Lib.Math.min.name) (by decide +kernel)) (hts (.initialized "java/lang/Math") (by decide +kernel)) (hts (.code Lib.Math.min.name Lib.Math.min.code 2 (some .int)) (by decide +kernel)) (Nat.le_of_ble_eq_true rfl) (Nat.le_of_ble_eq_true rfl) (Nat.zero_le _) (Nat.zero_le _) dX8_compare_20 ?_
  refine lv_istore (lv' := [(5, .int (if (p4 - p3) < (p2 - p1) then (p4 - p3) else (p2 - p1))), (0, .ref (q 0)), (1, .int p1), (2, .int p2), (3, .int p3), (4, .int p4)]) hx hb dX8_compare_23 hl (by decide) rfl (fun ls hl => ?_)
  refine lv_aload_n hx hb dX8_compare_25 rfl (lv_at hl 1 rfl) ?_
  refine va_get (D := D) (ci := 6) (v := .ref (q 1)) (C := RX8) (T := TX8) (N := 6) hx hb hts huX8 hown hE.1 hP 0 rfl rfl 0 (by decide) hk10 (fun _ h9 => h9) rfl dX8_compare_26 ?_
  refine lv_iload_n hx hb dX8_compare_29 rfl (lv_at hl 2 rfl) ?_
  refine lv_iload_n hx hb dX8_compare_30 rfl (lv_at hl 4 rfl) ?_
  obtain ⟨r31, hc, hf⟩ := bn_some hf
  try dsimp only at hf
  refine g_call0 (ws' := (w_0_1_2 q cI cJ cD Tn Ta)) (st1 := [.int r31]) hq [0, 1, 2] [1, 2] [.inr 0, .inl 0, .inl 1] (va_runV (As := [.int p1, .int p3]) (rest := []) ⟨hx, hb, hml, hown, hts⟩ (kX2_countSame l D cI cJ cD q hq N Tn Ta p1 p3 r31 hc) (cwV 2 hts gX8_compare_X2_countSame rfl rfl rfl (by decide +kernel) ⟨(Nat.le_of_ble_eq_true rfl), (Nat.le_of_ble_eq_true rfl)⟩) ⟨gP_blind, va_recv hE.1 hP (ci := 2) (q0 := 1) rfl rfl, fun U hU hW => ⟨rfl, by rw [hU]; exact hP.sub (ws' := (w_1_2 q cI cJ cD Tn Ta)) [1, 2] rfl, gEv.warm hW hE⟩⟩ rfl rfl hl.1 rfl (lv_room (Nat.le_of_ble_eq_true rfl)) dX8_compare_31 ⟨Nat.zero_le _, Nat.zero_le _⟩) hP hS (gSub rfl) rfl rfl rfl rfl rfl (fun H locs hP hS => ?_)
  refine lv_istore (lv' := [(6, .int r31), (5, .int (if (p4 - p3) < (p2 - p1) then (p4 - p3) else (p2 - p1))), (0, .ref (q 0)), (1, .int p1), (2, .int p2), (3, .int p3), (4, .int p4)]) hx hb dX8_compare_34 hl (by decide) rfl (fun ls hl => ?_)
  refine lv_iload hx hb dX8_compare_36 (lv_at hl 0 rfl) ?_
  refine lv_iload hx hb dX8_compare_38 (lv_at hl 1 rfl) ?_
  refine lv_icmp_ge (tgt := 69) hx hb dX8_compare_40 (by decide) (fun c_1 => ?_) (fun c_1 => ?_)
  · have hf := (if_pos c_1).symm.trans hf
    refine lv_iload_n hx hb dX8_compare_69 rfl (lv_at hl 4 rfl) ?_
    refine lv_iload_n hx hb dX8_compare_70 rfl (lv_at hl 3 rfl) ?_
    refine lv_isub hx hb dX8_compare_71 ?_
    refine lv_iload hx hb dX8_compare_72 (lv_at hl 6 rfl) ?_
    refine lv_iload_n hx hb dX8_compare_74 rfl (lv_at hl 5 rfl) ?_
    refine lv_isub hx hb dX8_compare_75 ?_
    obtain ⟨r76, hc, hf⟩ := bn_some hf
    try dsimp only at hf
    refine g_call0 (ws' := (w_0_1_2 q cI cJ cD Tn Ta)) (st1 := [.int r76]) hq [0, 1, 2] [] [.inr 0, .inr 1, .inr 2] (va_runS (As := [.int (p2 - p1), .int (p4 - p3)]) (rest := []) ⟨hx, hb, hml, hown, hts⟩ (kJ6_compare_7cf53 l D cI cJ cD q hq N (p2 - p1) (p4 - p3) r76 hc) (va_cwS 2 hts gX8_compare_J6_compare_7cf53 rfl rfl rfl (by decide +kernel) ⟨(Nat.le_of_ble_eq_true rfl), (Nat.le_of_ble_eq_true rfl)⟩) ⟨gP_blind, fun U hU hW => ⟨rfl, by rw [hU]; exact hP.sub (ws' := (w_0none q cI cJ cD)) [] rfl, gEv.warm hW hE⟩⟩ rfl rfl hl.1 rfl (lv_room (Nat.le_of_ble_eq_true rfl)) dX8_compare_76 ⟨Nat.zero_le _, Nat.zero_le _⟩) hP hS (gSub rfl) rfl rfl rfl rfl rfl (fun H locs hP hS => ?_)
    cases hf
    exact W.iret hx hb hr (fun t ht hW => ⟨⟨rfl, by rw [ht]; exact hP⟩, hS.F ht⟩) hS.2.2 dX8_compare_79
  · have hf := (if_neg c_1).symm.trans hf
    refine lv_aload_n hx hb dX8_compare_43 rfl (lv_at hl 2 rfl) ?_
    refine va_get (D := D) (ci := 6) (v := .ref (q 1)) (C := RX8) (T := TX8) (N := 6) hx hb hts huX8 hown hE.1 hP 0 rfl rfl 0 (by decide) hk10 (fun _ h9 => h9) rfl dX8_compare_44 ?_
    refine lv_iload_n hx hb dX8_compare_47 rfl (lv_at hl 3 rfl) ?_
    refine lv_iload hx hb dX8_compare_48 (lv_at hl 0 rfl) ?_
    refine lv_iadd hx hb dX8_compare_50 ?_
    obtain ⟨r51, hc, hf⟩ := bn_some hf
    try dsimp only at hf
    refine g_call0 (ws' := (w_0_1_2 q cI cJ cD Tn Ta)) (st1 := [.int r51]) hq [0, 1, 2] [1, 2] [.inr 0, .inl 0, .inl 1] (va_runV (As := [.int (p1 + r31)]) (rest := []) ⟨hx, hb, hml, hown, hts⟩ (kX2_letter l D cI cJ cD q hq N Tn Ta (p1 + r31) r51 hc) (cwV 1 hts gX8_compare_X2_letter rfl rfl rfl (by decide +kernel) ⟨(Nat.le_of_ble_eq_true rfl), (Nat.le_of_ble_eq_true rfl)⟩) ⟨gP_blind, va_recv hE.1 hP (ci := 2) (q0 := 1) rfl rfl, fun U hU hW => ⟨rfl, by rw [hU]; exact hP.sub (ws' := (w_1_2 q cI cJ cD Tn Ta)) [1, 2] rfl, gEv.warm hW hE⟩⟩ rfl rfl hl.1 rfl (lv_room (Nat.le_of_ble_eq_true rfl)) dX8_compare_51 ⟨Nat.zero_le _, Nat.zero_le _⟩) hP hS (gSub rfl) rfl rfl rfl rfl rfl (fun H locs hP hS => ?_)
    refine lv_aload_n hx hb dX8_compare_54 rfl (lv_at hl 2 rfl) ?_
    refine va_get (D := D) (ci := 6) (v := .ref (q 1)) (C := RX8) (T := TX8) (N := 6) hx hb hts huX8 hown hE.1 hP 0 rfl rfl 0 (by decide) hk10 (fun _ h9 => h9) rfl dX8_compare_55 ?_
    refine lv_iload_n hx hb dX8_compare_58 rfl (lv_at hl 5 rfl) ?_
    refine lv_iload hx hb dX8_compare_59 (lv_at hl 0 rfl) ?_
    refine lv_iadd hx hb dX8_compare_61 ?_
    obtain ⟨r62, hc, hf⟩ := bn_some hf
    try dsimp only at hf
    refine g_call0 (ws' := (w_0_1_2 q cI cJ cD Tn Ta)) (st1 := [.int r62, .int r51]) hq [0, 1, 2] [1, 2] [.inr 0, .inl 0, .inl 1] (va_runV (As := [.int (p3 + r31)]) (rest := [.int r51]) ⟨hx, hb, hml, hown, hts⟩ (kX2_letter l D cI cJ cD q hq N Tn Ta (p3 + r31) r62 hc) (cwV 1 hts gX8_compare_X2_letter rfl rfl rfl (by decide +kernel) ⟨(Nat.le_of_ble_eq_true rfl), (Nat.le_of_ble_eq_true rfl)⟩) ⟨gP_blind, va_recv hE.1 hP (ci := 2) (q0 := 1) rfl rfl, fun U hU hW => ⟨rfl, by rw [hU]; exact hP.sub (ws' := (w_1_2 q cI cJ cD Tn Ta)) [1, 2] rfl, gEv.warm hW hE⟩⟩ rfl rfl hl.1 rfl (lv_room (Nat.le_of_ble_eq_true rfl)) dX8_compare_62 ⟨Nat.zero_le _, Nat.zero_le _⟩) hP hS (gSub rfl) rfl rfl rfl rfl rfl (fun H locs hP hS => ?_)
    obtain ⟨r65, hc, hf⟩ := bn_some hf
    try dsimp only at hf
    refine g_call0 (ws' := (w_0_1_2 q cI cJ cD Tn Ta)) (st1 := [.int r65]) hq [0, 1, 2] [] [.inr 0, .inr 1, .inr 2] (va_runS (As := [.int r51, .int r62]) (rest := []) ⟨hx, hb, hml, hown, hts⟩ (kJ6_compare_7cf53 l D cI cJ cD q hq N r51 r62 r65 hc) (va_cwS 2 hts gX8_compare_J6_compare_7cf53 rfl rfl rfl (by decide +kernel) ⟨(Nat.le_of_ble_eq_true rfl), (Nat.le_of_ble_eq_true rfl)⟩) ⟨gP_blind, fun U hU hW => ⟨rfl, by rw [hU]; exact hP.sub (ws' := (w_0none q cI cJ cD)) [] rfl, gEv.warm hW hE⟩⟩ rfl rfl hl.1 rfl (lv_room (Nat.le_of_ble_eq_true rfl)) dX8_compare_65 ⟨Nat.zero_le _, Nat.zero_le _⟩) hP hS (gSub rfl) rfl rfl rfl rfl rfl (fun H locs hP hS => ?_)
    cases hf
    exact W.iret hx hb hr (fun t ht hW => ⟨⟨rfl, by rw [ht]; exact hP⟩, hS.F ht⟩) hS.2.2 dX8_compare_68
set_option maxHeartbeats 4000000 in
set_option maxRecDepth 100000 in
theorem kX8_comparex (l : Launch) (hlt : l.stackTraces = false) (D : va_G) (cI cJ cD : ClassId) (sa : Nat → Nat) (q : Nat → Nat) (hq : gInj 14 q) (N : Nat) (Tn : Int32) (Ta : (Nat → Int32)) (p1 : Int32) (p2 : Int32) (p3 : Int32) (p4 : Int32) (e0 : Nat) (hf : fX8_compare N Tn Ta p1 p2 p3 p4 = some (.inl e0)) : vx_Met l yX8_compare wsX8_compare rX8_comparex (gPx D cI cJ cD sa (gA q [0, 1, 2]) [.ref (q 0), .int p1, .int p2, .int p3, .int p4] (w_0_1_2 q cI cJ cD Tn Ta)) (fun _ _ _ _ => False) (gX D (gEn e0) (w_0_1_2 q cI cJ cD Tn Ta) (gA q [0, 1, 2])) 1 6 (gA q [0, 1, 2]) := by
  refine vx_ofW (cc := cX8_compare) (maxL := 7) (ret := (some .int)) (by decide +kernel) rfl ?_
  intro p e s m args below meth c s₁ B hml htab hv
  obtain ⟨rfl, hP, hE, hXe⟩ := hv
  have hx := B.exec
  have hb := B.bytes
  have hr := B.returns
  have hts := atoms_spec (ws := wsX8_compare) B.pre
  have hown : s.vm.findClass RX8 = some m.cls := findClass_of_methodNamed B.named
  have hlocks := B.notSynchronized
  have hS : va_S (gA q [0, 1, 2]) s.heap s.heap [] := va_S.rf
  have hl := lv_entry ([.ref (q 0), .int p1, .int p2, .int p3, .int p4]) (n := 7) (Nat.le_of_ble_eq_true rfl)
  rw [lg_entry_eq]
  generalize (lg_sl ([.ref (q 0), .int p1, .int p2, .int p3, .int p4]) ++ List.replicate (7 - (lg_sl ([.ref (q 0), .int p1, .int p2, .int p3, .int p4])).length) Slot.unset).toArray = ls at hl ⊢
  have hl : lv_has ls 7 [(0, .ref (q 0)), (1, .int p1), (2, .int p2), (3, .int p3), (4, .int p4)] := hl
  have hk10 := hts (.fieldLink RX8 10 "LyndonText" "text" "LLyndonText$Letters;") (by decide +kernel)
  have huX8 : ∀ w ∈ u_ws RX8 TX8 6, w ∈ wsX8_compare := by decide +kernel
  unfold fX8_compare at hf
  refine lv_aload_n hx hb dX8_compare_0 rfl (lv_at hl 0 rfl) ?_
  refine lv_iload_n hx hb dX8_compare_1 rfl (lv_at hl 1 rfl) ?_
  refine lv_iload_n hx hb dX8_compare_2 rfl (lv_at hl 2 rfl) ?_
  rcases bx_some hf with ⟨e3, hc, hf⟩ | ⟨⟨⟩, hc, hf⟩
  · try dsimp only at hf
    refine g_callX (ws' := (w_0_1_2 q cI cJ cD Tn Ta)) hq [0, 1, 2] [0, 1] [.inl 0, .inl 1, .inr 2] (vx_runV (As := [.int p1, .int p2]) (rest := []) ⟨hx, hb, hml, hown, hts⟩ (kX8_checkPartx l hlt D cI cJ cD sa q hq N Tn p1 p2 e3 hc) (cwV 2 hts gX8_compare_X8_checkPart rfl rfl rfl (by decide +kernel) ⟨(Nat.le_of_ble_eq_true rfl), (Nat.le_of_ble_eq_true rfl)⟩) ⟨gPx_blind, va_recv hE.1 hP (ci := 6) (q0 := 0) rfl rfl, fun U hU hW => ⟨rfl, by rw [hU]; exact hP.sub (ws' := (w_0_1 q cI cJ cD Tn)) [0, 1] rfl, gEv.warm hW hE, gXe.go hW hS (gMono rfl) hXe hU⟩⟩ rfl rfl hl.1 rfl (lv_room (Nat.le_of_ble_eq_true rfl)) dX8_compare_3 ⟨(Nat.le_of_ble_eq_true rfl), (Nat.le_of_ble_eq_true rfl)⟩) hP hS (gSub rfl) rfl rfl rfl rfl (fun ce q9 H locs hP hS hce hcv hcl => ?_)
    cases hf
    exact vx_out (fun x9 hx9 => (htab x9 hx9).elim) hlocks hce hcv hcl (fun t ht hv => ⟨rfl, by rw [ht]; exact hP, hS.F ht⟩) hS.2.2 (Nat.le_of_ble_eq_true rfl) (Nat.le_of_ble_eq_true rfl)
  try dsimp only at hf
  refine g_call0 (ws' := (w_0_1_2 q cI cJ cD Tn Ta)) (st1 := []) hq [0, 1, 2] [0, 1] [.inl 0, .inl 1, .inr 2] (va_runV (As := [.int p1, .int p2]) (rest := []) ⟨hx, hb, hml, hown, hts⟩ (kX8_checkPart l D cI cJ cD q hq N Tn p1 p2 hc) (cwV 2 hts gX8_compare_X8_checkPart rfl rfl rfl (by decide +kernel) ⟨(Nat.le_of_ble_eq_true rfl), (Nat.le_of_ble_eq_true rfl)⟩) ⟨gP_blind, va_recv hE.1 hP (ci := 6) (q0 := 0) rfl rfl, fun U hU hW => ⟨rfl, by rw [hU]; exact hP.sub (ws' := (w_0_1 q cI cJ cD Tn)) [0, 1] rfl, gEv.warm hW hE⟩⟩ rfl rfl hl.1 rfl (lv_room (Nat.le_of_ble_eq_true rfl)) dX8_compare_3 ⟨Nat.zero_le _, Nat.zero_le _⟩) hP hS (gSub rfl) rfl rfl rfl rfl rfl (fun H locs hP hS => ?_)
  refine lv_aload_n hx hb dX8_compare_6 rfl (lv_at hl 0 rfl) ?_
  refine lv_iload_n hx hb dX8_compare_7 rfl (lv_at hl 3 rfl) ?_
  refine lv_iload hx hb dX8_compare_8 (lv_at hl 4 rfl) ?_
  rcases bx_some hf with ⟨e10, hc, hf⟩ | ⟨⟨⟩, hc, hf⟩
  · try dsimp only at hf
    refine g_callX (ws' := (w_0_1_2 q cI cJ cD Tn Ta)) hq [0, 1, 2] [0, 1] [.inl 0, .inl 1, .inr 2] (vx_runV (As := [.int p3, .int p4]) (rest := []) ⟨hx, hb, hml, hown, hts⟩ (kX8_checkPartx l hlt D cI cJ cD sa q hq N Tn p3 p4 e10 hc) (cwV 2 hts gX8_compare_X8_checkPart rfl rfl rfl (by decide +kernel) ⟨(Nat.le_of_ble_eq_true rfl), (Nat.le_of_ble_eq_true rfl)⟩) ⟨gPx_blind, va_recv hE.1 hP (ci := 6) (q0 := 0) rfl rfl, fun U hU hW => ⟨rfl, by rw [hU]; exact hP.sub (ws' := (w_0_1 q cI cJ cD Tn)) [0, 1] rfl, gEv.warm hW hE, gXe.go hW hS (gMono rfl) hXe hU⟩⟩ rfl rfl hl.1 rfl (lv_room (Nat.le_of_ble_eq_true rfl)) dX8_compare_10 ⟨(Nat.le_of_ble_eq_true rfl), (Nat.le_of_ble_eq_true rfl)⟩) hP hS (gSub rfl) rfl rfl rfl rfl (fun ce q9 H locs hP hS hce hcv hcl => ?_)
    cases hf
    exact vx_out (fun x9 hx9 => (htab x9 hx9).elim) hlocks hce hcv hcl (fun t ht hv => ⟨rfl, by rw [ht]; exact hP, hS.F ht⟩) hS.2.2 (Nat.le_of_ble_eq_true rfl) (Nat.le_of_ble_eq_true rfl)
  try dsimp only at hf
  refine g_call0 (ws' := (w_0_1_2 q cI cJ cD Tn Ta)) (st1 := []) hq [0, 1, 2] [0, 1] [.inl 0, .inl 1, .inr 2] (va_runV (As := [.int p3, .int p4]) (rest := []) ⟨hx, hb, hml, hown, hts⟩ (kX8_checkPart l D cI cJ cD q hq N Tn p3 p4 hc) (cwV 2 hts gX8_compare_X8_checkPart rfl rfl rfl (by decide +kernel) ⟨(Nat.le_of_ble_eq_true rfl), (Nat.le_of_ble_eq_true rfl)⟩) ⟨gP_blind, va_recv hE.1 hP (ci := 6) (q0 := 0) rfl rfl, fun U hU hW => ⟨rfl, by rw [hU]; exact hP.sub (ws' := (w_0_1 q cI cJ cD Tn)) [0, 1] rfl, gEv.warm hW hE⟩⟩ rfl rfl hl.1 rfl (lv_room (Nat.le_of_ble_eq_true rfl)) dX8_compare_10 ⟨Nat.zero_le _, Nat.zero_le _⟩) hP hS (gSub rfl) rfl rfl rfl rfl rfl (fun H locs hP hS => ?_)
  refine lv_iload_n hx hb dX8_compare_13 rfl (lv_at hl 2 rfl) ?_
  refine lv_iload_n hx hb dX8_compare_14 rfl (lv_at hl 1 rfl) ?_
  refine lv_isub hx hb dX8_compare_15 ?_
  refine lv_iload hx hb dX8_compare_16 (lv_at hl 4 rfl) ?_
  refine lv_iload_n hx hb dX8_compare_18 rfl (lv_at hl 3 rfl) ?_
  refine lv_isub hx hb dX8_compare_19 ?_
  refine va_mmin hx hb (hml.trans hl.1.symm) hown (hts (.methodLink RX8 130 Lib.Math.min.name) (by decide +kernel)) (hts (.static Lib.Math.min.name) (by decide +kernel)) (hts (.initialized "java/lang/Math") (by decide +kernel)) (hts (.code Lib.Math.min.name Lib.Math.min.code 2 (some .int)) (by decide +kernel)) (Nat.le_of_ble_eq_true rfl) (Nat.le_of_ble_eq_true rfl) (Nat.zero_le _) (Nat.zero_le _) dX8_compare_20 ?_
  refine lv_istore (lv' := [(5, .int (if (p4 - p3) < (p2 - p1) then (p4 - p3) else (p2 - p1))), (0, .ref (q 0)), (1, .int p1), (2, .int p2), (3, .int p3), (4, .int p4)]) hx hb dX8_compare_23 hl (by decide) rfl (fun ls hl => ?_)
  refine lv_aload_n hx hb dX8_compare_25 rfl (lv_at hl 1 rfl) ?_
  refine va_get (D := D) (ci := 6) (v := .ref (q 1)) (C := RX8) (T := TX8) (N := 6) hx hb hts huX8 hown hE.1 hP 0 rfl rfl 0 (by decide) hk10 (fun _ h9 => h9) rfl dX8_compare_26 ?_
  refine lv_iload_n hx hb dX8_compare_29 rfl (lv_at hl 2 rfl) ?_
  refine lv_iload_n hx hb dX8_compare_30 rfl (lv_at hl 4 rfl) ?_
  obtain ⟨r31, hc, hf⟩ := bn_some hf
  try dsimp only at hf
  refine g_call0 (ws' := (w_0_1_2 q cI cJ cD Tn Ta)) (st1 := [.int r31]) hq [0, 1, 2] [1, 2] [.inr 0, .inl 0, .inl 1] (va_runV (As := [.int p1, .int p3]) (rest := []) ⟨hx, hb, hml, hown, hts⟩ (kX2_countSame l D cI cJ cD q hq N Tn Ta p1 p3 r31 hc) (cwV 2 hts gX8_compare_X2_countSame rfl rfl rfl (by decide +kernel) ⟨(Nat.le_of_ble_eq_true rfl), (Nat.le_of_ble_eq_true rfl)⟩) ⟨gP_blind, va_recv hE.1 hP (ci := 2) (q0 := 1) rfl rfl, fun U hU hW => ⟨rfl, by rw [hU]; exact hP.sub (ws' := (w_1_2 q cI cJ cD Tn Ta)) [1, 2] rfl, gEv.warm hW hE⟩⟩ rfl rfl hl.1 rfl (lv_room (Nat.le_of_ble_eq_true rfl)) dX8_compare_31 ⟨Nat.zero_le _, Nat.zero_le _⟩) hP hS (gSub rfl) rfl rfl rfl rfl rfl (fun H locs hP hS => ?_)
  refine lv_istore (lv' := [(6, .int r31), (5, .int (if (p4 - p3) < (p2 - p1) then (p4 - p3) else (p2 - p1))), (0, .ref (q 0)), (1, .int p1), (2, .int p2), (3, .int p3), (4, .int p4)]) hx hb dX8_compare_34 hl (by decide) rfl (fun ls hl => ?_)
  refine lv_iload hx hb dX8_compare_36 (lv_at hl 0 rfl) ?_
  refine lv_iload hx hb dX8_compare_38 (lv_at hl 1 rfl) ?_
  refine lv_icmp_ge (tgt := 69) hx hb dX8_compare_40 (by decide) (fun c_1 => ?_) (fun c_1 => ?_)
  · have hf := (if_pos c_1).symm.trans hf
    refine lv_iload_n hx hb dX8_compare_69 rfl (lv_at hl 4 rfl) ?_
    refine lv_iload_n hx hb dX8_compare_70 rfl (lv_at hl 3 rfl) ?_
    refine lv_isub hx hb dX8_compare_71 ?_
    refine lv_iload hx hb dX8_compare_72 (lv_at hl 6 rfl) ?_
    refine lv_iload_n hx hb dX8_compare_74 rfl (lv_at hl 5 rfl) ?_
    refine lv_isub hx hb dX8_compare_75 ?_
    obtain ⟨r76, hc, hf⟩ := bn_some hf
    try dsimp only at hf
    refine g_call0 (ws' := (w_0_1_2 q cI cJ cD Tn Ta)) (st1 := [.int r76]) hq [0, 1, 2] [] [.inr 0, .inr 1, .inr 2] (va_runS (As := [.int (p2 - p1), .int (p4 - p3)]) (rest := []) ⟨hx, hb, hml, hown, hts⟩ (kJ6_compare_7cf53 l D cI cJ cD q hq N (p2 - p1) (p4 - p3) r76 hc) (va_cwS 2 hts gX8_compare_J6_compare_7cf53 rfl rfl rfl (by decide +kernel) ⟨(Nat.le_of_ble_eq_true rfl), (Nat.le_of_ble_eq_true rfl)⟩) ⟨gP_blind, fun U hU hW => ⟨rfl, by rw [hU]; exact hP.sub (ws' := (w_0none q cI cJ cD)) [] rfl, gEv.warm hW hE⟩⟩ rfl rfl hl.1 rfl (lv_room (Nat.le_of_ble_eq_true rfl)) dX8_compare_76 ⟨Nat.zero_le _, Nat.zero_le _⟩) hP hS (gSub rfl) rfl rfl rfl rfl rfl (fun H locs hP hS => ?_)
    exact nomatch hf
  · have hf := (if_neg c_1).symm.trans hf
    refine lv_aload_n hx hb dX8_compare_43 rfl (lv_at hl 2 rfl) ?_
    refine va_get (D := D) (ci := 6) (v := .ref (q 1)) (C := RX8) (T := TX8) (N := 6) hx hb hts huX8 hown hE.1 hP 0 rfl rfl 0 (by decide) hk10 (fun _ h9 => h9) rfl dX8_compare_44 ?_
    refine lv_iload_n hx hb dX8_compare_47 rfl (lv_at hl 3 rfl) ?_
    refine lv_iload hx hb dX8_compare_48 (lv_at hl 0 rfl) ?_
    refine lv_iadd hx hb dX8_compare_50 ?_
    obtain ⟨r51, hc, hf⟩ := bn_some hf
    try dsimp only at hf
    refine g_call0 (ws' := (w_0_1_2 q cI cJ cD Tn Ta)) (st1 := [.int r51]) hq [0, 1, 2] [1, 2] [.inr 0, .inl 0, .inl 1] (va_runV (As := [.int (p1 + r31)]) (rest := []) ⟨hx, hb, hml, hown, hts⟩ (kX2_letter l D cI cJ cD q hq N Tn Ta (p1 + r31) r51 hc) (cwV 1 hts gX8_compare_X2_letter rfl rfl rfl (by decide +kernel) ⟨(Nat.le_of_ble_eq_true rfl), (Nat.le_of_ble_eq_true rfl)⟩) ⟨gP_blind, va_recv hE.1 hP (ci := 2) (q0 := 1) rfl rfl, fun U hU hW => ⟨rfl, by rw [hU]; exact hP.sub (ws' := (w_1_2 q cI cJ cD Tn Ta)) [1, 2] rfl, gEv.warm hW hE⟩⟩ rfl rfl hl.1 rfl (lv_room (Nat.le_of_ble_eq_true rfl)) dX8_compare_51 ⟨Nat.zero_le _, Nat.zero_le _⟩) hP hS (gSub rfl) rfl rfl rfl rfl rfl (fun H locs hP hS => ?_)
    refine lv_aload_n hx hb dX8_compare_54 rfl (lv_at hl 2 rfl) ?_
    refine va_get (D := D) (ci := 6) (v := .ref (q 1)) (C := RX8) (T := TX8) (N := 6) hx hb hts huX8 hown hE.1 hP 0 rfl rfl 0 (by decide) hk10 (fun _ h9 => h9) rfl dX8_compare_55 ?_
    refine lv_iload_n hx hb dX8_compare_58 rfl (lv_at hl 5 rfl) ?_
    refine lv_iload hx hb dX8_compare_59 (lv_at hl 0 rfl) ?_
    refine lv_iadd hx hb dX8_compare_61 ?_
    obtain ⟨r62, hc, hf⟩ := bn_some hf
    try dsimp only at hf
    refine g_call0 (ws' := (w_0_1_2 q cI cJ cD Tn Ta)) (st1 := [.int r62, .int r51]) hq [0, 1, 2] [1, 2] [.inr 0, .inl 0, .inl 1] (va_runV (As := [.int (p3 + r31)]) (rest := [.int r51]) ⟨hx, hb, hml, hown, hts⟩ (kX2_letter l D cI cJ cD q hq N Tn Ta (p3 + r31) r62 hc) (cwV 1 hts gX8_compare_X2_letter rfl rfl rfl (by decide +kernel) ⟨(Nat.le_of_ble_eq_true rfl), (Nat.le_of_ble_eq_true rfl)⟩) ⟨gP_blind, va_recv hE.1 hP (ci := 2) (q0 := 1) rfl rfl, fun U hU hW => ⟨rfl, by rw [hU]; exact hP.sub (ws' := (w_1_2 q cI cJ cD Tn Ta)) [1, 2] rfl, gEv.warm hW hE⟩⟩ rfl rfl hl.1 rfl (lv_room (Nat.le_of_ble_eq_true rfl)) dX8_compare_62 ⟨Nat.zero_le _, Nat.zero_le _⟩) hP hS (gSub rfl) rfl rfl rfl rfl rfl (fun H locs hP hS => ?_)
    obtain ⟨r65, hc, hf⟩ := bn_some hf
    try dsimp only at hf
    refine g_call0 (ws' := (w_0_1_2 q cI cJ cD Tn Ta)) (st1 := [.int r65]) hq [0, 1, 2] [] [.inr 0, .inr 1, .inr 2] (va_runS (As := [.int r51, .int r62]) (rest := []) ⟨hx, hb, hml, hown, hts⟩ (kJ6_compare_7cf53 l D cI cJ cD q hq N r51 r62 r65 hc) (va_cwS 2 hts gX8_compare_J6_compare_7cf53 rfl rfl rfl (by decide +kernel) ⟨(Nat.le_of_ble_eq_true rfl), (Nat.le_of_ble_eq_true rfl)⟩) ⟨gP_blind, fun U hU hW => ⟨rfl, by rw [hU]; exact hP.sub (ws' := (w_0none q cI cJ cD)) [] rfl, gEv.warm hW hE⟩⟩ rfl rfl hl.1 rfl (lv_room (Nat.le_of_ble_eq_true rfl)) dX8_compare_65 ⟨Nat.zero_le _, Nat.zero_le _⟩) hP hS (gSub rfl) rfl rfl rfl rfl rfl (fun H locs hP hS => ?_)
    exact nomatch hf
set_option maxHeartbeats 4000000 in
set_option maxRecDepth 100000 in
theorem kX8_isLyndon (l : Launch) (D : va_G) (cI cJ cD : ClassId) (q : Nat → Nat) (hq : gInj 14 q) (N : Nat) (Tn : Int32) (Ta : (Nat → Int32)) (p1 : Int32) (p2 : Int32) (r0 : Int32) (hf : fX8_isLyndon N Tn Ta p1 p2 = some (.inr r0)) : Met l yX8_isLyndon wsX8_isLyndon rX8_isLyndon (gP D cI cJ cD [.ref (q 0), .int p1, .int p2] (w_0_1_2 q cI cJ cD Tn Ta)) (gQ D (some (.int r0)) (w_0_1_2 q cI cJ cD Tn Ta) (gA q [0, 1, 2])) 0 0 (gA q [0, 1, 2]) := by
  refine Met.ofW (cc := cX8_isLyndon) (maxL := 3) (ret := (some .boolean)) (by decide +kernel) rfl ?_
  intro p e s m args below meth c s₁ B hml hv
  obtain ⟨rfl, hP, hE⟩ := hv
  have hx := B.exec
  have hb := B.bytes
  have hr := B.returns
  have hts := atoms_spec (ws := wsX8_isLyndon) B.pre
  have hown : s.vm.findClass RX8 = some m.cls := findClass_of_methodNamed B.named
  have hlocks := B.notSynchronized
  have hS : va_S (gA q [0, 1, 2]) s.heap s.heap [] := va_S.rf
  have hl := lv_entry ([.ref (q 0), .int p1, .int p2]) (n := 3) (Nat.le_of_ble_eq_true rfl)
  rw [lg_entry_eq]
  generalize (lg_sl ([.ref (q 0), .int p1, .int p2]) ++ List.replicate (3 - (lg_sl ([.ref (q 0), .int p1, .int p2])).length) Slot.unset).toArray = ls at hl ⊢
  have hl : lv_has ls 3 [(0, .ref (q 0)), (1, .int p1), (2, .int p2)] := hl
  have hk10 := hts (.fieldLink RX8 10 "LyndonText" "text" "LLyndonText$Letters;") (by decide +kernel)
  have huX8 : ∀ w ∈ u_ws RX8 TX8 6, w ∈ wsX8_isLyndon := by decide +kernel
  unfold fX8_isLyndon at hf
  refine lv_aload_n hx hb dX8_isLyndon_0 rfl (lv_at hl 0 rfl) ?_
  refine lv_iload_n hx hb dX8_isLyndon_1 rfl (lv_at hl 1 rfl) ?_
  refine lv_iload_n hx hb dX8_isLyndon_2 rfl (lv_at hl 2 rfl) ?_
  rcases bx_some hf with ⟨e3, hc, hf⟩ | ⟨⟨⟩, hc, hf⟩
  · exact nomatch hf
  try dsimp only at hf
  refine g_call0 (ws' := (w_0_1_2 q cI cJ cD Tn Ta)) (st1 := []) hq [0, 1, 2] [0, 1] [.inl 0, .inl 1, .inr 2] (va_runV (As := [.int p1, .int p2]) (rest := []) ⟨hx, hb, hml, hown, hts⟩ (kX8_checkPart l D cI cJ cD q hq N Tn p1 p2 hc) (cwV 2 hts gX8_isLyndon_X8_checkPart rfl rfl rfl (by decide +kernel) ⟨(Nat.le_of_ble_eq_true rfl), (Nat.le_of_ble_eq_true rfl)⟩) ⟨gP_blind, va_recv hE.1 hP (ci := 6) (q0 := 0) rfl rfl, fun U hU hW => ⟨rfl, by rw [hU]; exact hP.sub (ws' := (w_0_1 q cI cJ cD Tn)) [0, 1] rfl, gEv.warm hW hE⟩⟩ rfl rfl hl.1 rfl (lv_room (Nat.le_of_ble_eq_true rfl)) dX8_isLyndon_3 ⟨Nat.zero_le _, Nat.zero_le _⟩) hP hS (gSub rfl) rfl rfl rfl rfl rfl (fun H locs hP hS => ?_)
  refine lv_aload_n hx hb dX8_isLyndon_6 rfl (lv_at hl 0 rfl) ?_
  refine va_get (D := D) (ci := 6) (v := .ref (q 1)) (C := RX8) (T := TX8) (N := 6) hx hb hts huX8 hown hE.1 hP 0 rfl rfl 0 (by decide) hk10 (fun _ h9 => h9) rfl dX8_isLyndon_7 ?_
  refine lv_iload_n hx hb dX8_isLyndon_10 rfl (lv_at hl 1 rfl) ?_
  refine lv_iload_n hx hb dX8_isLyndon_11 rfl (lv_at hl 2 rfl) ?_
  obtain ⟨r12, hc, hf⟩ := bn_some hf
  try dsimp only at hf
  refine g_call0 (ws' := (w_0_1_2 q cI cJ cD Tn Ta)) (st1 := [.int r12]) hq [0, 1, 2] [1, 2] [.inr 0, .inl 0, .inl 1] (va_runS (As := [.ref (q 1), .int p1, .int p2]) (rest := []) ⟨hx, hb, hml, hown, hts⟩ (kX1_isOneFactor l D cI cJ cD q hq N Tn Ta p1 p2 r12 hc) (va_cwS 3 hts gX8_isLyndon_X1_isOneFactor rfl rfl rfl (by decide +kernel) ⟨(Nat.le_of_ble_eq_true rfl), (Nat.le_of_ble_eq_true rfl)⟩) ⟨gP_blind, fun U hU hW => ⟨rfl, by rw [hU]; exact hP.sub (ws' := (w_1_2 q cI cJ cD Tn Ta)) [1, 2] rfl, gEv.warm hW hE⟩⟩ rfl rfl hl.1 rfl (lv_room (Nat.le_of_ble_eq_true rfl)) dX8_isLyndon_12 ⟨Nat.zero_le _, Nat.zero_le _⟩) hP hS (gSub rfl) rfl rfl rfl rfl rfl (fun H locs hP hS => ?_)
  obtain ⟨g_1, hf⟩ := gd_some hf
  cases hf
  exact W.zret (ty := .boolean) hx hb hr (isB_nar g_1) (fun t ht hW => ⟨⟨rfl, by rw [ht]; exact hP⟩, hS.F ht⟩) hS.2.2 dX8_isLyndon_15
set_option maxHeartbeats 4000000 in
set_option maxRecDepth 100000 in
theorem kX8_isLyndonx (l : Launch) (hlt : l.stackTraces = false) (D : va_G) (cI cJ cD : ClassId) (sa : Nat → Nat) (q : Nat → Nat) (hq : gInj 14 q) (N : Nat) (Tn : Int32) (Ta : (Nat → Int32)) (p1 : Int32) (p2 : Int32) (e0 : Nat) (hf : fX8_isLyndon N Tn Ta p1 p2 = some (.inl e0)) : vx_Met l yX8_isLyndon wsX8_isLyndon rX8_isLyndonx (gPx D cI cJ cD sa (gA q [0, 1, 2]) [.ref (q 0), .int p1, .int p2] (w_0_1_2 q cI cJ cD Tn Ta)) (fun _ _ _ _ => False) (gX D (gEn e0) (w_0_1_2 q cI cJ cD Tn Ta) (gA q [0, 1, 2])) 1 6 (gA q [0, 1, 2]) := by
  refine vx_ofW (cc := cX8_isLyndon) (maxL := 3) (ret := (some .boolean)) (by decide +kernel) rfl ?_
  intro p e s m args below meth c s₁ B hml htab hv
  obtain ⟨rfl, hP, hE, hXe⟩ := hv
  have hx := B.exec
  have hb := B.bytes
  have hr := B.returns
  have hts := atoms_spec (ws := wsX8_isLyndon) B.pre
  have hown : s.vm.findClass RX8 = some m.cls := findClass_of_methodNamed B.named
  have hlocks := B.notSynchronized
  have hS : va_S (gA q [0, 1, 2]) s.heap s.heap [] := va_S.rf
  have hl := lv_entry ([.ref (q 0), .int p1, .int p2]) (n := 3) (Nat.le_of_ble_eq_true rfl)
  rw [lg_entry_eq]
  generalize (lg_sl ([.ref (q 0), .int p1, .int p2]) ++ List.replicate (3 - (lg_sl ([.ref (q 0), .int p1, .int p2])).length) Slot.unset).toArray = ls at hl ⊢
  have hl : lv_has ls 3 [(0, .ref (q 0)), (1, .int p1), (2, .int p2)] := hl
  have hk10 := hts (.fieldLink RX8 10 "LyndonText" "text" "LLyndonText$Letters;") (by decide +kernel)
  have huX8 : ∀ w ∈ u_ws RX8 TX8 6, w ∈ wsX8_isLyndon := by decide +kernel
  unfold fX8_isLyndon at hf
  refine lv_aload_n hx hb dX8_isLyndon_0 rfl (lv_at hl 0 rfl) ?_
  refine lv_iload_n hx hb dX8_isLyndon_1 rfl (lv_at hl 1 rfl) ?_
  refine lv_iload_n hx hb dX8_isLyndon_2 rfl (lv_at hl 2 rfl) ?_
  rcases bx_some hf with ⟨e3, hc, hf⟩ | ⟨⟨⟩, hc, hf⟩
  · try dsimp only at hf
    refine g_callX (ws' := (w_0_1_2 q cI cJ cD Tn Ta)) hq [0, 1, 2] [0, 1] [.inl 0, .inl 1, .inr 2] (vx_runV (As := [.int p1, .int p2]) (rest := []) ⟨hx, hb, hml, hown, hts⟩ (kX8_checkPartx l hlt D cI cJ cD sa q hq N Tn p1 p2 e3 hc) (cwV 2 hts gX8_isLyndon_X8_checkPart rfl rfl rfl (by decide +kernel) ⟨(Nat.le_of_ble_eq_true rfl), (Nat.le_of_ble_eq_true rfl)⟩) ⟨gPx_blind, va_recv hE.1 hP (ci := 6) (q0 := 0) rfl rfl, fun U hU hW => ⟨rfl, by rw [hU]; exact hP.sub (ws' := (w_0_1 q cI cJ cD Tn)) [0, 1] rfl, gEv.warm hW hE, gXe.go hW hS (gMono rfl) hXe hU⟩⟩ rfl rfl hl.1 rfl (lv_room (Nat.le_of_ble_eq_true rfl)) dX8_isLyndon_3 ⟨(Nat.le_of_ble_eq_true rfl), (Nat.le_of_ble_eq_true rfl)⟩) hP hS (gSub rfl) rfl rfl rfl rfl (fun ce q9 H locs hP hS hce hcv hcl => ?_)
    cases hf
    exact vx_out (fun x9 hx9 => (htab x9 hx9).elim) hlocks hce hcv hcl (fun t ht hv => ⟨rfl, by rw [ht]; exact hP, hS.F ht⟩) hS.2.2 (Nat.le_of_ble_eq_true rfl) (Nat.le_of_ble_eq_true rfl)
  try dsimp only at hf
  refine g_call0 (ws' := (w_0_1_2 q cI cJ cD Tn Ta)) (st1 := []) hq [0, 1, 2] [0, 1] [.inl 0, .inl 1, .inr 2] (va_runV (As := [.int p1, .int p2]) (rest := []) ⟨hx, hb, hml, hown, hts⟩ (kX8_checkPart l D cI cJ cD q hq N Tn p1 p2 hc) (cwV 2 hts gX8_isLyndon_X8_checkPart rfl rfl rfl (by decide +kernel) ⟨(Nat.le_of_ble_eq_true rfl), (Nat.le_of_ble_eq_true rfl)⟩) ⟨gP_blind, va_recv hE.1 hP (ci := 6) (q0 := 0) rfl rfl, fun U hU hW => ⟨rfl, by rw [hU]; exact hP.sub (ws' := (w_0_1 q cI cJ cD Tn)) [0, 1] rfl, gEv.warm hW hE⟩⟩ rfl rfl hl.1 rfl (lv_room (Nat.le_of_ble_eq_true rfl)) dX8_isLyndon_3 ⟨Nat.zero_le _, Nat.zero_le _⟩) hP hS (gSub rfl) rfl rfl rfl rfl rfl (fun H locs hP hS => ?_)
  refine lv_aload_n hx hb dX8_isLyndon_6 rfl (lv_at hl 0 rfl) ?_
  refine va_get (D := D) (ci := 6) (v := .ref (q 1)) (C := RX8) (T := TX8) (N := 6) hx hb hts huX8 hown hE.1 hP 0 rfl rfl 0 (by decide) hk10 (fun _ h9 => h9) rfl dX8_isLyndon_7 ?_
  refine lv_iload_n hx hb dX8_isLyndon_10 rfl (lv_at hl 1 rfl) ?_
  refine lv_iload_n hx hb dX8_isLyndon_11 rfl (lv_at hl 2 rfl) ?_
  obtain ⟨r12, hc, hf⟩ := bn_some hf
  try dsimp only at hf
  refine g_call0 (ws' := (w_0_1_2 q cI cJ cD Tn Ta)) (st1 := [.int r12]) hq [0, 1, 2] [1, 2] [.inr 0, .inl 0, .inl 1] (va_runS (As := [.ref (q 1), .int p1, .int p2]) (rest := []) ⟨hx, hb, hml, hown, hts⟩ (kX1_isOneFactor l D cI cJ cD q hq N Tn Ta p1 p2 r12 hc) (va_cwS 3 hts gX8_isLyndon_X1_isOneFactor rfl rfl rfl (by decide +kernel) ⟨(Nat.le_of_ble_eq_true rfl), (Nat.le_of_ble_eq_true rfl)⟩) ⟨gP_blind, fun U hU hW => ⟨rfl, by rw [hU]; exact hP.sub (ws' := (w_1_2 q cI cJ cD Tn Ta)) [1, 2] rfl, gEv.warm hW hE⟩⟩ rfl rfl hl.1 rfl (lv_room (Nat.le_of_ble_eq_true rfl)) dX8_isLyndon_12 ⟨Nat.zero_le _, Nat.zero_le _⟩) hP hS (gSub rfl) rfl rfl rfl rfl rfl (fun H locs hP hS => ?_)
  obtain ⟨-, hf⟩ := gd_some hf
  exact nomatch hf
set_option maxHeartbeats 4000000 in
set_option maxRecDepth 100000 in
theorem kX8_factors (l : Launch) (D : va_G) (cI cJ cD : ClassId) (q : Nat → Nat) (hq : gInj 14 q) (N : Nat) (Tn : Int32) (Ta : (Nat → Int32)) (Fn : Int32) (Fa : (Nat → Int32)) (r0 : Int32) (Fn9 : Int32) (Fa9 : (Nat → Int32)) (hf : fX8_factors N Tn Ta Fn Fa = some (r0, Fn9, Fa9)) : Met l yX8_factors wsX8_factors rX8_factors (gP D cI cJ cD [.ref (q 0)] (w_0_1_2_3_4 q cI cJ cD Tn Ta Fn Fa)) (gQ D (some (.int r0)) (w_0_1_2_3_4 q cI cJ cD Tn Ta Fn9 Fa9) (gA q [0, 1, 2, 3, 4])) 0 0 (gA q [0, 1, 2, 3, 4]) := by
  refine Met.ofW (cc := cX8_factors) (maxL := 1) (ret := (some .int)) (by decide +kernel) rfl ?_
  intro p e s m args below meth c s₁ B hml hv
  obtain ⟨rfl, hP, hE⟩ := hv
  have hx := B.exec
  have hb := B.bytes
  have hr := B.returns
  have hts := atoms_spec (ws := wsX8_factors) B.pre
  have hown : s.vm.findClass RX8 = some m.cls := findClass_of_methodNamed B.named
  have hlocks := B.notSynchronized
  have hS : va_S (gA q [0, 1, 2, 3, 4]) s.heap s.heap [] := va_S.rf
  have hl := lv_entry ([.ref (q 0)]) (n := 1) (Nat.le_of_ble_eq_true rfl)
  rw [lg_entry_eq]
  generalize (lg_sl ([.ref (q 0)]) ++ List.replicate (1 - (lg_sl ([.ref (q 0)])).length) Slot.unset).toArray = ls at hl ⊢
  have hl : lv_has ls 1 [(0, .ref (q 0))] := hl
  have hk19 := hts (.fieldLink RX8 19 "LyndonText" "factorRow" "LLyndonText$Factors;") (by decide +kernel)
  have hk10 := hts (.fieldLink RX8 10 "LyndonText" "text" "LLyndonText$Letters;") (by decide +kernel)
  have huX8 : ∀ w ∈ u_ws RX8 TX8 6, w ∈ wsX8_factors := by decide +kernel
  unfold fX8_factors at hf
  refine lv_aload_n hx hb dX8_factors_0 rfl (lv_at hl 0 rfl) ?_
  refine va_get (D := D) (ci := 6) (v := .ref (q 3)) (C := RX8) (T := TX8) (N := 6) hx hb hts huX8 hown hE.1 hP 0 rfl rfl 1 (by decide) hk19 (fun _ h9 => h9) rfl dX8_factors_1 ?_
  refine lv_aload_n hx hb dX8_factors_4 rfl (lv_at hl 0 rfl) ?_
  refine va_get (D := D) (ci := 6) (v := .ref (q 1)) (C := RX8) (T := TX8) (N := 6) hx hb hts huX8 hown hE.1 hP 0 rfl rfl 0 (by decide) hk10 (fun _ h9 => h9) rfl dX8_factors_5 ?_
  obtain ⟨⟨Fn8, Fa8⟩, hc, hf⟩ := bn_some hf
  try dsimp only at hf
  refine g_call0 (ws' := (w_0_1_2_3_4 q cI cJ cD Tn Ta Fn8 Fa8)) (st1 := []) hq [0, 1, 2, 3, 4] [1, 2, 3, 4] [.inr 0, .inl 0, .inl 1, .inl 2, .inl 3] (va_runV (As := [.ref (q 1)]) (rest := []) ⟨hx, hb, hml, hown, hts⟩ (kX1_find l D cI cJ cD q hq N Tn Ta Fn Fa Fn8 Fa8 hc) (cwV 1 hts gX8_factors_X1_find rfl rfl rfl (by decide +kernel) ⟨(Nat.le_of_ble_eq_true rfl), (Nat.le_of_ble_eq_true rfl)⟩) ⟨gP_blind, va_recv hE.1 hP (ci := 1) (q0 := 3) rfl rfl, fun U hU hW => ⟨rfl, by rw [hU]; exact hP.sub (ws' := (w_1_2_3_4 q cI cJ cD Tn Ta Fn Fa)) [1, 2, 3, 4] rfl, gEv.warm hW hE⟩⟩ rfl rfl hl.1 rfl (lv_room (Nat.le_of_ble_eq_true rfl)) dX8_factors_8 ⟨Nat.zero_le _, Nat.zero_le _⟩) hP hS (gSub rfl) rfl rfl rfl rfl rfl (fun H locs hP hS => ?_)
  refine lv_aload_n hx hb dX8_factors_11 rfl (lv_at hl 0 rfl) ?_
  refine va_get (D := D) (ci := 6) (v := .ref (q 3)) (C := RX8) (T := TX8) (N := 6) hx hb hts huX8 hown hE.1 hP 0 rfl rfl 1 (by decide) hk19 (fun _ h9 => h9) rfl dX8_factors_12 ?_
  obtain ⟨r15, hc, hf⟩ := bn_some hf
  try dsimp only at hf
  refine g_call0 (ws' := (w_0_1_2_3_4 q cI cJ cD Tn Ta Fn8 Fa8)) (st1 := [.int r15]) hq [0, 1, 2, 3, 4] [3] [.inr 0, .inr 1, .inr 2, .inl 0, .inr 4] (va_runV (As := []) (rest := []) ⟨hx, hb, hml, hown, hts⟩ (kX1_count l D cI cJ cD q hq N Fn8 r15 hc) (cwV 0 hts gX8_factors_X1_count rfl rfl rfl (by decide +kernel) ⟨(Nat.le_of_ble_eq_true rfl), (Nat.le_of_ble_eq_true rfl)⟩) ⟨gP_blind, va_recv hE.1 hP (ci := 1) (q0 := 3) rfl rfl, fun U hU hW => ⟨rfl, by rw [hU]; exact hP.sub (ws' := (w_3 q cI cJ cD Fn8)) [3] rfl, gEv.warm hW hE⟩⟩ rfl rfl hl.1 rfl (lv_room (Nat.le_of_ble_eq_true rfl)) dX8_factors_15 ⟨Nat.zero_le _, Nat.zero_le _⟩) hP hS (gSub rfl) rfl rfl rfl rfl rfl (fun H locs hP hS => ?_)
  cases hf
  exact W.iret hx hb hr (fun t ht hW => ⟨⟨rfl, by rw [ht]; exact hP⟩, hS.F ht⟩) hS.2.2 dX8_factors_18
set_option maxHeartbeats 4000000 in
set_option maxRecDepth 100000 in
theorem kX8_findFactor (l : Launch) (D : va_G) (cI cJ cD : ClassId) (q : Nat → Nat) (hq : gInj 14 q) (N : Nat) (Tn : Int32) (Ta : (Nat → Int32)) (Fn : Int32) (Fa : (Nat → Int32)) (p1 : Int32) (Fn9 : Int32) (Fa9 : (Nat → Int32)) (hf : fX8_findFactor N Tn Ta Fn Fa p1 = some (.inr (Fn9, Fa9))) : Met l yX8_findFactor wsX8_findFactor rX8_findFactor (gP D cI cJ cD [.ref (q 0), .int p1] (w_0_1_2_3_4 q cI cJ cD Tn Ta Fn Fa)) (gQ D none (w_0_1_2_3_4 q cI cJ cD Tn Ta Fn9 Fa9) (gA q [0, 1, 2, 3, 4])) 0 0 (gA q [0, 1, 2, 3, 4]) := by
  refine Met.ofW (cc := cX8_findFactor) (maxL := 2) (ret := none) (by decide +kernel) rfl ?_
  intro p e s m args below meth c s₁ B hml hv
  obtain ⟨rfl, hP, hE⟩ := hv
  have hx := B.exec
  have hb := B.bytes
  have hr := B.returns
  have hts := atoms_spec (ws := wsX8_findFactor) B.pre
  have hown : s.vm.findClass RX8 = some m.cls := findClass_of_methodNamed B.named
  have hlocks := B.notSynchronized
  have hS : va_S (gA q [0, 1, 2, 3, 4]) s.heap s.heap [] := va_S.rf
  have hl := lv_entry ([.ref (q 0), .int p1]) (n := 2) (Nat.le_of_ble_eq_true rfl)
  rw [lg_entry_eq]
  generalize (lg_sl ([.ref (q 0), .int p1]) ++ List.replicate (2 - (lg_sl ([.ref (q 0), .int p1])).length) Slot.unset).toArray = ls at hl ⊢
  have hl : lv_has ls 2 [(0, .ref (q 0)), (1, .int p1)] := hl
  have hk19 := hts (.fieldLink RX8 19 "LyndonText" "factorRow" "LLyndonText$Factors;") (by decide +kernel)
  have hk10 := hts (.fieldLink RX8 10 "LyndonText" "text" "LLyndonText$Letters;") (by decide +kernel)
  have huX8 : ∀ w ∈ u_ws RX8 TX8 6, w ∈ wsX8_findFactor := by decide +kernel
  unfold fX8_findFactor at hf
  refine lv_aload_n hx hb dX8_findFactor_0 rfl (lv_at hl 0 rfl) ?_
  refine va_get (D := D) (ci := 6) (v := .ref (q 3)) (C := RX8) (T := TX8) (N := 6) hx hb hts huX8 hown hE.1 hP 0 rfl rfl 1 (by decide) hk19 (fun _ h9 => h9) rfl dX8_findFactor_1 ?_
  refine lv_aload_n hx hb dX8_findFactor_4 rfl (lv_at hl 0 rfl) ?_
  refine va_get (D := D) (ci := 6) (v := .ref (q 1)) (C := RX8) (T := TX8) (N := 6) hx hb hts huX8 hown hE.1 hP 0 rfl rfl 0 (by decide) hk10 (fun _ h9 => h9) rfl dX8_findFactor_5 ?_
  obtain ⟨⟨Fn8, Fa8⟩, hc, hf⟩ := bn_some hf
  try dsimp only at hf
  refine g_call0 (ws' := (w_0_1_2_3_4 q cI cJ cD Tn Ta Fn8 Fa8)) (st1 := []) hq [0, 1, 2, 3, 4] [1, 2, 3, 4] [.inr 0, .inl 0, .inl 1, .inl 2, .inl 3] (va_runV (As := [.ref (q 1)]) (rest := []) ⟨hx, hb, hml, hown, hts⟩ (kX1_find l D cI cJ cD q hq N Tn Ta Fn Fa Fn8 Fa8 hc) (cwV 1 hts gX8_findFactor_X1_find rfl rfl rfl (by decide +kernel) ⟨(Nat.le_of_ble_eq_true rfl), (Nat.le_of_ble_eq_true rfl)⟩) ⟨gP_blind, va_recv hE.1 hP (ci := 1) (q0 := 3) rfl rfl, fun U hU hW => ⟨rfl, by rw [hU]; exact hP.sub (ws' := (w_1_2_3_4 q cI cJ cD Tn Ta Fn Fa)) [1, 2, 3, 4] rfl, gEv.warm hW hE⟩⟩ rfl rfl hl.1 rfl (lv_room (Nat.le_of_ble_eq_true rfl)) dX8_findFactor_8 ⟨Nat.zero_le _, Nat.zero_le _⟩) hP hS (gSub rfl) rfl rfl rfl rfl rfl (fun H locs hP hS => ?_)
  refine lv_iload_n hx hb dX8_findFactor_11 rfl (lv_at hl 1 rfl) ?_
  refine lv_aload_n hx hb dX8_findFactor_12 rfl (lv_at hl 0 rfl) ?_
  refine va_get (D := D) (ci := 6) (v := .ref (q 3)) (C := RX8) (T := TX8) (N := 6) hx hb hts huX8 hown hE.1 hP 0 rfl rfl 1 (by decide) hk19 (fun _ h9 => h9) rfl dX8_findFactor_13 ?_
  obtain ⟨r16, hc, hf⟩ := bn_some hf
  try dsimp only at hf
  refine g_call0 (ws' := (w_0_1_2_3_4 q cI cJ cD Tn Ta Fn8 Fa8)) (st1 := [.int r16, .int p1]) hq [0, 1, 2, 3, 4] [3] [.inr 0, .inr 1, .inr 2, .inl 0, .inr 4] (va_runV (As := []) (rest := [.int p1]) ⟨hx, hb, hml, hown, hts⟩ (kX1_count l D cI cJ cD q hq N Fn8 r16 hc) (cwV 0 hts gX8_findFactor_X1_count rfl rfl rfl (by decide +kernel) ⟨(Nat.le_of_ble_eq_true rfl), (Nat.le_of_ble_eq_true rfl)⟩) ⟨gP_blind, va_recv hE.1 hP (ci := 1) (q0 := 3) rfl rfl, fun U hU hW => ⟨rfl, by rw [hU]; exact hP.sub (ws' := (w_3 q cI cJ cD Fn8)) [3] rfl, gEv.warm hW hE⟩⟩ rfl rfl hl.1 rfl (lv_room (Nat.le_of_ble_eq_true rfl)) dX8_findFactor_16 ⟨Nat.zero_le _, Nat.zero_le _⟩) hP hS (gSub rfl) rfl rfl rfl rfl rfl (fun H locs hP hS => ?_)
  rcases bx_some hf with ⟨e19, hc, hf⟩ | ⟨⟨⟩, hc, hf⟩
  · exact nomatch hf
  try dsimp only at hf
  refine g_call0 (ws' := (w_0_1_2_3_4 q cI cJ cD Tn Ta Fn8 Fa8)) (st1 := []) hq [0, 1, 2, 3, 4] [] [.inr 0, .inr 1, .inr 2, .inr 3, .inr 4] (va_runS (As := [.int p1, .int r16]) (rest := []) ⟨hx, hb, hml, hown, hts⟩ (kX8_checkIndex l D cI cJ cD q hq N p1 r16 hc) (va_cwS 2 hts gX8_findFactor_X8_checkIndex rfl rfl rfl (by decide +kernel) ⟨(Nat.le_of_ble_eq_true rfl), (Nat.le_of_ble_eq_true rfl)⟩) ⟨gP_blind, fun U hU hW => ⟨rfl, by rw [hU]; exact hP.sub (ws' := (w_0none q cI cJ cD)) [] rfl, gEv.warm hW hE⟩⟩ rfl rfl hl.1 rfl (lv_room (Nat.le_of_ble_eq_true rfl)) dX8_findFactor_19 ⟨Nat.zero_le _, Nat.zero_le _⟩) hP hS (gSub rfl) rfl rfl rfl rfl rfl (fun H locs hP hS => ?_)
  cases hf
  exact W.vret hx hb hr (fun t ht hW => ⟨⟨rfl, by rw [ht]; exact hP⟩, hS.F ht⟩) hS.2.2 dX8_findFactor_22
set_option maxHeartbeats 4000000 in
set_option maxRecDepth 100000 in
theorem kX8_findFactorx (l : Launch) (hlt : l.stackTraces = false) (D : va_G) (cI cJ cD : ClassId) (sa : Nat → Nat) (q : Nat → Nat) (hq : gInj 14 q) (N : Nat) (Tn : Int32) (Ta : (Nat → Int32)) (Fn : Int32) (Fa : (Nat → Int32)) (p1 : Int32) (e0 : Nat) (Fn9 : Int32) (Fa9 : (Nat → Int32)) (hf : fX8_findFactor N Tn Ta Fn Fa p1 = some (.inl (e0, Fn9, Fa9))) : vx_Met l yX8_findFactor wsX8_findFactor rX8_findFactorx (gPx D cI cJ cD sa (gA q [0, 1, 2, 3, 4]) [.ref (q 0), .int p1] (w_0_1_2_3_4 q cI cJ cD Tn Ta Fn Fa)) (fun _ _ _ _ => False) (gX D (gEn e0) (w_0_1_2_3_4 q cI cJ cD Tn Ta Fn9 Fa9) (gA q [0, 1, 2, 3, 4])) 1 6 (gA q [0, 1, 2, 3, 4]) := by
  refine vx_ofW (cc := cX8_findFactor) (maxL := 2) (ret := none) (by decide +kernel) rfl ?_
  intro p e s m args below meth c s₁ B hml htab hv
  obtain ⟨rfl, hP, hE, hXe⟩ := hv
  have hx := B.exec
  have hb := B.bytes
  have hr := B.returns
  have hts := atoms_spec (ws := wsX8_findFactor) B.pre
  have hown : s.vm.findClass RX8 = some m.cls := findClass_of_methodNamed B.named
  have hlocks := B.notSynchronized
  have hS : va_S (gA q [0, 1, 2, 3, 4]) s.heap s.heap [] := va_S.rf
  have hl := lv_entry ([.ref (q 0), .int p1]) (n := 2) (Nat.le_of_ble_eq_true rfl)
  rw [lg_entry_eq]
  generalize (lg_sl ([.ref (q 0), .int p1]) ++ List.replicate (2 - (lg_sl ([.ref (q 0), .int p1])).length) Slot.unset).toArray = ls at hl ⊢
  have hl : lv_has ls 2 [(0, .ref (q 0)), (1, .int p1)] := hl
  have hk19 := hts (.fieldLink RX8 19 "LyndonText" "factorRow" "LLyndonText$Factors;") (by decide +kernel)
  have hk10 := hts (.fieldLink RX8 10 "LyndonText" "text" "LLyndonText$Letters;") (by decide +kernel)
  have huX8 : ∀ w ∈ u_ws RX8 TX8 6, w ∈ wsX8_findFactor := by decide +kernel
  unfold fX8_findFactor at hf
  refine lv_aload_n hx hb dX8_findFactor_0 rfl (lv_at hl 0 rfl) ?_
  refine va_get (D := D) (ci := 6) (v := .ref (q 3)) (C := RX8) (T := TX8) (N := 6) hx hb hts huX8 hown hE.1 hP 0 rfl rfl 1 (by decide) hk19 (fun _ h9 => h9) rfl dX8_findFactor_1 ?_
  refine lv_aload_n hx hb dX8_findFactor_4 rfl (lv_at hl 0 rfl) ?_
  refine va_get (D := D) (ci := 6) (v := .ref (q 1)) (C := RX8) (T := TX8) (N := 6) hx hb hts huX8 hown hE.1 hP 0 rfl rfl 0 (by decide) hk10 (fun _ h9 => h9) rfl dX8_findFactor_5 ?_
  obtain ⟨⟨Fn8, Fa8⟩, hc, hf⟩ := bn_some hf
  try dsimp only at hf
  refine g_call0 (ws' := (w_0_1_2_3_4 q cI cJ cD Tn Ta Fn8 Fa8)) (st1 := []) hq [0, 1, 2, 3, 4] [1, 2, 3, 4] [.inr 0, .inl 0, .inl 1, .inl 2, .inl 3] (va_runV (As := [.ref (q 1)]) (rest := []) ⟨hx, hb, hml, hown, hts⟩ (kX1_find l D cI cJ cD q hq N Tn Ta Fn Fa Fn8 Fa8 hc) (cwV 1 hts gX8_findFactor_X1_find rfl rfl rfl (by decide +kernel) ⟨(Nat.le_of_ble_eq_true rfl), (Nat.le_of_ble_eq_true rfl)⟩) ⟨gP_blind, va_recv hE.1 hP (ci := 1) (q0 := 3) rfl rfl, fun U hU hW => ⟨rfl, by rw [hU]; exact hP.sub (ws' := (w_1_2_3_4 q cI cJ cD Tn Ta Fn Fa)) [1, 2, 3, 4] rfl, gEv.warm hW hE⟩⟩ rfl rfl hl.1 rfl (lv_room (Nat.le_of_ble_eq_true rfl)) dX8_findFactor_8 ⟨Nat.zero_le _, Nat.zero_le _⟩) hP hS (gSub rfl) rfl rfl rfl rfl rfl (fun H locs hP hS => ?_)
  refine lv_iload_n hx hb dX8_findFactor_11 rfl (lv_at hl 1 rfl) ?_
  refine lv_aload_n hx hb dX8_findFactor_12 rfl (lv_at hl 0 rfl) ?_
  refine va_get (D := D) (ci := 6) (v := .ref (q 3)) (C := RX8) (T := TX8) (N := 6) hx hb hts huX8 hown hE.1 hP 0 rfl rfl 1 (by decide) hk19 (fun _ h9 => h9) rfl dX8_findFactor_13 ?_
  obtain ⟨r16, hc, hf⟩ := bn_some hf
  try dsimp only at hf
  refine g_call0 (ws' := (w_0_1_2_3_4 q cI cJ cD Tn Ta Fn8 Fa8)) (st1 := [.int r16, .int p1]) hq [0, 1, 2, 3, 4] [3] [.inr 0, .inr 1, .inr 2, .inl 0, .inr 4] (va_runV (As := []) (rest := [.int p1]) ⟨hx, hb, hml, hown, hts⟩ (kX1_count l D cI cJ cD q hq N Fn8 r16 hc) (cwV 0 hts gX8_findFactor_X1_count rfl rfl rfl (by decide +kernel) ⟨(Nat.le_of_ble_eq_true rfl), (Nat.le_of_ble_eq_true rfl)⟩) ⟨gP_blind, va_recv hE.1 hP (ci := 1) (q0 := 3) rfl rfl, fun U hU hW => ⟨rfl, by rw [hU]; exact hP.sub (ws' := (w_3 q cI cJ cD Fn8)) [3] rfl, gEv.warm hW hE⟩⟩ rfl rfl hl.1 rfl (lv_room (Nat.le_of_ble_eq_true rfl)) dX8_findFactor_16 ⟨Nat.zero_le _, Nat.zero_le _⟩) hP hS (gSub rfl) rfl rfl rfl rfl rfl (fun H locs hP hS => ?_)
  rcases bx_some hf with ⟨e19, hc, hf⟩ | ⟨⟨⟩, hc, hf⟩
  · try dsimp only at hf
    refine g_callX (ws' := (w_0_1_2_3_4 q cI cJ cD Tn Ta Fn8 Fa8)) hq [0, 1, 2, 3, 4] [] [.inr 0, .inr 1, .inr 2, .inr 3, .inr 4] (vx_runS (As := [.int p1, .int r16]) (rest := []) ⟨hx, hb, hml, hown, hts⟩ (kX8_checkIndexx l hlt D cI cJ cD sa q hq N p1 r16 e19 hc) (va_cwS 2 hts gX8_findFactor_X8_checkIndex rfl rfl rfl (by decide +kernel) ⟨(Nat.le_of_ble_eq_true rfl), (Nat.le_of_ble_eq_true rfl)⟩) ⟨gPx_blind, fun U hU hW => ⟨rfl, by rw [hU]; exact hP.sub (ws' := (w_0none q cI cJ cD)) [] rfl, gEv.warm hW hE, gXe.go hW hS (gMono rfl) hXe hU⟩⟩ rfl rfl hl.1 rfl (lv_room (Nat.le_of_ble_eq_true rfl)) dX8_findFactor_19 ⟨(Nat.le_of_ble_eq_true rfl), (Nat.le_of_ble_eq_true rfl)⟩) hP hS (gSub rfl) rfl rfl rfl rfl (fun ce q9 H locs hP hS hce hcv hcl => ?_)
    cases hf
    exact vx_out (fun x9 hx9 => (htab x9 hx9).elim) hlocks hce hcv hcl (fun t ht hv => ⟨rfl, by rw [ht]; exact hP, hS.F ht⟩) hS.2.2 (Nat.le_of_ble_eq_true rfl) (Nat.le_of_ble_eq_true rfl)
  try dsimp only at hf
  refine g_call0 (ws' := (w_0_1_2_3_4 q cI cJ cD Tn Ta Fn8 Fa8)) (st1 := []) hq [0, 1, 2, 3, 4] [] [.inr 0, .inr 1, .inr 2, .inr 3, .inr 4] (va_runS (As := [.int p1, .int r16]) (rest := []) ⟨hx, hb, hml, hown, hts⟩ (kX8_checkIndex l D cI cJ cD q hq N p1 r16 hc) (va_cwS 2 hts gX8_findFactor_X8_checkIndex rfl rfl rfl (by decide +kernel) ⟨(Nat.le_of_ble_eq_true rfl), (Nat.le_of_ble_eq_true rfl)⟩) ⟨gP_blind, fun U hU hW => ⟨rfl, by rw [hU]; exact hP.sub (ws' := (w_0none q cI cJ cD)) [] rfl, gEv.warm hW hE⟩⟩ rfl rfl hl.1 rfl (lv_room (Nat.le_of_ble_eq_true rfl)) dX8_findFactor_19 ⟨Nat.zero_le _, Nat.zero_le _⟩) hP hS (gSub rfl) rfl rfl rfl rfl rfl (fun H locs hP hS => ?_)
  exact nomatch hf
set_option maxHeartbeats 4000000 in
set_option maxRecDepth 100000 in
theorem kX8_factorStart (l : Launch) (D : va_G) (cI cJ cD : ClassId) (q : Nat → Nat) (hq : gInj 14 q) (N : Nat) (Tn : Int32) (Ta : (Nat → Int32)) (Fn : Int32) (Fa : (Nat → Int32)) (p1 : Int32) (r0 : Int32) (Fn9 : Int32) (Fa9 : (Nat → Int32)) (hf : fX8_factorStart N Tn Ta Fn Fa p1 = some (.inr (r0, Fn9, Fa9))) : Met l yX8_factorStart wsX8_factorStart rX8_factorStart (gP D cI cJ cD [.ref (q 0), .int p1] (w_0_1_2_3_4 q cI cJ cD Tn Ta Fn Fa)) (gQ D (some (.int r0)) (w_0_1_2_3_4 q cI cJ cD Tn Ta Fn9 Fa9) (gA q [0, 1, 2, 3, 4])) 0 0 (gA q [0, 1, 2, 3, 4]) := by
  refine Met.ofW (cc := cX8_factorStart) (maxL := 2) (ret := (some .int)) (by decide +kernel) rfl ?_
  intro p e s m args below meth c s₁ B hml hv
  obtain ⟨rfl, hP, hE⟩ := hv
  have hx := B.exec
  have hb := B.bytes
  have hr := B.returns
  have hts := atoms_spec (ws := wsX8_factorStart) B.pre
  have hown : s.vm.findClass RX8 = some m.cls := findClass_of_methodNamed B.named
  have hlocks := B.notSynchronized
  have hS : va_S (gA q [0, 1, 2, 3, 4]) s.heap s.heap [] := va_S.rf
  have hl := lv_entry ([.ref (q 0), .int p1]) (n := 2) (Nat.le_of_ble_eq_true rfl)
  rw [lg_entry_eq]
  generalize (lg_sl ([.ref (q 0), .int p1]) ++ List.replicate (2 - (lg_sl ([.ref (q 0), .int p1])).length) Slot.unset).toArray = ls at hl ⊢
  have hl : lv_has ls 2 [(0, .ref (q 0)), (1, .int p1)] := hl
  have hk19 := hts (.fieldLink RX8 19 "LyndonText" "factorRow" "LLyndonText$Factors;") (by decide +kernel)
  have huX8 : ∀ w ∈ u_ws RX8 TX8 6, w ∈ wsX8_factorStart := by decide +kernel
  unfold fX8_factorStart at hf
  refine lv_aload_n hx hb dX8_factorStart_0 rfl (lv_at hl 0 rfl) ?_
  refine lv_iload_n hx hb dX8_factorStart_1 rfl (lv_at hl 1 rfl) ?_
  rcases bx_some hf with ⟨⟨e2, Fn2, Fa2⟩, hc, hf⟩ | ⟨⟨Fn2, Fa2⟩, hc, hf⟩
  · exact nomatch hf
  try dsimp only at hf
  refine g_call0 (ws' := (w_0_1_2_3_4 q cI cJ cD Tn Ta Fn2 Fa2)) (st1 := []) hq [0, 1, 2, 3, 4] [0, 1, 2, 3, 4] [.inl 0, .inl 1, .inl 2, .inl 3, .inl 4] (va_runV (As := [.int p1]) (rest := []) ⟨hx, hb, hml, hown, hts⟩ (kX8_findFactor l D cI cJ cD q hq N Tn Ta Fn Fa p1 Fn2 Fa2 hc) (cwV 1 hts gX8_factorStart_X8_findFactor rfl rfl rfl (by decide +kernel) ⟨(Nat.le_of_ble_eq_true rfl), (Nat.le_of_ble_eq_true rfl)⟩) ⟨gP_blind, va_recv hE.1 hP (ci := 6) (q0 := 0) rfl rfl, fun U hU hW => ⟨rfl, by rw [hU]; exact hP.sub (ws' := (w_0_1_2_3_4 q cI cJ cD Tn Ta Fn Fa)) [0, 1, 2, 3, 4] rfl, gEv.warm hW hE⟩⟩ rfl rfl hl.1 rfl (lv_room (Nat.le_of_ble_eq_true rfl)) dX8_factorStart_2 ⟨Nat.zero_le _, Nat.zero_le _⟩) hP hS (gSub rfl) rfl rfl rfl rfl rfl (fun H locs hP hS => ?_)
  refine lv_aload_n hx hb dX8_factorStart_5 rfl (lv_at hl 0 rfl) ?_
  refine va_get (D := D) (ci := 6) (v := .ref (q 3)) (C := RX8) (T := TX8) (N := 6) hx hb hts huX8 hown hE.1 hP 0 rfl rfl 1 (by decide) hk19 (fun _ h9 => h9) rfl dX8_factorStart_6 ?_
  refine lv_iload_n hx hb dX8_factorStart_9 rfl (lv_at hl 1 rfl) ?_
  obtain ⟨r10, hc, hf⟩ := bn_some hf
  try dsimp only at hf
  refine g_call0 (ws' := (w_0_1_2_3_4 q cI cJ cD Tn Ta Fn2 Fa2)) (st1 := [.int r10]) hq [0, 1, 2, 3, 4] [3, 4] [.inr 0, .inr 1, .inr 2, .inl 0, .inl 1] (va_runV (As := [.int p1]) (rest := []) ⟨hx, hb, hml, hown, hts⟩ (kX1_start l D cI cJ cD q hq N Fn2 Fa2 p1 r10 hc) (cwV 1 hts gX8_factorStart_X1_start rfl rfl rfl (by decide +kernel) ⟨(Nat.le_of_ble_eq_true rfl), (Nat.le_of_ble_eq_true rfl)⟩) ⟨gP_blind, va_recv hE.1 hP (ci := 1) (q0 := 3) rfl rfl, fun U hU hW => ⟨rfl, by rw [hU]; exact hP.sub (ws' := (w_3_4 q cI cJ cD Fn2 Fa2)) [3, 4] rfl, gEv.warm hW hE⟩⟩ rfl rfl hl.1 rfl (lv_room (Nat.le_of_ble_eq_true rfl)) dX8_factorStart_10 ⟨Nat.zero_le _, Nat.zero_le _⟩) hP hS (gSub rfl) rfl rfl rfl rfl rfl (fun H locs hP hS => ?_)
  cases hf
  exact W.iret hx hb hr (fun t ht hW => ⟨⟨rfl, by rw [ht]; exact hP⟩, hS.F ht⟩) hS.2.2 dX8_factorStart_13
set_option maxHeartbeats 4000000 in
set_option maxRecDepth 100000 in
theorem kX8_factorStartx (l : Launch) (hlt : l.stackTraces = false) (D : va_G) (cI cJ cD : ClassId) (sa : Nat → Nat) (q : Nat → Nat) (hq : gInj 14 q) (N : Nat) (Tn : Int32) (Ta : (Nat → Int32)) (Fn : Int32) (Fa : (Nat → Int32)) (p1 : Int32) (e0 : Nat) (Fn9 : Int32) (Fa9 : (Nat → Int32)) (hf : fX8_factorStart N Tn Ta Fn Fa p1 = some (.inl (e0, Fn9, Fa9))) : vx_Met l yX8_factorStart wsX8_factorStart rX8_factorStartx (gPx D cI cJ cD sa (gA q [0, 1, 2, 3, 4]) [.ref (q 0), .int p1] (w_0_1_2_3_4 q cI cJ cD Tn Ta Fn Fa)) (fun _ _ _ _ => False) (gX D (gEn e0) (w_0_1_2_3_4 q cI cJ cD Tn Ta Fn9 Fa9) (gA q [0, 1, 2, 3, 4])) 1 6 (gA q [0, 1, 2, 3, 4]) := by
  refine vx_ofW (cc := cX8_factorStart) (maxL := 2) (ret := (some .int)) (by decide +kernel) rfl ?_
  intro p e s m args below meth c s₁ B hml htab hv
  obtain ⟨rfl, hP, hE, hXe⟩ := hv
  have hx := B.exec
  have hb := B.bytes
  have hr := B.returns
  have hts := atoms_spec (ws := wsX8_factorStart) B.pre
  have hown : s.vm.findClass RX8 = some m.cls := findClass_of_methodNamed B.named
  have hlocks := B.notSynchronized
  have hS : va_S (gA q [0, 1, 2, 3, 4]) s.heap s.heap [] := va_S.rf
  have hl := lv_entry ([.ref (q 0), .int p1]) (n := 2) (Nat.le_of_ble_eq_true rfl)
  rw [lg_entry_eq]
  generalize (lg_sl ([.ref (q 0), .int p1]) ++ List.replicate (2 - (lg_sl ([.ref (q 0), .int p1])).length) Slot.unset).toArray = ls at hl ⊢
  have hl : lv_has ls 2 [(0, .ref (q 0)), (1, .int p1)] := hl
  have hk19 := hts (.fieldLink RX8 19 "LyndonText" "factorRow" "LLyndonText$Factors;") (by decide +kernel)
  have huX8 : ∀ w ∈ u_ws RX8 TX8 6, w ∈ wsX8_factorStart := by decide +kernel
  unfold fX8_factorStart at hf
  refine lv_aload_n hx hb dX8_factorStart_0 rfl (lv_at hl 0 rfl) ?_
  refine lv_iload_n hx hb dX8_factorStart_1 rfl (lv_at hl 1 rfl) ?_
  rcases bx_some hf with ⟨⟨e2, Fn2, Fa2⟩, hc, hf⟩ | ⟨⟨Fn2, Fa2⟩, hc, hf⟩
  · try dsimp only at hf
    refine g_callX (ws' := (w_0_1_2_3_4 q cI cJ cD Tn Ta Fn2 Fa2)) hq [0, 1, 2, 3, 4] [0, 1, 2, 3, 4] [.inl 0, .inl 1, .inl 2, .inl 3, .inl 4] (vx_runV (As := [.int p1]) (rest := []) ⟨hx, hb, hml, hown, hts⟩ (kX8_findFactorx l hlt D cI cJ cD sa q hq N Tn Ta Fn Fa p1 e2 Fn2 Fa2 hc) (cwV 1 hts gX8_factorStart_X8_findFactor rfl rfl rfl (by decide +kernel) ⟨(Nat.le_of_ble_eq_true rfl), (Nat.le_of_ble_eq_true rfl)⟩) ⟨gPx_blind, va_recv hE.1 hP (ci := 6) (q0 := 0) rfl rfl, fun U hU hW => ⟨rfl, by rw [hU]; exact hP.sub (ws' := (w_0_1_2_3_4 q cI cJ cD Tn Ta Fn Fa)) [0, 1, 2, 3, 4] rfl, gEv.warm hW hE, gXe.go hW hS (gMono rfl) hXe hU⟩⟩ rfl rfl hl.1 rfl (lv_room (Nat.le_of_ble_eq_true rfl)) dX8_factorStart_2 ⟨(Nat.le_of_ble_eq_true rfl), (Nat.le_of_ble_eq_true rfl)⟩) hP hS (gSub rfl) rfl rfl rfl rfl (fun ce q9 H locs hP hS hce hcv hcl => ?_)
    cases hf
    exact vx_out (fun x9 hx9 => (htab x9 hx9).elim) hlocks hce hcv hcl (fun t ht hv => ⟨rfl, by rw [ht]; exact hP, hS.F ht⟩) hS.2.2 (Nat.le_of_ble_eq_true rfl) (Nat.le_of_ble_eq_true rfl)
  try dsimp only at hf
  refine g_call0 (ws' := (w_0_1_2_3_4 q cI cJ cD Tn Ta Fn2 Fa2)) (st1 := []) hq [0, 1, 2, 3, 4] [0, 1, 2, 3, 4] [.inl 0, .inl 1, .inl 2, .inl 3, .inl 4] (va_runV (As := [.int p1]) (rest := []) ⟨hx, hb, hml, hown, hts⟩ (kX8_findFactor l D cI cJ cD q hq N Tn Ta Fn Fa p1 Fn2 Fa2 hc) (cwV 1 hts gX8_factorStart_X8_findFactor rfl rfl rfl (by decide +kernel) ⟨(Nat.le_of_ble_eq_true rfl), (Nat.le_of_ble_eq_true rfl)⟩) ⟨gP_blind, va_recv hE.1 hP (ci := 6) (q0 := 0) rfl rfl, fun U hU hW => ⟨rfl, by rw [hU]; exact hP.sub (ws' := (w_0_1_2_3_4 q cI cJ cD Tn Ta Fn Fa)) [0, 1, 2, 3, 4] rfl, gEv.warm hW hE⟩⟩ rfl rfl hl.1 rfl (lv_room (Nat.le_of_ble_eq_true rfl)) dX8_factorStart_2 ⟨Nat.zero_le _, Nat.zero_le _⟩) hP hS (gSub rfl) rfl rfl rfl rfl rfl (fun H locs hP hS => ?_)
  refine lv_aload_n hx hb dX8_factorStart_5 rfl (lv_at hl 0 rfl) ?_
  refine va_get (D := D) (ci := 6) (v := .ref (q 3)) (C := RX8) (T := TX8) (N := 6) hx hb hts huX8 hown hE.1 hP 0 rfl rfl 1 (by decide) hk19 (fun _ h9 => h9) rfl dX8_factorStart_6 ?_
  refine lv_iload_n hx hb dX8_factorStart_9 rfl (lv_at hl 1 rfl) ?_
  obtain ⟨r10, hc, hf⟩ := bn_some hf
  try dsimp only at hf
  refine g_call0 (ws' := (w_0_1_2_3_4 q cI cJ cD Tn Ta Fn2 Fa2)) (st1 := [.int r10]) hq [0, 1, 2, 3, 4] [3, 4] [.inr 0, .inr 1, .inr 2, .inl 0, .inl 1] (va_runV (As := [.int p1]) (rest := []) ⟨hx, hb, hml, hown, hts⟩ (kX1_start l D cI cJ cD q hq N Fn2 Fa2 p1 r10 hc) (cwV 1 hts gX8_factorStart_X1_start rfl rfl rfl (by decide +kernel) ⟨(Nat.le_of_ble_eq_true rfl), (Nat.le_of_ble_eq_true rfl)⟩) ⟨gP_blind, va_recv hE.1 hP (ci := 1) (q0 := 3) rfl rfl, fun U hU hW => ⟨rfl, by rw [hU]; exact hP.sub (ws' := (w_3_4 q cI cJ cD Fn2 Fa2)) [3, 4] rfl, gEv.warm hW hE⟩⟩ rfl rfl hl.1 rfl (lv_room (Nat.le_of_ble_eq_true rfl)) dX8_factorStart_10 ⟨Nat.zero_le _, Nat.zero_le _⟩) hP hS (gSub rfl) rfl rfl rfl rfl rfl (fun H locs hP hS => ?_)
  exact nomatch hf
set_option maxHeartbeats 4000000 in
set_option maxRecDepth 100000 in
theorem kX8_factorLength (l : Launch) (D : va_G) (cI cJ cD : ClassId) (q : Nat → Nat) (hq : gInj 14 q) (N : Nat) (Tn : Int32) (Ta : (Nat → Int32)) (Fn : Int32) (Fa : (Nat → Int32)) (p1 : Int32) (r0 : Int32) (Fn9 : Int32) (Fa9 : (Nat → Int32)) (hf : fX8_factorLength N Tn Ta Fn Fa p1 = some (.inr (r0, Fn9, Fa9))) : Met l yX8_factorLength wsX8_factorLength rX8_factorLength (gP D cI cJ cD [.ref (q 0), .int p1] (w_0_1_2_3_4 q cI cJ cD Tn Ta Fn Fa)) (gQ D (some (.int r0)) (w_0_1_2_3_4 q cI cJ cD Tn Ta Fn9 Fa9) (gA q [0, 1, 2, 3, 4])) 0 0 (gA q [0, 1, 2, 3, 4]) := by
  refine Met.ofW (cc := cX8_factorLength) (maxL := 2) (ret := (some .int)) (by decide +kernel) rfl ?_
  intro p e s m args below meth c s₁ B hml hv
  obtain ⟨rfl, hP, hE⟩ := hv
  have hx := B.exec
  have hb := B.bytes
  have hr := B.returns
  have hts := atoms_spec (ws := wsX8_factorLength) B.pre
  have hown : s.vm.findClass RX8 = some m.cls := findClass_of_methodNamed B.named
  have hlocks := B.notSynchronized
  have hS : va_S (gA q [0, 1, 2, 3, 4]) s.heap s.heap [] := va_S.rf
  have hl := lv_entry ([.ref (q 0), .int p1]) (n := 2) (Nat.le_of_ble_eq_true rfl)
  rw [lg_entry_eq]
  generalize (lg_sl ([.ref (q 0), .int p1]) ++ List.replicate (2 - (lg_sl ([.ref (q 0), .int p1])).length) Slot.unset).toArray = ls at hl ⊢
  have hl : lv_has ls 2 [(0, .ref (q 0)), (1, .int p1)] := hl
  have hk19 := hts (.fieldLink RX8 19 "LyndonText" "factorRow" "LLyndonText$Factors;") (by decide +kernel)
  have huX8 : ∀ w ∈ u_ws RX8 TX8 6, w ∈ wsX8_factorLength := by decide +kernel
  unfold fX8_factorLength at hf
  refine lv_aload_n hx hb dX8_factorLength_0 rfl (lv_at hl 0 rfl) ?_
  refine lv_iload_n hx hb dX8_factorLength_1 rfl (lv_at hl 1 rfl) ?_
  rcases bx_some hf with ⟨⟨e2, Fn2, Fa2⟩, hc, hf⟩ | ⟨⟨Fn2, Fa2⟩, hc, hf⟩
  · exact nomatch hf
  try dsimp only at hf
  refine g_call0 (ws' := (w_0_1_2_3_4 q cI cJ cD Tn Ta Fn2 Fa2)) (st1 := []) hq [0, 1, 2, 3, 4] [0, 1, 2, 3, 4] [.inl 0, .inl 1, .inl 2, .inl 3, .inl 4] (va_runV (As := [.int p1]) (rest := []) ⟨hx, hb, hml, hown, hts⟩ (kX8_findFactor l D cI cJ cD q hq N Tn Ta Fn Fa p1 Fn2 Fa2 hc) (cwV 1 hts gX8_factorLength_X8_findFactor rfl rfl rfl (by decide +kernel) ⟨(Nat.le_of_ble_eq_true rfl), (Nat.le_of_ble_eq_true rfl)⟩) ⟨gP_blind, va_recv hE.1 hP (ci := 6) (q0 := 0) rfl rfl, fun U hU hW => ⟨rfl, by rw [hU]; exact hP.sub (ws' := (w_0_1_2_3_4 q cI cJ cD Tn Ta Fn Fa)) [0, 1, 2, 3, 4] rfl, gEv.warm hW hE⟩⟩ rfl rfl hl.1 rfl (lv_room (Nat.le_of_ble_eq_true rfl)) dX8_factorLength_2 ⟨Nat.zero_le _, Nat.zero_le _⟩) hP hS (gSub rfl) rfl rfl rfl rfl rfl (fun H locs hP hS => ?_)
  refine lv_aload_n hx hb dX8_factorLength_5 rfl (lv_at hl 0 rfl) ?_
  refine va_get (D := D) (ci := 6) (v := .ref (q 3)) (C := RX8) (T := TX8) (N := 6) hx hb hts huX8 hown hE.1 hP 0 rfl rfl 1 (by decide) hk19 (fun _ h9 => h9) rfl dX8_factorLength_6 ?_
  refine lv_iload_n hx hb dX8_factorLength_9 rfl (lv_at hl 1 rfl) ?_
  refine lv_iconst (v := (1 : Int32)) hx hb dX8_factorLength_10 (by decide) ?_
  refine lv_iadd hx hb dX8_factorLength_11 ?_
  obtain ⟨r12, hc, hf⟩ := bn_some hf
  try dsimp only at hf
  refine g_call0 (ws' := (w_0_1_2_3_4 q cI cJ cD Tn Ta Fn2 Fa2)) (st1 := [.int r12]) hq [0, 1, 2, 3, 4] [3, 4] [.inr 0, .inr 1, .inr 2, .inl 0, .inl 1] (va_runV (As := [.int (p1 + (1 : Int32))]) (rest := []) ⟨hx, hb, hml, hown, hts⟩ (kX1_start l D cI cJ cD q hq N Fn2 Fa2 (p1 + (1 : Int32)) r12 hc) (cwV 1 hts gX8_factorLength_X1_start rfl rfl rfl (by decide +kernel) ⟨(Nat.le_of_ble_eq_true rfl), (Nat.le_of_ble_eq_true rfl)⟩) ⟨gP_blind, va_recv hE.1 hP (ci := 1) (q0 := 3) rfl rfl, fun U hU hW => ⟨rfl, by rw [hU]; exact hP.sub (ws' := (w_3_4 q cI cJ cD Fn2 Fa2)) [3, 4] rfl, gEv.warm hW hE⟩⟩ rfl rfl hl.1 rfl (lv_room (Nat.le_of_ble_eq_true rfl)) dX8_factorLength_12 ⟨Nat.zero_le _, Nat.zero_le _⟩) hP hS (gSub rfl) rfl rfl rfl rfl rfl (fun H locs hP hS => ?_)
  refine lv_aload_n hx hb dX8_factorLength_15 rfl (lv_at hl 0 rfl) ?_
  refine va_get (D := D) (ci := 6) (v := .ref (q 3)) (C := RX8) (T := TX8) (N := 6) hx hb hts huX8 hown hE.1 hP 0 rfl rfl 1 (by decide) hk19 (fun _ h9 => h9) rfl dX8_factorLength_16 ?_
  refine lv_iload_n hx hb dX8_factorLength_19 rfl (lv_at hl 1 rfl) ?_
  obtain ⟨r20, hc, hf⟩ := bn_some hf
  try dsimp only at hf
  refine g_call0 (ws' := (w_0_1_2_3_4 q cI cJ cD Tn Ta Fn2 Fa2)) (st1 := [.int r20, .int r12]) hq [0, 1, 2, 3, 4] [3, 4] [.inr 0, .inr 1, .inr 2, .inl 0, .inl 1] (va_runV (As := [.int p1]) (rest := [.int r12]) ⟨hx, hb, hml, hown, hts⟩ (kX1_start l D cI cJ cD q hq N Fn2 Fa2 p1 r20 hc) (cwV 1 hts gX8_factorLength_X1_start rfl rfl rfl (by decide +kernel) ⟨(Nat.le_of_ble_eq_true rfl), (Nat.le_of_ble_eq_true rfl)⟩) ⟨gP_blind, va_recv hE.1 hP (ci := 1) (q0 := 3) rfl rfl, fun U hU hW => ⟨rfl, by rw [hU]; exact hP.sub (ws' := (w_3_4 q cI cJ cD Fn2 Fa2)) [3, 4] rfl, gEv.warm hW hE⟩⟩ rfl rfl hl.1 rfl (lv_room (Nat.le_of_ble_eq_true rfl)) dX8_factorLength_20 ⟨Nat.zero_le _, Nat.zero_le _⟩) hP hS (gSub rfl) rfl rfl rfl rfl rfl (fun H locs hP hS => ?_)
  refine lv_isub hx hb dX8_factorLength_23 ?_
  cases hf
  exact W.iret hx hb hr (fun t ht hW => ⟨⟨rfl, by rw [ht]; exact hP⟩, hS.F ht⟩) hS.2.2 dX8_factorLength_24
set_option maxHeartbeats 4000000 in
set_option maxRecDepth 100000 in
theorem kX8_factorLengthx (l : Launch) (hlt : l.stackTraces = false) (D : va_G) (cI cJ cD : ClassId) (sa : Nat → Nat) (q : Nat → Nat) (hq : gInj 14 q) (N : Nat) (Tn : Int32) (Ta : (Nat → Int32)) (Fn : Int32) (Fa : (Nat → Int32)) (p1 : Int32) (e0 : Nat) (Fn9 : Int32) (Fa9 : (Nat → Int32)) (hf : fX8_factorLength N Tn Ta Fn Fa p1 = some (.inl (e0, Fn9, Fa9))) : vx_Met l yX8_factorLength wsX8_factorLength rX8_factorLengthx (gPx D cI cJ cD sa (gA q [0, 1, 2, 3, 4]) [.ref (q 0), .int p1] (w_0_1_2_3_4 q cI cJ cD Tn Ta Fn Fa)) (fun _ _ _ _ => False) (gX D (gEn e0) (w_0_1_2_3_4 q cI cJ cD Tn Ta Fn9 Fa9) (gA q [0, 1, 2, 3, 4])) 1 6 (gA q [0, 1, 2, 3, 4]) := by
  refine vx_ofW (cc := cX8_factorLength) (maxL := 2) (ret := (some .int)) (by decide +kernel) rfl ?_
  intro p e s m args below meth c s₁ B hml htab hv
  obtain ⟨rfl, hP, hE, hXe⟩ := hv
  have hx := B.exec
  have hb := B.bytes
  have hr := B.returns
  have hts := atoms_spec (ws := wsX8_factorLength) B.pre
  have hown : s.vm.findClass RX8 = some m.cls := findClass_of_methodNamed B.named
  have hlocks := B.notSynchronized
  have hS : va_S (gA q [0, 1, 2, 3, 4]) s.heap s.heap [] := va_S.rf
  have hl := lv_entry ([.ref (q 0), .int p1]) (n := 2) (Nat.le_of_ble_eq_true rfl)
  rw [lg_entry_eq]
  generalize (lg_sl ([.ref (q 0), .int p1]) ++ List.replicate (2 - (lg_sl ([.ref (q 0), .int p1])).length) Slot.unset).toArray = ls at hl ⊢
  have hl : lv_has ls 2 [(0, .ref (q 0)), (1, .int p1)] := hl
  have hk19 := hts (.fieldLink RX8 19 "LyndonText" "factorRow" "LLyndonText$Factors;") (by decide +kernel)
  have huX8 : ∀ w ∈ u_ws RX8 TX8 6, w ∈ wsX8_factorLength := by decide +kernel
  unfold fX8_factorLength at hf
  refine lv_aload_n hx hb dX8_factorLength_0 rfl (lv_at hl 0 rfl) ?_
  refine lv_iload_n hx hb dX8_factorLength_1 rfl (lv_at hl 1 rfl) ?_
  rcases bx_some hf with ⟨⟨e2, Fn2, Fa2⟩, hc, hf⟩ | ⟨⟨Fn2, Fa2⟩, hc, hf⟩
  · try dsimp only at hf
    refine g_callX (ws' := (w_0_1_2_3_4 q cI cJ cD Tn Ta Fn2 Fa2)) hq [0, 1, 2, 3, 4] [0, 1, 2, 3, 4] [.inl 0, .inl 1, .inl 2, .inl 3, .inl 4] (vx_runV (As := [.int p1]) (rest := []) ⟨hx, hb, hml, hown, hts⟩ (kX8_findFactorx l hlt D cI cJ cD sa q hq N Tn Ta Fn Fa p1 e2 Fn2 Fa2 hc) (cwV 1 hts gX8_factorLength_X8_findFactor rfl rfl rfl (by decide +kernel) ⟨(Nat.le_of_ble_eq_true rfl), (Nat.le_of_ble_eq_true rfl)⟩) ⟨gPx_blind, va_recv hE.1 hP (ci := 6) (q0 := 0) rfl rfl, fun U hU hW => ⟨rfl, by rw [hU]; exact hP.sub (ws' := (w_0_1_2_3_4 q cI cJ cD Tn Ta Fn Fa)) [0, 1, 2, 3, 4] rfl, gEv.warm hW hE, gXe.go hW hS (gMono rfl) hXe hU⟩⟩ rfl rfl hl.1 rfl (lv_room (Nat.le_of_ble_eq_true rfl)) dX8_factorLength_2 ⟨(Nat.le_of_ble_eq_true rfl), (Nat.le_of_ble_eq_true rfl)⟩) hP hS (gSub rfl) rfl rfl rfl rfl (fun ce q9 H locs hP hS hce hcv hcl => ?_)
    cases hf
    exact vx_out (fun x9 hx9 => (htab x9 hx9).elim) hlocks hce hcv hcl (fun t ht hv => ⟨rfl, by rw [ht]; exact hP, hS.F ht⟩) hS.2.2 (Nat.le_of_ble_eq_true rfl) (Nat.le_of_ble_eq_true rfl)
  try dsimp only at hf
  refine g_call0 (ws' := (w_0_1_2_3_4 q cI cJ cD Tn Ta Fn2 Fa2)) (st1 := []) hq [0, 1, 2, 3, 4] [0, 1, 2, 3, 4] [.inl 0, .inl 1, .inl 2, .inl 3, .inl 4] (va_runV (As := [.int p1]) (rest := []) ⟨hx, hb, hml, hown, hts⟩ (kX8_findFactor l D cI cJ cD q hq N Tn Ta Fn Fa p1 Fn2 Fa2 hc) (cwV 1 hts gX8_factorLength_X8_findFactor rfl rfl rfl (by decide +kernel) ⟨(Nat.le_of_ble_eq_true rfl), (Nat.le_of_ble_eq_true rfl)⟩) ⟨gP_blind, va_recv hE.1 hP (ci := 6) (q0 := 0) rfl rfl, fun U hU hW => ⟨rfl, by rw [hU]; exact hP.sub (ws' := (w_0_1_2_3_4 q cI cJ cD Tn Ta Fn Fa)) [0, 1, 2, 3, 4] rfl, gEv.warm hW hE⟩⟩ rfl rfl hl.1 rfl (lv_room (Nat.le_of_ble_eq_true rfl)) dX8_factorLength_2 ⟨Nat.zero_le _, Nat.zero_le _⟩) hP hS (gSub rfl) rfl rfl rfl rfl rfl (fun H locs hP hS => ?_)
  refine lv_aload_n hx hb dX8_factorLength_5 rfl (lv_at hl 0 rfl) ?_
  refine va_get (D := D) (ci := 6) (v := .ref (q 3)) (C := RX8) (T := TX8) (N := 6) hx hb hts huX8 hown hE.1 hP 0 rfl rfl 1 (by decide) hk19 (fun _ h9 => h9) rfl dX8_factorLength_6 ?_
  refine lv_iload_n hx hb dX8_factorLength_9 rfl (lv_at hl 1 rfl) ?_
  refine lv_iconst (v := (1 : Int32)) hx hb dX8_factorLength_10 (by decide) ?_
  refine lv_iadd hx hb dX8_factorLength_11 ?_
  obtain ⟨r12, hc, hf⟩ := bn_some hf
  try dsimp only at hf
  refine g_call0 (ws' := (w_0_1_2_3_4 q cI cJ cD Tn Ta Fn2 Fa2)) (st1 := [.int r12]) hq [0, 1, 2, 3, 4] [3, 4] [.inr 0, .inr 1, .inr 2, .inl 0, .inl 1] (va_runV (As := [.int (p1 + (1 : Int32))]) (rest := []) ⟨hx, hb, hml, hown, hts⟩ (kX1_start l D cI cJ cD q hq N Fn2 Fa2 (p1 + (1 : Int32)) r12 hc) (cwV 1 hts gX8_factorLength_X1_start rfl rfl rfl (by decide +kernel) ⟨(Nat.le_of_ble_eq_true rfl), (Nat.le_of_ble_eq_true rfl)⟩) ⟨gP_blind, va_recv hE.1 hP (ci := 1) (q0 := 3) rfl rfl, fun U hU hW => ⟨rfl, by rw [hU]; exact hP.sub (ws' := (w_3_4 q cI cJ cD Fn2 Fa2)) [3, 4] rfl, gEv.warm hW hE⟩⟩ rfl rfl hl.1 rfl (lv_room (Nat.le_of_ble_eq_true rfl)) dX8_factorLength_12 ⟨Nat.zero_le _, Nat.zero_le _⟩) hP hS (gSub rfl) rfl rfl rfl rfl rfl (fun H locs hP hS => ?_)
  refine lv_aload_n hx hb dX8_factorLength_15 rfl (lv_at hl 0 rfl) ?_
  refine va_get (D := D) (ci := 6) (v := .ref (q 3)) (C := RX8) (T := TX8) (N := 6) hx hb hts huX8 hown hE.1 hP 0 rfl rfl 1 (by decide) hk19 (fun _ h9 => h9) rfl dX8_factorLength_16 ?_
  refine lv_iload_n hx hb dX8_factorLength_19 rfl (lv_at hl 1 rfl) ?_
  obtain ⟨r20, hc, hf⟩ := bn_some hf
  try dsimp only at hf
  refine g_call0 (ws' := (w_0_1_2_3_4 q cI cJ cD Tn Ta Fn2 Fa2)) (st1 := [.int r20, .int r12]) hq [0, 1, 2, 3, 4] [3, 4] [.inr 0, .inr 1, .inr 2, .inl 0, .inl 1] (va_runV (As := [.int p1]) (rest := [.int r12]) ⟨hx, hb, hml, hown, hts⟩ (kX1_start l D cI cJ cD q hq N Fn2 Fa2 p1 r20 hc) (cwV 1 hts gX8_factorLength_X1_start rfl rfl rfl (by decide +kernel) ⟨(Nat.le_of_ble_eq_true rfl), (Nat.le_of_ble_eq_true rfl)⟩) ⟨gP_blind, va_recv hE.1 hP (ci := 1) (q0 := 3) rfl rfl, fun U hU hW => ⟨rfl, by rw [hU]; exact hP.sub (ws' := (w_3_4 q cI cJ cD Fn2 Fa2)) [3, 4] rfl, gEv.warm hW hE⟩⟩ rfl rfl hl.1 rfl (lv_room (Nat.le_of_ble_eq_true rfl)) dX8_factorLength_20 ⟨Nat.zero_le _, Nat.zero_le _⟩) hP hS (gSub rfl) rfl rfl rfl rfl rfl (fun H locs hP hS => ?_)
  refine lv_isub hx hb dX8_factorLength_23 ?_
  exact nomatch hf
set_option maxHeartbeats 4000000 in
set_option maxRecDepth 100000 in
theorem kX8_factorOver (l : Launch) (D : va_G) (cI cJ cD : ClassId) (q : Nat → Nat) (hq : gInj 14 q) (N : Nat) (Tn : Int32) (Ta : (Nat → Int32)) (Fn : Int32) (Fa : (Nat → Int32)) (p1 : Int32) (r0 : Int32) (Fn9 : Int32) (Fa9 : (Nat → Int32)) (hf : fX8_factorOver N Tn Ta Fn Fa p1 = some (.inr (r0, Fn9, Fa9))) : Met l yX8_factorOver wsX8_factorOver rX8_factorOver (gP D cI cJ cD [.ref (q 0), .int p1] (w_0_1_2_3_4 q cI cJ cD Tn Ta Fn Fa)) (gQ D (some (.int r0)) (w_0_1_2_3_4 q cI cJ cD Tn Ta Fn9 Fa9) (gA q [0, 1, 2, 3, 4])) 0 0 (gA q [0, 1, 2, 3, 4]) := by
  refine Met.ofW (cc := cX8_factorOver) (maxL := 2) (ret := (some .int)) (by decide +kernel) rfl ?_
  intro p e s m args below meth c s₁ B hml hv
  obtain ⟨rfl, hP, hE⟩ := hv
  have hx := B.exec
  have hb := B.bytes
  have hr := B.returns
  have hts := atoms_spec (ws := wsX8_factorOver) B.pre
  have hown : s.vm.findClass RX8 = some m.cls := findClass_of_methodNamed B.named
  have hlocks := B.notSynchronized
  have hS : va_S (gA q [0, 1, 2, 3, 4]) s.heap s.heap [] := va_S.rf
  have hl := lv_entry ([.ref (q 0), .int p1]) (n := 2) (Nat.le_of_ble_eq_true rfl)
  rw [lg_entry_eq]
  generalize (lg_sl ([.ref (q 0), .int p1]) ++ List.replicate (2 - (lg_sl ([.ref (q 0), .int p1])).length) Slot.unset).toArray = ls at hl ⊢
  have hl : lv_has ls 2 [(0, .ref (q 0)), (1, .int p1)] := hl
  have hk10 := hts (.fieldLink RX8 10 "LyndonText" "text" "LLyndonText$Letters;") (by decide +kernel)
  have hk19 := hts (.fieldLink RX8 19 "LyndonText" "factorRow" "LLyndonText$Factors;") (by decide +kernel)
  have huX8 : ∀ w ∈ u_ws RX8 TX8 6, w ∈ wsX8_factorOver := by decide +kernel
  unfold fX8_factorOver at hf
  refine lv_iload_n hx hb dX8_factorOver_0 rfl (lv_at hl 1 rfl) ?_
  refine lv_aload_n hx hb dX8_factorOver_1 rfl (lv_at hl 0 rfl) ?_
  refine va_get (D := D) (ci := 6) (v := .ref (q 1)) (C := RX8) (T := TX8) (N := 6) hx hb hts huX8 hown hE.1 hP 0 rfl rfl 0 (by decide) hk10 (fun _ h9 => h9) rfl dX8_factorOver_2 ?_
  obtain ⟨r5, hc, hf⟩ := bn_some hf
  try dsimp only at hf
  refine g_call0 (ws' := (w_0_1_2_3_4 q cI cJ cD Tn Ta Fn Fa)) (st1 := [.int r5, .int p1]) hq [0, 1, 2, 3, 4] [1] [.inr 0, .inl 0, .inr 2, .inr 3, .inr 4] (va_runV (As := []) (rest := [.int p1]) ⟨hx, hb, hml, hown, hts⟩ (kX2_count l D cI cJ cD q hq N Tn r5 hc) (cwV 0 hts gX8_factorOver_X2_count rfl rfl rfl (by decide +kernel) ⟨(Nat.le_of_ble_eq_true rfl), (Nat.le_of_ble_eq_true rfl)⟩) ⟨gP_blind, va_recv hE.1 hP (ci := 2) (q0 := 1) rfl rfl, fun U hU hW => ⟨rfl, by rw [hU]; exact hP.sub (ws' := (w_1 q cI cJ cD Tn)) [1] rfl, gEv.warm hW hE⟩⟩ rfl rfl hl.1 rfl (lv_room (Nat.le_of_ble_eq_true rfl)) dX8_factorOver_5 ⟨Nat.zero_le _, Nat.zero_le _⟩) hP hS (gSub rfl) rfl rfl rfl rfl rfl (fun H locs hP hS => ?_)
  rcases bx_some hf with ⟨e8, hc, hf⟩ | ⟨⟨⟩, hc, hf⟩
  · exact nomatch hf
  try dsimp only at hf
  refine g_call0 (ws' := (w_0_1_2_3_4 q cI cJ cD Tn Ta Fn Fa)) (st1 := []) hq [0, 1, 2, 3, 4] [] [.inr 0, .inr 1, .inr 2, .inr 3, .inr 4] (va_runS (As := [.int p1, .int r5]) (rest := []) ⟨hx, hb, hml, hown, hts⟩ (kX8_checkIndex l D cI cJ cD q hq N p1 r5 hc) (va_cwS 2 hts gX8_factorOver_X8_checkIndex rfl rfl rfl (by decide +kernel) ⟨(Nat.le_of_ble_eq_true rfl), (Nat.le_of_ble_eq_true rfl)⟩) ⟨gP_blind, fun U hU hW => ⟨rfl, by rw [hU]; exact hP.sub (ws' := (w_0none q cI cJ cD)) [] rfl, gEv.warm hW hE⟩⟩ rfl rfl hl.1 rfl (lv_room (Nat.le_of_ble_eq_true rfl)) dX8_factorOver_8 ⟨Nat.zero_le _, Nat.zero_le _⟩) hP hS (gSub rfl) rfl rfl rfl rfl rfl (fun H locs hP hS => ?_)
  refine lv_aload_n hx hb dX8_factorOver_11 rfl (lv_at hl 0 rfl) ?_
  refine va_get (D := D) (ci := 6) (v := .ref (q 3)) (C := RX8) (T := TX8) (N := 6) hx hb hts huX8 hown hE.1 hP 0 rfl rfl 1 (by decide) hk19 (fun _ h9 => h9) rfl dX8_factorOver_12 ?_
  refine lv_aload_n hx hb dX8_factorOver_15 rfl (lv_at hl 0 rfl) ?_
  refine va_get (D := D) (ci := 6) (v := .ref (q 1)) (C := RX8) (T := TX8) (N := 6) hx hb hts huX8 hown hE.1 hP 0 rfl rfl 0 (by decide) hk10 (fun _ h9 => h9) rfl dX8_factorOver_16 ?_
  obtain ⟨⟨Fn19, Fa19⟩, hc, hf⟩ := bn_some hf
  try dsimp only at hf
  refine g_call0 (ws' := (w_0_1_2_3_4 q cI cJ cD Tn Ta Fn19 Fa19)) (st1 := []) hq [0, 1, 2, 3, 4] [1, 2, 3, 4] [.inr 0, .inl 0, .inl 1, .inl 2, .inl 3] (va_runV (As := [.ref (q 1)]) (rest := []) ⟨hx, hb, hml, hown, hts⟩ (kX1_find l D cI cJ cD q hq N Tn Ta Fn Fa Fn19 Fa19 hc) (cwV 1 hts gX8_factorOver_X1_find rfl rfl rfl (by decide +kernel) ⟨(Nat.le_of_ble_eq_true rfl), (Nat.le_of_ble_eq_true rfl)⟩) ⟨gP_blind, va_recv hE.1 hP (ci := 1) (q0 := 3) rfl rfl, fun U hU hW => ⟨rfl, by rw [hU]; exact hP.sub (ws' := (w_1_2_3_4 q cI cJ cD Tn Ta Fn Fa)) [1, 2, 3, 4] rfl, gEv.warm hW hE⟩⟩ rfl rfl hl.1 rfl (lv_room (Nat.le_of_ble_eq_true rfl)) dX8_factorOver_19 ⟨Nat.zero_le _, Nat.zero_le _⟩) hP hS (gSub rfl) rfl rfl rfl rfl rfl (fun H locs hP hS => ?_)
  refine lv_aload_n hx hb dX8_factorOver_22 rfl (lv_at hl 0 rfl) ?_
  refine va_get (D := D) (ci := 6) (v := .ref (q 3)) (C := RX8) (T := TX8) (N := 6) hx hb hts huX8 hown hE.1 hP 0 rfl rfl 1 (by decide) hk19 (fun _ h9 => h9) rfl dX8_factorOver_23 ?_
  refine lv_iload_n hx hb dX8_factorOver_26 rfl (lv_at hl 1 rfl) ?_
  obtain ⟨r27, hc, hf⟩ := bn_some hf
  try dsimp only at hf
  refine g_call0 (ws' := (w_0_1_2_3_4 q cI cJ cD Tn Ta Fn19 Fa19)) (st1 := [.int r27]) hq [0, 1, 2, 3, 4] [3, 4] [.inr 0, .inr 1, .inr 2, .inl 0, .inl 1] (va_runV (As := [.int p1]) (rest := []) ⟨hx, hb, hml, hown, hts⟩ (kX1_numberOver l D cI cJ cD q hq N Fn19 Fa19 p1 r27 hc) (cwV 1 hts gX8_factorOver_X1_numberOver rfl rfl rfl (by decide +kernel) ⟨(Nat.le_of_ble_eq_true rfl), (Nat.le_of_ble_eq_true rfl)⟩) ⟨gP_blind, va_recv hE.1 hP (ci := 1) (q0 := 3) rfl rfl, fun U hU hW => ⟨rfl, by rw [hU]; exact hP.sub (ws' := (w_3_4 q cI cJ cD Fn19 Fa19)) [3, 4] rfl, gEv.warm hW hE⟩⟩ rfl rfl hl.1 rfl (lv_room (Nat.le_of_ble_eq_true rfl)) dX8_factorOver_27 ⟨Nat.zero_le _, Nat.zero_le _⟩) hP hS (gSub rfl) rfl rfl rfl rfl rfl (fun H locs hP hS => ?_)
  cases hf
  exact W.iret hx hb hr (fun t ht hW => ⟨⟨rfl, by rw [ht]; exact hP⟩, hS.F ht⟩) hS.2.2 dX8_factorOver_30
set_option maxHeartbeats 4000000 in
set_option maxRecDepth 100000 in
theorem kX8_factorOverx (l : Launch) (hlt : l.stackTraces = false) (D : va_G) (cI cJ cD : ClassId) (sa : Nat → Nat) (q : Nat → Nat) (hq : gInj 14 q) (N : Nat) (Tn : Int32) (Ta : (Nat → Int32)) (Fn : Int32) (Fa : (Nat → Int32)) (p1 : Int32) (e0 : Nat) (Fn9 : Int32) (Fa9 : (Nat → Int32)) (hf : fX8_factorOver N Tn Ta Fn Fa p1 = some (.inl (e0, Fn9, Fa9))) : vx_Met l yX8_factorOver wsX8_factorOver rX8_factorOverx (gPx D cI cJ cD sa (gA q [0, 1, 2, 3, 4]) [.ref (q 0), .int p1] (w_0_1_2_3_4 q cI cJ cD Tn Ta Fn Fa)) (fun _ _ _ _ => False) (gX D (gEn e0) (w_0_1_2_3_4 q cI cJ cD Tn Ta Fn9 Fa9) (gA q [0, 1, 2, 3, 4])) 1 6 (gA q [0, 1, 2, 3, 4]) := by
  refine vx_ofW (cc := cX8_factorOver) (maxL := 2) (ret := (some .int)) (by decide +kernel) rfl ?_
  intro p e s m args below meth c s₁ B hml htab hv
  obtain ⟨rfl, hP, hE, hXe⟩ := hv
  have hx := B.exec
  have hb := B.bytes
  have hr := B.returns
  have hts := atoms_spec (ws := wsX8_factorOver) B.pre
  have hown : s.vm.findClass RX8 = some m.cls := findClass_of_methodNamed B.named
  have hlocks := B.notSynchronized
  have hS : va_S (gA q [0, 1, 2, 3, 4]) s.heap s.heap [] := va_S.rf
  have hl := lv_entry ([.ref (q 0), .int p1]) (n := 2) (Nat.le_of_ble_eq_true rfl)
  rw [lg_entry_eq]
  generalize (lg_sl ([.ref (q 0), .int p1]) ++ List.replicate (2 - (lg_sl ([.ref (q 0), .int p1])).length) Slot.unset).toArray = ls at hl ⊢
  have hl : lv_has ls 2 [(0, .ref (q 0)), (1, .int p1)] := hl
  have hk10 := hts (.fieldLink RX8 10 "LyndonText" "text" "LLyndonText$Letters;") (by decide +kernel)
  have hk19 := hts (.fieldLink RX8 19 "LyndonText" "factorRow" "LLyndonText$Factors;") (by decide +kernel)
  have huX8 : ∀ w ∈ u_ws RX8 TX8 6, w ∈ wsX8_factorOver := by decide +kernel
  unfold fX8_factorOver at hf
  refine lv_iload_n hx hb dX8_factorOver_0 rfl (lv_at hl 1 rfl) ?_
  refine lv_aload_n hx hb dX8_factorOver_1 rfl (lv_at hl 0 rfl) ?_
  refine va_get (D := D) (ci := 6) (v := .ref (q 1)) (C := RX8) (T := TX8) (N := 6) hx hb hts huX8 hown hE.1 hP 0 rfl rfl 0 (by decide) hk10 (fun _ h9 => h9) rfl dX8_factorOver_2 ?_
  obtain ⟨r5, hc, hf⟩ := bn_some hf
  try dsimp only at hf
  refine g_call0 (ws' := (w_0_1_2_3_4 q cI cJ cD Tn Ta Fn Fa)) (st1 := [.int r5, .int p1]) hq [0, 1, 2, 3, 4] [1] [.inr 0, .inl 0, .inr 2, .inr 3, .inr 4] (va_runV (As := []) (rest := [.int p1]) ⟨hx, hb, hml, hown, hts⟩ (kX2_count l D cI cJ cD q hq N Tn r5 hc) (cwV 0 hts gX8_factorOver_X2_count rfl rfl rfl (by decide +kernel) ⟨(Nat.le_of_ble_eq_true rfl), (Nat.le_of_ble_eq_true rfl)⟩) ⟨gP_blind, va_recv hE.1 hP (ci := 2) (q0 := 1) rfl rfl, fun U hU hW => ⟨rfl, by rw [hU]; exact hP.sub (ws' := (w_1 q cI cJ cD Tn)) [1] rfl, gEv.warm hW hE⟩⟩ rfl rfl hl.1 rfl (lv_room (Nat.le_of_ble_eq_true rfl)) dX8_factorOver_5 ⟨Nat.zero_le _, Nat.zero_le _⟩) hP hS (gSub rfl) rfl rfl rfl rfl rfl (fun H locs hP hS => ?_)
  rcases bx_some hf with ⟨e8, hc, hf⟩ | ⟨⟨⟩, hc, hf⟩
  · try dsimp only at hf
    refine g_callX (ws' := (w_0_1_2_3_4 q cI cJ cD Tn Ta Fn Fa)) hq [0, 1, 2, 3, 4] [] [.inr 0, .inr 1, .inr 2, .inr 3, .inr 4] (vx_runS (As := [.int p1, .int r5]) (rest := []) ⟨hx, hb, hml, hown, hts⟩ (kX8_checkIndexx l hlt D cI cJ cD sa q hq N p1 r5 e8 hc) (va_cwS 2 hts gX8_factorOver_X8_checkIndex rfl rfl rfl (by decide +kernel) ⟨(Nat.le_of_ble_eq_true rfl), (Nat.le_of_ble_eq_true rfl)⟩) ⟨gPx_blind, fun U hU hW => ⟨rfl, by rw [hU]; exact hP.sub (ws' := (w_0none q cI cJ cD)) [] rfl, gEv.warm hW hE, gXe.go hW hS (gMono rfl) hXe hU⟩⟩ rfl rfl hl.1 rfl (lv_room (Nat.le_of_ble_eq_true rfl)) dX8_factorOver_8 ⟨(Nat.le_of_ble_eq_true rfl), (Nat.le_of_ble_eq_true rfl)⟩) hP hS (gSub rfl) rfl rfl rfl rfl (fun ce q9 H locs hP hS hce hcv hcl => ?_)
    cases hf
    exact vx_out (fun x9 hx9 => (htab x9 hx9).elim) hlocks hce hcv hcl (fun t ht hv => ⟨rfl, by rw [ht]; exact hP, hS.F ht⟩) hS.2.2 (Nat.le_of_ble_eq_true rfl) (Nat.le_of_ble_eq_true rfl)
  try dsimp only at hf
  refine g_call0 (ws' := (w_0_1_2_3_4 q cI cJ cD Tn Ta Fn Fa)) (st1 := []) hq [0, 1, 2, 3, 4] [] [.inr 0, .inr 1, .inr 2, .inr 3, .inr 4] (va_runS (As := [.int p1, .int r5]) (rest := []) ⟨hx, hb, hml, hown, hts⟩ (kX8_checkIndex l D cI cJ cD q hq N p1 r5 hc) (va_cwS 2 hts gX8_factorOver_X8_checkIndex rfl rfl rfl (by decide +kernel) ⟨(Nat.le_of_ble_eq_true rfl), (Nat.le_of_ble_eq_true rfl)⟩) ⟨gP_blind, fun U hU hW => ⟨rfl, by rw [hU]; exact hP.sub (ws' := (w_0none q cI cJ cD)) [] rfl, gEv.warm hW hE⟩⟩ rfl rfl hl.1 rfl (lv_room (Nat.le_of_ble_eq_true rfl)) dX8_factorOver_8 ⟨Nat.zero_le _, Nat.zero_le _⟩) hP hS (gSub rfl) rfl rfl rfl rfl rfl (fun H locs hP hS => ?_)
  refine lv_aload_n hx hb dX8_factorOver_11 rfl (lv_at hl 0 rfl) ?_
  refine va_get (D := D) (ci := 6) (v := .ref (q 3)) (C := RX8) (T := TX8) (N := 6) hx hb hts huX8 hown hE.1 hP 0 rfl rfl 1 (by decide) hk19 (fun _ h9 => h9) rfl dX8_factorOver_12 ?_
  refine lv_aload_n hx hb dX8_factorOver_15 rfl (lv_at hl 0 rfl) ?_
  refine va_get (D := D) (ci := 6) (v := .ref (q 1)) (C := RX8) (T := TX8) (N := 6) hx hb hts huX8 hown hE.1 hP 0 rfl rfl 0 (by decide) hk10 (fun _ h9 => h9) rfl dX8_factorOver_16 ?_
  obtain ⟨⟨Fn19, Fa19⟩, hc, hf⟩ := bn_some hf
  try dsimp only at hf
  refine g_call0 (ws' := (w_0_1_2_3_4 q cI cJ cD Tn Ta Fn19 Fa19)) (st1 := []) hq [0, 1, 2, 3, 4] [1, 2, 3, 4] [.inr 0, .inl 0, .inl 1, .inl 2, .inl 3] (va_runV (As := [.ref (q 1)]) (rest := []) ⟨hx, hb, hml, hown, hts⟩ (kX1_find l D cI cJ cD q hq N Tn Ta Fn Fa Fn19 Fa19 hc) (cwV 1 hts gX8_factorOver_X1_find rfl rfl rfl (by decide +kernel) ⟨(Nat.le_of_ble_eq_true rfl), (Nat.le_of_ble_eq_true rfl)⟩) ⟨gP_blind, va_recv hE.1 hP (ci := 1) (q0 := 3) rfl rfl, fun U hU hW => ⟨rfl, by rw [hU]; exact hP.sub (ws' := (w_1_2_3_4 q cI cJ cD Tn Ta Fn Fa)) [1, 2, 3, 4] rfl, gEv.warm hW hE⟩⟩ rfl rfl hl.1 rfl (lv_room (Nat.le_of_ble_eq_true rfl)) dX8_factorOver_19 ⟨Nat.zero_le _, Nat.zero_le _⟩) hP hS (gSub rfl) rfl rfl rfl rfl rfl (fun H locs hP hS => ?_)
  refine lv_aload_n hx hb dX8_factorOver_22 rfl (lv_at hl 0 rfl) ?_
  refine va_get (D := D) (ci := 6) (v := .ref (q 3)) (C := RX8) (T := TX8) (N := 6) hx hb hts huX8 hown hE.1 hP 0 rfl rfl 1 (by decide) hk19 (fun _ h9 => h9) rfl dX8_factorOver_23 ?_
  refine lv_iload_n hx hb dX8_factorOver_26 rfl (lv_at hl 1 rfl) ?_
  obtain ⟨r27, hc, hf⟩ := bn_some hf
  try dsimp only at hf
  refine g_call0 (ws' := (w_0_1_2_3_4 q cI cJ cD Tn Ta Fn19 Fa19)) (st1 := [.int r27]) hq [0, 1, 2, 3, 4] [3, 4] [.inr 0, .inr 1, .inr 2, .inl 0, .inl 1] (va_runV (As := [.int p1]) (rest := []) ⟨hx, hb, hml, hown, hts⟩ (kX1_numberOver l D cI cJ cD q hq N Fn19 Fa19 p1 r27 hc) (cwV 1 hts gX8_factorOver_X1_numberOver rfl rfl rfl (by decide +kernel) ⟨(Nat.le_of_ble_eq_true rfl), (Nat.le_of_ble_eq_true rfl)⟩) ⟨gP_blind, va_recv hE.1 hP (ci := 1) (q0 := 3) rfl rfl, fun U hU hW => ⟨rfl, by rw [hU]; exact hP.sub (ws' := (w_3_4 q cI cJ cD Fn19 Fa19)) [3, 4] rfl, gEv.warm hW hE⟩⟩ rfl rfl hl.1 rfl (lv_room (Nat.le_of_ble_eq_true rfl)) dX8_factorOver_27 ⟨Nat.zero_le _, Nat.zero_le _⟩) hP hS (gSub rfl) rfl rfl rfl rfl rfl (fun H locs hP hS => ?_)
  exact nomatch hf
